theorem dX10_below_16 : decode cX10_below 16 = .ok (.aload_n 3, 1) := by decide +kernel
theorem dX10_below_17 : decode cX10_below 17 = .ok (.ifnull 10, 3) := by decide +kernel
theorem dX10_below_20 : decode cX10_below 20 = .ok (.aload_n 2, 1) := by decide +kernel
theorem dX10_below_21 : decode cX10_below 21 = .ok (.invokevirtual 118, 3) := by decide +kernel
theorem dX10_below_24 : decode cX10_below 24 = .ok (.ifCond .eq 11, 3) := by decide +kernel
theorem dX10_below_27 : decode cX10_below 27 = .ok (.aload_n 0, 1) := by decide +kernel
theorem dX10_below_28 : decode cX10_below 28 = .ok (.iload_n 1, 1) := by decide +kernel
theorem dX10_below_29 : decode cX10_below 29 = .ok (.aload_n 2, 1) := by decide +kernel
theorem dX10_below_30 : decode cX10_below 30 = .ok (.aload_n 3, 1) := by decide +kernel
theorem dX10_below_31 : decode cX10_below 31 = .ok (.invokevirtual 150, 3) := by decide +kernel
theorem dX10_below_34 : decode cX10_below 34 = .ok (.ireturn, 1) := by decide +kernel
theorem dX10_below_35 : decode cX10_below 35 = .ok (.aload_n 2, 1) := by decide +kernel
theorem dX10_below_36 : decode cX10_below 36 = .ok (.getfield 124, 3) := by decide +kernel
theorem dX10_below_39 : decode cX10_below 39 = .ok (.aload_n 3, 1) := by decide +kernel
theorem dX10_below_40 : decode cX10_below 40 = .ok (.invokevirtual 154, 3) := by decide +kernel
theorem dX10_below_43 : decode cX10_below 43 = .ok (.ireturn, 1) := by decide +kernel
theorem dX10_next_0 : decode cX10_next 0 = .ok (.aload_n 0, 1) := by decide +kernel
theorem dX10_next_1 : decode cX10_next 1 = .ok (.iload_n 1, 1) := by decide +kernel
theorem dX10_next_2 : decode cX10_next 2 = .ok (.invokevirtual 114, 3) := by decide +kernel
theorem dX10_next_5 : decode cX10_next 5 = .ok (.astore_n 2, 1) := by decide +kernel
theorem dX10_next_6 : decode cX10_next 6 = .ok (.aload_n 0, 1) := by decide +kernel
theorem dX10_next_7 : decode cX10_next 7 = .ok (.aload_n 2, 1) := by decide +kernel
theorem dX10_next_8 : decode cX10_next 8 = .ok (.invokevirtual 146, 3) := by decide +kernel
theorem dX10_next_11 : decode cX10_next 11 = .ok (.astore_n 3, 1) := by decide +kernel
theorem dX10_next_12 : decode cX10_next 12 = .ok (.aload_n 2, 1) := by decide +kernel
theorem dX10_next_13 : decode cX10_next 13 = .ok (.ifnull 14, 3) := by decide +kernel
theorem dX10_next_16 : decode cX10_next 16 = .ok (.aload_n 3, 1) := by decide +kernel
theorem dX10_next_17 : decode cX10_next 17 = .ok (.ifnull 10, 3) := by decide +kernel
theorem dX10_next_20 : decode cX10_next 20 = .ok (.aload_n 2, 1) := by decide +kernel
theorem dX10_next_21 : decode cX10_next 21 = .ok (.invokevirtual 118, 3) := by decide +kernel
theorem dX10_next_24 : decode cX10_next 24 = .ok (.ifCond .eq 11, 3) := by decide +kernel
theorem dX10_next_27 : decode cX10_next 27 = .ok (.aload_n 0, 1) := by decide +kernel
theorem dX10_next_28 : decode cX10_next 28 = .ok (.iload_n 1, 1) := by decide +kernel
theorem dX10_next_29 : decode cX10_next 29 = .ok (.aload_n 2, 1) := by decide +kernel
theorem dX10_next_30 : decode cX10_next 30 = .ok (.aload_n 3, 1) := by decide +kernel
theorem dX10_next_31 : decode cX10_next 31 = .ok (.invokevirtual 150, 3) := by decide +kernel
theorem dX10_next_34 : decode cX10_next 34 = .ok (.ireturn, 1) := by decide +kernel
theorem dX10_next_35 : decode cX10_next 35 = .ok (.aload_n 2, 1) := by decide +kernel
theorem dX10_next_36 : decode cX10_next 36 = .ok (.getfield 124, 3) := by decide +kernel
theorem dX10_next_39 : decode cX10_next 39 = .ok (.aload_n 3, 1) := by decide +kernel
theorem dX10_next_40 : decode cX10_next 40 = .ok (.invokevirtual 154, 3) := by decide +kernel
theorem dX10_next_43 : decode cX10_next 43 = .ok (.istore 4, 2) := by decide +kernel
theorem dX10_next_45 : decode cX10_next 45 = .ok (.aload_n 2, 1) := by decide +kernel
theorem dX10_next_46 : decode cX10_next 46 = .ok (.getfield 124, 3) := by decide +kernel
theorem dX10_next_49 : decode cX10_next 49 = .ok (.iload 4, 2) := by decide +kernel
theorem dX10_next_51 : decode cX10_next 51 = .ok (.aload_n 3, 1) := by decide +kernel
theorem dX10_next_52 : decode cX10_next 52 = .ok (.invokevirtual 157, 3) := by decide +kernel
theorem dX10_next_55 : decode cX10_next 55 = .ok (.ifCond .eq 6, 3) := by decide +kernel
theorem dX10_next_58 : decode cX10_next 58 = .ok (.iinc 4 1, 3) := by decide +kernel
theorem dX10_next_61 : decode cX10_next 61 = .ok (.iload 4, 2) := by decide +kernel
theorem dX10_next_63 : decode cX10_next 63 = .ok (.aload_n 2, 1) := by decide +kernel
theorem dX10_next_64 : decode cX10_next 64 = .ok (.getfield 124, 3) := by decide +kernel
theorem dX10_next_67 : decode cX10_next 67 = .ok (.getfield 129, 3) := by decide +kernel
theorem dX10_next_70 : decode cX10_next 70 = .ok (.if_icmp .ge 8, 3) := by decide +kernel
theorem dX10_next_73 : decode cX10_next 73 = .ok (.iload 4, 2) := by decide +kernel
theorem dX10_next_75 : decode cX10_next 75 = .ok (.goto 4, 3) := by decide +kernel
theorem dX10_next_78 : decode cX10_next 78 = .ok (.iconst (-1), 1) := by decide +kernel
theorem dX10_next_79 : decode cX10_next 79 = .ok (.ireturn, 1) := by decide +kernel
theorem dX10_prior_0 : decode cX10_prior 0 = .ok (.aload_n 0, 1) := by decide +kernel
theorem dX10_prior_1 : decode cX10_prior 1 = .ok (.iload_n 1, 1) := by decide +kernel
theorem dX10_prior_2 : decode cX10_prior 2 = .ok (.invokevirtual 114, 3) := by decide +kernel
theorem dX10_prior_5 : decode cX10_prior 5 = .ok (.astore_n 2, 1) := by decide +kernel
theorem dX10_prior_6 : decode cX10_prior 6 = .ok (.aload_n 0, 1) := by decide +kernel
theorem dX10_prior_7 : decode cX10_prior 7 = .ok (.aload_n 2, 1) := by decide +kernel
theorem dX10_prior_8 : decode cX10_prior 8 = .ok (.invokevirtual 146, 3) := by decide +kernel
theorem dX10_prior_11 : decode cX10_prior 11 = .ok (.astore_n 3, 1) := by decide +kernel
theorem dX10_prior_12 : decode cX10_prior 12 = .ok (.aload_n 2, 1) := by decide +kernel
theorem dX10_prior_13 : decode cX10_prior 13 = .ok (.ifnull 14, 3) := by decide +kernel
theorem dX10_prior_16 : decode cX10_prior 16 = .ok (.aload_n 3, 1) := by decide +kernel
theorem dX10_prior_17 : decode cX10_prior 17 = .ok (.ifnull 10, 3) := by decide +kernel
theorem dX10_prior_20 : decode cX10_prior 20 = .ok (.aload_n 2, 1) := by decide +kernel
theorem dX10_prior_21 : decode cX10_prior 21 = .ok (.invokevirtual 118, 3) := by decide +kernel
theorem dX10_prior_24 : decode cX10_prior 24 = .ok (.ifCond .eq 11, 3) := by decide +kernel
theorem dX10_prior_27 : decode cX10_prior 27 = .ok (.aload_n 0, 1) := by decide +kernel
theorem dX10_prior_28 : decode cX10_prior 28 = .ok (.iload_n 1, 1) := by decide +kernel
theorem dX10_prior_29 : decode cX10_prior 29 = .ok (.aload_n 2, 1) := by decide +kernel
theorem dX10_prior_30 : decode cX10_prior 30 = .ok (.aload_n 3, 1) := by decide +kernel
theorem dX10_prior_31 : decode cX10_prior 31 = .ok (.invokevirtual 150, 3) := by decide +kernel
theorem dX10_prior_34 : decode cX10_prior 34 = .ok (.ireturn, 1) := by decide +kernel
theorem dX10_prior_35 : decode cX10_prior 35 = .ok (.aload_n 2, 1) := by decide +kernel
theorem dX10_prior_36 : decode cX10_prior 36 = .ok (.getfield 124, 3) := by decide +kernel
theorem dX10_prior_39 : decode cX10_prior 39 = .ok (.aload_n 3, 1) := by decide +kernel
theorem dX10_prior_40 : decode cX10_prior 40 = .ok (.invokevirtual 154, 3) := by decide +kernel
theorem dX10_prior_43 : decode cX10_prior 43 = .ok (.istore 4, 2) := by decide +kernel
theorem dX10_prior_45 : decode cX10_prior 45 = .ok (.iload 4, 2) := by decide +kernel
theorem dX10_prior_47 : decode cX10_prior 47 = .ok (.ifCond .le 10, 3) := by decide +kernel
theorem dX10_prior_50 : decode cX10_prior 50 = .ok (.iload 4, 2) := by decide +kernel
theorem dX10_prior_52 : decode cX10_prior 52 = .ok (.iconst 1, 1) := by decide +kernel
theorem dX10_prior_53 : decode cX10_prior 53 = .ok (.isub, 1) := by decide +kernel
theorem dX10_prior_54 : decode cX10_prior 54 = .ok (.goto 4, 3) := by decide +kernel
theorem dX10_prior_57 : decode cX10_prior 57 = .ok (.iconst (-1), 1) := by decide +kernel
theorem dX10_prior_58 : decode cX10_prior 58 = .ok (.ireturn, 1) := by decide +kernel
theorem dX10_prefix_0 : decode cX10_prefix 0 = .ok (.aload_n 0, 1) := by decide +kernel
theorem dX10_prefix_1 : decode cX10_prefix 1 = .ok (.iload_n 1, 1) := by decide +kernel
theorem dX10_prefix_2 : decode cX10_prefix 2 = .ok (.invokevirtual 114, 3) := by decide +kernel
theorem dX10_prefix_5 : decode cX10_prefix 5 = .ok (.astore_n 3, 1) := by decide +kernel
theorem dX10_prefix_6 : decode cX10_prefix 6 = .ok (.aload_n 0, 1) := by decide +kernel
theorem dX10_prefix_7 : decode cX10_prefix 7 = .ok (.aload_n 3, 1) := by decide +kernel
theorem dX10_prefix_8 : decode cX10_prefix 8 = .ok (.invokevirtual 146, 3) := by decide +kernel
theorem dX10_prefix_11 : decode cX10_prefix 11 = .ok (.astore 4, 2) := by decide +kernel
theorem dX10_prefix_13 : decode cX10_prefix 13 = .ok (.aload_n 3, 1) := by decide +kernel
theorem dX10_prefix_14 : decode cX10_prefix 14 = .ok (.ifnull 15, 3) := by decide +kernel
theorem dX10_prefix_17 : decode cX10_prefix 17 = .ok (.aload 4, 2) := by decide +kernel
theorem dX10_prefix_19 : decode cX10_prefix 19 = .ok (.ifnull 10, 3) := by decide +kernel
theorem dX10_prefix_22 : decode cX10_prefix 22 = .ok (.aload_n 3, 1) := by decide +kernel
theorem dX10_prefix_23 : decode cX10_prefix 23 = .ok (.invokevirtual 118, 3) := by decide +kernel
theorem dX10_prefix_26 : decode cX10_prefix 26 = .ok (.ifCond .eq 12, 3) := by decide +kernel
theorem dX10_prefix_29 : decode cX10_prefix 29 = .ok (.aload_n 0, 1) := by decide +kernel
theorem dX10_prefix_30 : decode cX10_prefix 30 = .ok (.iload_n 1, 1) := by decide +kernel
theorem dX10_prefix_31 : decode cX10_prefix 31 = .ok (.aload_n 3, 1) := by decide +kernel
theorem dX10_prefix_32 : decode cX10_prefix 32 = .ok (.aload 4, 2) := by decide +kernel
theorem dX10_prefix_34 : decode cX10_prefix 34 = .ok (.invokevirtual 150, 3) := by decide +kernel
theorem dX10_prefix_37 : decode cX10_prefix 37 = .ok (.ireturn, 1) := by decide +kernel
theorem dX10_prefix_38 : decode cX10_prefix 38 = .ok (.aload_n 3, 1) := by decide +kernel
theorem dX10_prefix_39 : decode cX10_prefix 39 = .ok (.getfield 124, 3) := by decide +kernel
theorem dX10_prefix_42 : decode cX10_prefix 42 = .ok (.aload 4, 2) := by decide +kernel
theorem dX10_prefix_44 : decode cX10_prefix 44 = .ok (.invokevirtual 154, 3) := by decide +kernel
theorem dX10_prefix_47 : decode cX10_prefix 47 = .ok (.istore 5, 2) := by decide +kernel
theorem dX10_prefix_49 : decode cX10_prefix 49 = .ok (.aload_n 3, 1) := by decide +kernel
theorem dX10_prefix_50 : decode cX10_prefix 50 = .ok (.getfield 124, 3) := by decide +kernel
theorem dX10_prefix_53 : decode cX10_prefix 53 = .ok (.iload 5, 2) := by decide +kernel
theorem dX10_prefix_55 : decode cX10_prefix 55 = .ok (.aload 4, 2) := by decide +kernel
theorem dX10_prefix_57 : decode cX10_prefix 57 = .ok (.invokevirtual 176, 3) := by decide +kernel
theorem dX10_prefix_60 : decode cX10_prefix 60 = .ok (.istore 6, 2) := by decide +kernel
theorem dX10_prefix_62 : decode cX10_prefix 62 = .ok (.iload 6, 2) := by decide +kernel
theorem dX10_prefix_64 : decode cX10_prefix 64 = .ok (.iload 5, 2) := by decide +kernel
theorem dX10_prefix_66 : decode cX10_prefix 66 = .ok (.if_icmp .ne 9, 3) := by decide +kernel
theorem dX10_prefix_69 : decode cX10_prefix 69 = .ok (.bipush (-10), 2) := by decide +kernel
theorem dX10_prefix_71 : decode cX10_prefix 71 = .ok (.iload 5, 2) := by decide +kernel
theorem dX10_prefix_73 : decode cX10_prefix 73 = .ok (.isub, 1) := by decide +kernel
theorem dX10_prefix_74 : decode cX10_prefix 74 = .ok (.ireturn, 1) := by decide +kernel
theorem dX10_prefix_75 : decode cX10_prefix 75 = .ok (.iload_n 2, 1) := by decide +kernel
theorem dX10_prefix_76 : decode cX10_prefix 76 = .ok (.ifCond .eq 10, 3) := by decide +kernel
theorem dX10_prefix_79 : decode cX10_prefix 79 = .ok (.iload 6, 2) := by decide +kernel
theorem dX10_prefix_81 : decode cX10_prefix 81 = .ok (.iconst 1, 1) := by decide +kernel
theorem dX10_prefix_82 : decode cX10_prefix 82 = .ok (.isub, 1) := by decide +kernel
theorem dX10_prefix_83 : decode cX10_prefix 83 = .ok (.goto 5, 3) := by decide +kernel
theorem dX10_prefix_86 : decode cX10_prefix 86 = .ok (.iload 5, 2) := by decide +kernel
theorem dX10_prefix_88 : decode cX10_prefix 88 = .ok (.ireturn, 1) := by decide +kernel
theorem dX10_longest_0 : decode cX10_longest 0 = .ok (.aload_n 0, 1) := by decide +kernel
theorem dX10_longest_1 : decode cX10_longest 1 = .ok (.iload_n 1, 1) := by decide +kernel
theorem dX10_longest_2 : decode cX10_longest 2 = .ok (.invokevirtual 114, 3) := by decide +kernel
theorem dX10_longest_5 : decode cX10_longest 5 = .ok (.astore_n 2, 1) := by decide +kernel
theorem dX10_longest_6 : decode cX10_longest 6 = .ok (.aload_n 0, 1) := by decide +kernel
theorem dX10_longest_7 : decode cX10_longest 7 = .ok (.aload_n 2, 1) := by decide +kernel
theorem dX10_longest_8 : decode cX10_longest 8 = .ok (.invokevirtual 146, 3) := by decide +kernel
theorem dX10_longest_11 : decode cX10_longest 11 = .ok (.astore_n 3, 1) := by decide +kernel
theorem dX10_longest_12 : decode cX10_longest 12 = .ok (.aload_n 2, 1) := by decide +kernel
theorem dX10_longest_13 : decode cX10_longest 13 = .ok (.ifnull 14, 3) := by decide +kernel
theorem dX10_longest_16 : decode cX10_longest 16 = .ok (.aload_n 3, 1) := by decide +kernel
theorem dX10_longest_17 : decode cX10_longest 17 = .ok (.ifnull 10, 3) := by decide +kernel
theorem dX10_longest_20 : decode cX10_longest 20 = .ok (.aload_n 2, 1) := by decide +kernel
theorem dX10_longest_21 : decode cX10_longest 21 = .ok (.invokevirtual 118, 3) := by decide +kernel
theorem dX10_longest_24 : decode cX10_longest 24 = .ok (.ifCond .eq 11, 3) := by decide +kernel
theorem dX10_longest_27 : decode cX10_longest 27 = .ok (.aload_n 0, 1) := by decide +kernel
theorem dX10_longest_28 : decode cX10_longest 28 = .ok (.iload_n 1, 1) := by decide +kernel
theorem dX10_longest_29 : decode cX10_longest 29 = .ok (.aload_n 2, 1) := by decide +kernel
theorem dX10_longest_30 : decode cX10_longest 30 = .ok (.aload_n 3, 1) := by decide +kernel
theorem dX10_longest_31 : decode cX10_longest 31 = .ok (.invokevirtual 150, 3) := by decide +kernel
theorem dX10_longest_34 : decode cX10_longest 34 = .ok (.ireturn, 1) := by decide +kernel
theorem dX10_longest_35 : decode cX10_longest 35 = .ok (.aload_n 2, 1) := by decide +kernel
theorem dX10_longest_36 : decode cX10_longest 36 = .ok (.getfield 124, 3) := by decide +kernel
theorem dX10_longest_39 : decode cX10_longest 39 = .ok (.aload_n 3, 1) := by decide +kernel
theorem dX10_longest_40 : decode cX10_longest 40 = .ok (.invokevirtual 180, 3) := by decide +kernel
theorem dX10_longest_43 : decode cX10_longest 43 = .ok (.ireturn, 1) := by decide +kernel
theorem dX10_common_0 : decode cX10_common 0 = .ok (.aload_n 0, 1) := by decide +kernel
theorem dX10_common_1 : decode cX10_common 1 = .ok (.iload_n 1, 1) := by decide +kernel
theorem dX10_common_2 : decode cX10_common 2 = .ok (.invokevirtual 114, 3) := by decide +kernel
theorem dX10_common_5 : decode cX10_common 5 = .ok (.astore 4, 2) := by decide +kernel
theorem dX10_common_7 : decode cX10_common 7 = .ok (.aload 4, 2) := by decide +kernel
theorem dX10_common_9 : decode cX10_common 9 = .ok (.ifnonnull 9, 3) := by decide +kernel
theorem dX10_common_12 : decode cX10_common 12 = .ok (.aload_n 0, 1) := by decide +kernel
theorem dX10_common_13 : decode cX10_common 13 = .ok (.iload_n 1, 1) := by decide +kernel
theorem dX10_common_14 : decode cX10_common 14 = .ok (.invokevirtual 88, 3) := by decide +kernel
theorem dX10_common_17 : decode cX10_common 17 = .ok (.ireturn, 1) := by decide +kernel
theorem dX10_common_18 : decode cX10_common 18 = .ok (.aload 4, 2) := by decide +kernel
theorem dX10_common_20 : decode cX10_common 20 = .ok (.getfield 124, 3) := by decide +kernel
theorem dX10_common_23 : decode cX10_common 23 = .ok (.iload_n 2, 1) := by decide +kernel
theorem dX10_common_24 : decode cX10_common 24 = .ok (.invokevirtual 161, 3) := by decide +kernel
theorem dX10_common_27 : decode cX10_common 27 = .ok (.ifCond .eq 15, 3) := by decide +kernel
theorem dX10_common_30 : decode cX10_common 30 = .ok (.aload 4, 2) := by decide +kernel
theorem dX10_common_32 : decode cX10_common 32 = .ok (.getfield 124, 3) := by decide +kernel
theorem dX10_common_35 : decode cX10_common 35 = .ok (.iload_n 3, 1) := by decide +kernel
theorem dX10_common_36 : decode cX10_common 36 = .ok (.invokevirtual 161, 3) := by decide +kernel
theorem dX10_common_39 : decode cX10_common 39 = .ok (.ifCond .ne 6, 3) := by decide +kernel
theorem dX10_common_42 : decode cX10_common 42 = .ok (.bipush (-5), 2) := by decide +kernel
theorem dX10_common_44 : decode cX10_common 44 = .ok (.ireturn, 1) := by decide +kernel
theorem dX10_common_45 : decode cX10_common 45 = .ok (.aload 4, 2) := by decide +kernel
theorem dX10_common_47 : decode cX10_common 47 = .ok (.invokevirtual 118, 3) := by decide +kernel
theorem dX10_common_50 : decode cX10_common 50 = .ok (.ifCond .eq 6, 3) := by decide +kernel
theorem dX10_common_53 : decode cX10_common 53 = .ok (.bipush (-6), 2) := by decide +kernel
theorem dX10_common_55 : decode cX10_common 55 = .ok (.ireturn, 1) := by decide +kernel
theorem dX10_common_56 : decode cX10_common 56 = .ok (.aload 4, 2) := by decide +kernel
theorem dX10_common_58 : decode cX10_common 58 = .ok (.getfield 124, 3) := by decide +kernel
theorem dX10_common_61 : decode cX10_common 61 = .ok (.getfield 164, 3) := by decide +kernel
theorem dX10_common_64 : decode cX10_common 64 = .ok (.iload_n 2, 1) := by decide +kernel
theorem dX10_common_65 : decode cX10_common 65 = .ok (.aaload, 1) := by decide +kernel
theorem dX10_common_66 : decode cX10_common 66 = .ok (.aload 4, 2) := by decide +kernel
theorem dX10_common_68 : decode cX10_common 68 = .ok (.getfield 124, 3) := by decide +kernel
theorem dX10_common_71 : decode cX10_common 71 = .ok (.getfield 164, 3) := by decide +kernel
theorem dX10_common_74 : decode cX10_common 74 = .ok (.iload_n 3, 1) := by decide +kernel
theorem dX10_common_75 : decode cX10_common 75 = .ok (.aaload, 1) := by decide +kernel
theorem dX10_common_76 : decode cX10_common 76 = .ok (.invokevirtual 183, 3) := by decide +kernel
theorem dX10_common_79 : decode cX10_common 79 = .ok (.ireturn, 1) := by decide +kernel
theorem dX10_rank_0 : decode cX10_rank 0 = .ok (.aload_n 0, 1) := by decide +kernel
theorem dX10_rank_1 : decode cX10_rank 1 = .ok (.iload_n 1, 1) := by decide +kernel
theorem dX10_rank_2 : decode cX10_rank 2 = .ok (.invokevirtual 188, 3) := by decide +kernel
theorem dX10_rank_5 : decode cX10_rank 5 = .ok (.astore_n 3, 1) := by decide +kernel
theorem dX10_rank_6 : decode cX10_rank 6 = .ok (.aload_n 3, 1) := by decide +kernel
theorem dX10_rank_7 : decode cX10_rank 7 = .ok (.ifnonnull 9, 3) := by decide +kernel
theorem dX10_rank_10 : decode cX10_rank 10 = .ok (.aload_n 0, 1) := by decide +kernel
theorem dX10_rank_11 : decode cX10_rank 11 = .ok (.iload_n 1, 1) := by decide +kernel
theorem dX10_rank_12 : decode cX10_rank 12 = .ok (.invokevirtual 88, 3) := by decide +kernel
theorem dX10_rank_15 : decode cX10_rank 15 = .ok (.ireturn, 1) := by decide +kernel
theorem dX10_rank_16 : decode cX10_rank 16 = .ok (.iload_n 2, 1) := by decide +kernel
theorem dX10_rank_17 : decode cX10_rank 17 = .ok (.ifCond .lt 11, 3) := by decide +kernel
theorem dX10_rank_20 : decode cX10_rank 20 = .ok (.iload_n 2, 1) := by decide +kernel
theorem dX10_rank_21 : decode cX10_rank 21 = .ok (.aload_n 3, 1) := by decide +kernel
theorem dX10_rank_22 : decode cX10_rank 22 = .ok (.getfield 192, 3) := by decide +kernel
theorem dX10_rank_25 : decode cX10_rank 25 = .ok (.if_icmp .le 6, 3) := by decide +kernel
theorem dX10_rank_28 : decode cX10_rank 28 = .ok (.bipush (-5), 2) := by decide +kernel
theorem dX10_rank_30 : decode cX10_rank 30 = .ok (.ireturn, 1) := by decide +kernel
theorem dX10_rank_31 : decode cX10_rank 31 = .ok (.aload_n 3, 1) := by decide +kernel
theorem dX10_rank_32 : decode cX10_rank 32 = .ok (.invokevirtual 195, 3) := by decide +kernel
theorem dX10_rank_35 : decode cX10_rank 35 = .ok (.ifCond .eq 8, 3) := by decide +kernel
theorem dX10_rank_38 : decode cX10_rank 38 = .ok (.bipush (-6), 2) := by decide +kernel
theorem dX10_rank_40 : decode cX10_rank 40 = .ok (.goto 8, 3) := by decide +kernel
theorem dX10_rank_43 : decode cX10_rank 43 = .ok (.aload_n 3, 1) := by decide +kernel
theorem dX10_rank_44 : decode cX10_rank 44 = .ok (.iload_n 2, 1) := by decide +kernel
theorem dX10_rank_45 : decode cX10_rank 45 = .ok (.invokevirtual 196, 3) := by decide +kernel
theorem dX10_rank_48 : decode cX10_rank 48 = .ok (.ireturn, 1) := by decide +kernel
theorem dX10_select_0 : decode cX10_select 0 = .ok (.aload_n 0, 1) := by decide +kernel
theorem dX10_select_1 : decode cX10_select 1 = .ok (.iload_n 1, 1) := by decide +kernel
theorem dX10_select_2 : decode cX10_select 2 = .ok (.invokevirtual 188, 3) := by decide +kernel
theorem dX10_select_5 : decode cX10_select 5 = .ok (.astore_n 3, 1) := by decide +kernel
theorem dX10_select_6 : decode cX10_select 6 = .ok (.aload_n 3, 1) := by decide +kernel
theorem dX10_select_7 : decode cX10_select 7 = .ok (.ifnonnull 9, 3) := by decide +kernel
theorem dX10_select_10 : decode cX10_select 10 = .ok (.aload_n 0, 1) := by decide +kernel
theorem dX10_select_11 : decode cX10_select 11 = .ok (.iload_n 1, 1) := by decide +kernel
theorem dX10_select_12 : decode cX10_select 12 = .ok (.invokevirtual 88, 3) := by decide +kernel
theorem dX10_select_15 : decode cX10_select 15 = .ok (.ireturn, 1) := by decide +kernel
theorem dX10_select_16 : decode cX10_select 16 = .ok (.iload_n 2, 1) := by decide +kernel
theorem dX10_select_17 : decode cX10_select 17 = .ok (.ifCond .lt 11, 3) := by decide +kernel
theorem dX10_select_20 : decode cX10_select 20 = .ok (.iload_n 2, 1) := by decide +kernel
theorem dX10_select_21 : decode cX10_select 21 = .ok (.aload_n 3, 1) := by decide +kernel
theorem dX10_select_22 : decode cX10_select 22 = .ok (.getfield 199, 3) := by decide +kernel
theorem dX10_select_25 : decode cX10_select 25 = .ok (.if_icmp .lt 6, 3) := by decide +kernel
theorem dX10_select_28 : decode cX10_select 28 = .ok (.bipush (-5), 2) := by decide +kernel
theorem dX10_select_30 : decode cX10_select 30 = .ok (.ireturn, 1) := by decide +kernel
theorem dX10_select_31 : decode cX10_select 31 = .ok (.aload_n 3, 1) := by decide +kernel
theorem dX10_select_32 : decode cX10_select 32 = .ok (.invokevirtual 195, 3) := by decide +kernel
theorem dX10_select_35 : decode cX10_select 35 = .ok (.ifCond .eq 8, 3) := by decide +kernel
theorem dX10_select_38 : decode cX10_select 38 = .ok (.bipush (-6), 2) := by decide +kernel
theorem dX10_select_40 : decode cX10_select 40 = .ok (.goto 8, 3) := by decide +kernel
theorem dX10_select_43 : decode cX10_select 43 = .ok (.aload_n 3, 1) := by decide +kernel
theorem dX10_select_44 : decode cX10_select 44 = .ok (.iload_n 2, 1) := by decide +kernel
theorem dX10_select_45 : decode cX10_select 45 = .ok (.invokevirtual 202, 3) := by decide +kernel
theorem dX10_select_48 : decode cX10_select 48 = .ok (.ireturn, 1) := by decide +kernel
theorem dX10_bit_0 : decode cX10_bit 0 = .ok (.aload_n 0, 1) := by decide +kernel
theorem dX10_bit_1 : decode cX10_bit 1 = .ok (.iload_n 1, 1) := by decide +kernel
theorem dX10_bit_2 : decode cX10_bit 2 = .ok (.invokevirtual 188, 3) := by decide +kernel
theorem dX10_bit_5 : decode cX10_bit 5 = .ok (.astore_n 3, 1) := by decide +kernel
theorem dX10_bit_6 : decode cX10_bit 6 = .ok (.aload_n 3, 1) := by decide +kernel
theorem dX10_bit_7 : decode cX10_bit 7 = .ok (.ifnonnull 9, 3) := by decide +kernel
theorem dX10_bit_10 : decode cX10_bit 10 = .ok (.aload_n 0, 1) := by decide +kernel
theorem dX10_bit_11 : decode cX10_bit 11 = .ok (.iload_n 1, 1) := by decide +kernel
theorem dX10_bit_12 : decode cX10_bit 12 = .ok (.invokevirtual 88, 3) := by decide +kernel
theorem dX10_bit_15 : decode cX10_bit 15 = .ok (.ireturn, 1) := by decide +kernel
theorem dX10_bit_16 : decode cX10_bit 16 = .ok (.aload_n 3, 1) := by decide +kernel
theorem dX10_bit_17 : decode cX10_bit 17 = .ok (.iload_n 2, 1) := by decide +kernel
theorem dX10_bit_18 : decode cX10_bit 18 = .ok (.invokevirtual 205, 3) := by decide +kernel
theorem dX10_bit_21 : decode cX10_bit 21 = .ok (.ifCond .eq 11, 3) := by decide +kernel
theorem dX10_bit_24 : decode cX10_bit 24 = .ok (.aload_n 3, 1) := by decide +kernel
theorem dX10_bit_25 : decode cX10_bit 25 = .ok (.iload_n 2, 1) := by decide +kernel
theorem dX10_bit_26 : decode cX10_bit 26 = .ok (.invokevirtual 208, 3) := by decide +kernel
theorem dX10_bit_29 : decode cX10_bit 29 = .ok (.goto 5, 3) := by decide +kernel
theorem dX10_bit_32 : decode cX10_bit 32 = .ok (.bipush (-5), 2) := by decide +kernel
theorem dX10_bit_34 : decode cX10_bit 34 = .ok (.ireturn, 1) := by decide +kernel
theorem dX10_flip_0 : decode cX10_flip 0 = .ok (.aload_n 0, 1) := by decide +kernel
theorem dX10_flip_1 : decode cX10_flip 1 = .ok (.iload_n 1, 1) := by decide +kernel
theorem dX10_flip_2 : decode cX10_flip 2 = .ok (.invokevirtual 211, 3) := by decide +kernel
theorem dX10_flip_5 : decode cX10_flip 5 = .ok (.astore 4, 2) := by decide +kernel
theorem dX10_flip_7 : decode cX10_flip 7 = .ok (.aload 4, 2) := by decide +kernel
theorem dX10_flip_9 : decode cX10_flip 9 = .ok (.ifnonnull 9, 3) := by decide +kernel
theorem dX10_flip_12 : decode cX10_flip 12 = .ok (.aload_n 0, 1) := by decide +kernel
theorem dX10_flip_13 : decode cX10_flip 13 = .ok (.iload_n 1, 1) := by decide +kernel
theorem dX10_flip_14 : decode cX10_flip 14 = .ok (.invokevirtual 88, 3) := by decide +kernel
theorem dX10_flip_17 : decode cX10_flip 17 = .ok (.ireturn, 1) := by decide +kernel
theorem dX10_flip_18 : decode cX10_flip 18 = .ok (.aload 4, 2) := by decide +kernel
theorem dX10_flip_20 : decode cX10_flip 20 = .ok (.iload_n 2, 1) := by decide +kernel
theorem dX10_flip_21 : decode cX10_flip 21 = .ok (.invokevirtual 205, 3) := by decide +kernel
theorem dX10_flip_24 : decode cX10_flip 24 = .ok (.ifCond .ne 6, 3) := by decide +kernel
theorem dX10_flip_27 : decode cX10_flip 27 = .ok (.bipush (-5), 2) := by decide +kernel
theorem dX10_flip_29 : decode cX10_flip 29 = .ok (.ireturn, 1) := by decide +kernel
theorem dX10_flip_30 : decode cX10_flip 30 = .ok (.aload 4, 2) := by decide +kernel
theorem dX10_flip_32 : decode cX10_flip 32 = .ok (.iload_n 2, 1) := by decide +kernel
theorem dX10_flip_33 : decode cX10_flip 33 = .ok (.invokevirtual 208, 3) := by decide +kernel
theorem dX10_flip_36 : decode cX10_flip 36 = .ok (.istore 5, 2) := by decide +kernel
theorem dX10_flip_38 : decode cX10_flip 38 = .ok (.aload 4, 2) := by decide +kernel
theorem dX10_flip_40 : decode cX10_flip 40 = .ok (.iload_n 2, 1) := by decide +kernel
theorem dX10_flip_41 : decode cX10_flip 41 = .ok (.iload_n 3, 1) := by decide +kernel
theorem dX10_flip_42 : decode cX10_flip 42 = .ok (.invokevirtual 214, 3) := by decide +kernel
theorem dX10_flip_45 : decode cX10_flip 45 = .ok (.aload 4, 2) := by decide +kernel
theorem dX10_flip_47 : decode cX10_flip 47 = .ok (.invokevirtual 218, 3) := by decide +kernel
theorem dX10_flip_50 : decode cX10_flip 50 = .ok (.iload 5, 2) := by decide +kernel
theorem dX10_flip_52 : decode cX10_flip 52 = .ok (.ireturn, 1) := by decide +kernel
theorem dX10_about_0 : decode cX10_about 0 = .ok (.aload_n 0, 1) := by decide +kernel
theorem dX10_about_1 : decode cX10_about 1 = .ok (.iload_n 1, 1) := by decide +kernel
theorem dX10_about_2 : decode cX10_about 2 = .ok (.invokevirtual 114, 3) := by decide +kernel
theorem dX10_about_5 : decode cX10_about 5 = .ok (.astore_n 3, 1) := by decide +kernel
theorem dX10_about_6 : decode cX10_about 6 = .ok (.aload_n 3, 1) := by decide +kernel
theorem dX10_about_7 : decode cX10_about 7 = .ok (.ifnonnull 9, 3) := by decide +kernel
theorem dX10_about_10 : decode cX10_about 10 = .ok (.aload_n 0, 1) := by decide +kernel
theorem dX10_about_11 : decode cX10_about 11 = .ok (.iload_n 1, 1) := by decide +kernel
theorem dX10_about_12 : decode cX10_about 12 = .ok (.invokevirtual 88, 3) := by decide +kernel
theorem dX10_about_15 : decode cX10_about 15 = .ok (.ireturn, 1) := by decide +kernel
theorem dX10_about_16 : decode cX10_about 16 = .ok (.iload_n 2, 1) := by decide +kernel
theorem dX10_about_17 : decode cX10_about 17 = .ok (.tableswitch 132 0 7 #[47, 52, 71, 76, 81, 100, 105, 113], 47) := by decide +kernel
theorem dX10_about_64 : decode cX10_about 64 = .ok (.aload_n 3, 1) := by decide +kernel
theorem dX10_about_65 : decode cX10_about 65 = .ok (.getfield 221, 3) := by decide +kernel
theorem dX10_about_68 : decode cX10_about 68 = .ok (.ireturn, 1) := by decide +kernel
theorem dX10_about_69 : decode cX10_about 69 = .ok (.aload_n 3, 1) := by decide +kernel
theorem dX10_about_70 : decode cX10_about 70 = .ok (.getfield 224, 3) := by decide +kernel
theorem dX10_about_73 : decode cX10_about 73 = .ok (.ifnonnull 7, 3) := by decide +kernel
theorem dX10_about_76 : decode cX10_about 76 = .ok (.iconst 0, 1) := by decide +kernel
theorem dX10_about_77 : decode cX10_about 77 = .ok (.goto 10, 3) := by decide +kernel
theorem dX10_about_80 : decode cX10_about 80 = .ok (.aload_n 3, 1) := by decide +kernel
theorem dX10_about_81 : decode cX10_about 81 = .ok (.getfield 224, 3) := by decide +kernel
theorem dX10_about_84 : decode cX10_about 84 = .ok (.getfield 192, 3) := by decide +kernel
theorem dX10_about_87 : decode cX10_about 87 = .ok (.ireturn, 1) := by decide +kernel
theorem dX10_about_88 : decode cX10_about 88 = .ok (.aload_n 3, 1) := by decide +kernel
theorem dX10_about_89 : decode cX10_about 89 = .ok (.getfield 228, 3) := by decide +kernel
theorem dX10_about_92 : decode cX10_about 92 = .ok (.ireturn, 1) := by decide +kernel
theorem dX10_about_93 : decode cX10_about 93 = .ok (.aload_n 3, 1) := by decide +kernel
theorem dX10_about_94 : decode cX10_about 94 = .ok (.getfield 231, 3) := by decide +kernel
theorem dX10_about_97 : decode cX10_about 97 = .ok (.ireturn, 1) := by decide +kernel
theorem dX10_about_98 : decode cX10_about 98 = .ok (.aload_n 3, 1) := by decide +kernel
theorem dX10_about_99 : decode cX10_about 99 = .ok (.invokevirtual 234, 3) := by decide +kernel
theorem dX10_about_102 : decode cX10_about 102 = .ok (.ifCond .eq 13, 3) := by decide +kernel
theorem dX10_about_105 : decode cX10_about 105 = .ok (.aload_n 3, 1) := by decide +kernel
theorem dX10_about_106 : decode cX10_about 106 = .ok (.getfield 124, 3) := by decide +kernel
theorem dX10_about_109 : decode cX10_about 109 = .ok (.getfield 129, 3) := by decide +kernel
theorem dX10_about_112 : decode cX10_about 112 = .ok (.goto 4, 3) := by decide +kernel
theorem dX10_about_115 : decode cX10_about 115 = .ok (.iconst 0, 1) := by decide +kernel
theorem dX10_about_116 : decode cX10_about 116 = .ok (.ireturn, 1) := by decide +kernel
theorem dX10_about_117 : decode cX10_about 117 = .ok (.aload_n 3, 1) := by decide +kernel
theorem dX10_about_118 : decode cX10_about 118 = .ok (.invokevirtual 237, 3) := by decide +kernel
theorem dX10_about_121 : decode cX10_about 121 = .ok (.ireturn, 1) := by decide +kernel
theorem dX10_about_122 : decode cX10_about 122 = .ok (.aload_n 3, 1) := by decide +kernel
theorem dX10_about_123 : decode cX10_about 123 = .ok (.getfield 124, 3) := by decide +kernel
theorem dX10_about_126 : decode cX10_about 126 = .ok (.invokevirtual 240, 3) := by decide +kernel
theorem dX10_about_129 : decode cX10_about 129 = .ok (.ireturn, 1) := by decide +kernel
theorem dX10_about_130 : decode cX10_about 130 = .ok (.aload_n 3, 1) := by decide +kernel
theorem dX10_about_131 : decode cX10_about 131 = .ok (.getfield 224, 3) := by decide +kernel
theorem dX10_about_134 : decode cX10_about 134 = .ok (.ifnonnull 7, 3) := by decide +kernel
theorem dX10_about_137 : decode cX10_about 137 = .ok (.iconst 0, 1) := by decide +kernel
theorem dX10_about_138 : decode cX10_about 138 = .ok (.goto 10, 3) := by decide +kernel
theorem dX10_about_141 : decode cX10_about 141 = .ok (.aload_n 3, 1) := by decide +kernel
theorem dX10_about_142 : decode cX10_about 142 = .ok (.getfield 224, 3) := by decide +kernel
theorem dX10_about_145 : decode cX10_about 145 = .ok (.invokevirtual 243, 3) := by decide +kernel
theorem dX10_about_148 : decode cX10_about 148 = .ok (.ireturn, 1) := by decide +kernel
theorem dX10_about_149 : decode cX10_about 149 = .ok (.bipush (-5), 2) := by decide +kernel
theorem dX10_about_151 : decode cX10_about 151 = .ok (.ireturn, 1) := by decide +kernel
theorem dX10_lose_0 : decode cX10_lose 0 = .ok (.aload_n 0, 1) := by decide +kernel
theorem dX10_lose_1 : decode cX10_lose 1 = .ok (.iload_n 1, 1) := by decide +kernel
theorem dX10_lose_2 : decode cX10_lose 2 = .ok (.invokevirtual 188, 3) := by decide +kernel
theorem dX10_lose_5 : decode cX10_lose 5 = .ok (.astore_n 3, 1) := by decide +kernel
theorem dX10_lose_6 : decode cX10_lose 6 = .ok (.aload_n 3, 1) := by decide +kernel
theorem dX10_lose_7 : decode cX10_lose 7 = .ok (.ifnonnull 9, 3) := by decide +kernel
theorem dX10_lose_10 : decode cX10_lose 10 = .ok (.aload_n 0, 1) := by decide +kernel
theorem dX10_lose_11 : decode cX10_lose 11 = .ok (.iload_n 1, 1) := by decide +kernel
theorem dX10_lose_12 : decode cX10_lose 12 = .ok (.invokevirtual 88, 3) := by decide +kernel
theorem dX10_lose_15 : decode cX10_lose 15 = .ok (.ireturn, 1) := by decide +kernel
theorem dX10_lose_16 : decode cX10_lose 16 = .ok (.iload_n 2, 1) := by decide +kernel
theorem dX10_lose_17 : decode cX10_lose 17 = .ok (.ifCond .eq 11, 3) := by decide +kernel
theorem dX10_lose_20 : decode cX10_lose 20 = .ok (.iload_n 2, 1) := by decide +kernel
theorem dX10_lose_21 : decode cX10_lose 21 = .ok (.iconst 1, 1) := by decide +kernel
theorem dX10_lose_22 : decode cX10_lose 22 = .ok (.if_icmp .eq 6, 3) := by decide +kernel
theorem dX10_lose_25 : decode cX10_lose 25 = .ok (.bipush (-5), 2) := by decide +kernel
theorem dX10_lose_27 : decode cX10_lose 27 = .ok (.ireturn, 1) := by decide +kernel
theorem dX10_lose_28 : decode cX10_lose 28 = .ok (.iload_n 2, 1) := by decide +kernel
theorem dX10_lose_29 : decode cX10_lose 29 = .ok (.ifCond .ne 10, 3) := by decide +kernel
theorem dX10_lose_32 : decode cX10_lose 32 = .ok (.aload_n 3, 1) := by decide +kernel
theorem dX10_lose_33 : decode cX10_lose 33 = .ok (.getfield 246, 3) := by decide +kernel
theorem dX10_lose_36 : decode cX10_lose 36 = .ok (.goto 7, 3) := by decide +kernel
theorem dX10_lose_39 : decode cX10_lose 39 = .ok (.aload_n 3, 1) := by decide +kernel
theorem dX10_lose_40 : decode cX10_lose 40 = .ok (.getfield 250, 3) := by decide +kernel
theorem dX10_lose_43 : decode cX10_lose 43 = .ok (.istore 4, 2) := by decide +kernel
theorem dX10_lose_45 : decode cX10_lose 45 = .ok (.iload_n 2, 1) := by decide +kernel
theorem dX10_lose_46 : decode cX10_lose 46 = .ok (.ifCond .ne 11, 3) := by decide +kernel
theorem dX10_lose_49 : decode cX10_lose 49 = .ok (.aload_n 3, 1) := by decide +kernel
theorem dX10_lose_50 : decode cX10_lose 50 = .ok (.iconst 1, 1) := by decide +kernel
theorem dX10_lose_51 : decode cX10_lose 51 = .ok (.putfield 246, 3) := by decide +kernel
theorem dX10_lose_54 : decode cX10_lose 54 = .ok (.goto 8, 3) := by decide +kernel
theorem dX10_lose_57 : decode cX10_lose 57 = .ok (.aload_n 3, 1) := by decide +kernel
theorem dX10_lose_58 : decode cX10_lose 58 = .ok (.iconst 1, 1) := by decide +kernel
theorem dX10_lose_59 : decode cX10_lose 59 = .ok (.putfield 250, 3) := by decide +kernel
theorem dX10_lose_62 : decode cX10_lose 62 = .ok (.iload 4, 2) := by decide +kernel
theorem dX10_lose_64 : decode cX10_lose 64 = .ok (.ifCond .eq 7, 3) := by decide +kernel
theorem dX10_lose_67 : decode cX10_lose 67 = .ok (.iconst 0, 1) := by decide +kernel
theorem dX10_lose_68 : decode cX10_lose 68 = .ok (.goto 4, 3) := by decide +kernel
theorem dX10_lose_71 : decode cX10_lose 71 = .ok (.iconst 1, 1) := by decide +kernel
theorem dX10_lose_72 : decode cX10_lose 72 = .ok (.ireturn, 1) := by decide +kernel
theorem dX10_mend_0 : decode cX10_mend 0 = .ok (.aload_n 0, 1) := by decide +kernel
theorem dX10_mend_1 : decode cX10_mend 1 = .ok (.iload_n 1, 1) := by decide +kernel
theorem dX10_mend_2 : decode cX10_mend 2 = .ok (.invokevirtual 188, 3) := by decide +kernel
theorem dX10_mend_5 : decode cX10_mend 5 = .ok (.astore_n 2, 1) := by decide +kernel
theorem dX10_mend_6 : decode cX10_mend 6 = .ok (.aload_n 2, 1) := by decide +kernel
theorem dX10_mend_7 : decode cX10_mend 7 = .ok (.ifnonnull 9, 3) := by decide +kernel
theorem dX10_mend_10 : decode cX10_mend 10 = .ok (.aload_n 0, 1) := by decide +kernel
theorem dX10_mend_11 : decode cX10_mend 11 = .ok (.iload_n 1, 1) := by decide +kernel
theorem dX10_mend_12 : decode cX10_mend 12 = .ok (.invokevirtual 88, 3) := by decide +kernel
theorem dX10_mend_15 : decode cX10_mend 15 = .ok (.ireturn, 1) := by decide +kernel
theorem dX10_mend_16 : decode cX10_mend 16 = .ok (.aload_n 2, 1) := by decide +kernel
theorem dX10_mend_17 : decode cX10_mend 17 = .ok (.getfield 246, 3) := by decide +kernel
theorem dX10_mend_20 : decode cX10_mend 20 = .ok (.ifCond .eq 7, 3) := by decide +kernel
theorem dX10_mend_23 : decode cX10_mend 23 = .ok (.iconst 1, 1) := by decide +kernel
theorem dX10_mend_24 : decode cX10_mend 24 = .ok (.goto 4, 3) := by decide +kernel
theorem dX10_mend_27 : decode cX10_mend 27 = .ok (.iconst 0, 1) := by decide +kernel
theorem dX10_mend_28 : decode cX10_mend 28 = .ok (.aload_n 2, 1) := by decide +kernel
theorem dX10_mend_29 : decode cX10_mend 29 = .ok (.getfield 250, 3) := by decide +kernel
theorem dX10_mend_32 : decode cX10_mend 32 = .ok (.ifCond .eq 7, 3) := by decide +kernel
theorem dX10_mend_35 : decode cX10_mend 35 = .ok (.iconst 1, 1) := by decide +kernel
theorem dX10_mend_36 : decode cX10_mend 36 = .ok (.goto 4, 3) := by decide +kernel
theorem dX10_mend_39 : decode cX10_mend 39 = .ok (.iconst 0, 1) := by decide +kernel
theorem dX10_mend_40 : decode cX10_mend 40 = .ok (.iadd, 1) := by decide +kernel
theorem dX10_mend_41 : decode cX10_mend 41 = .ok (.istore_n 3, 1) := by decide +kernel
theorem dX10_mend_42 : decode cX10_mend 42 = .ok (.aload_n 2, 1) := by decide +kernel
theorem dX10_mend_43 : decode cX10_mend 43 = .ok (.iconst 0, 1) := by decide +kernel
theorem dX10_mend_44 : decode cX10_mend 44 = .ok (.putfield 246, 3) := by decide +kernel
theorem dX10_mend_47 : decode cX10_mend 47 = .ok (.aload_n 2, 1) := by decide +kernel
theorem dX10_mend_48 : decode cX10_mend 48 = .ok (.iconst 0, 1) := by decide +kernel
theorem dX10_mend_49 : decode cX10_mend 49 = .ok (.putfield 250, 3) := by decide +kernel
theorem dX10_mend_52 : decode cX10_mend 52 = .ok (.aload_n 2, 1) := by decide +kernel
theorem dX10_mend_53 : decode cX10_mend 53 = .ok (.invokevirtual 218, 3) := by decide +kernel
theorem dX10_mend_56 : decode cX10_mend 56 = .ok (.iload_n 3, 1) := by decide +kernel
theorem dX10_mend_57 : decode cX10_mend 57 = .ok (.ireturn, 1) := by decide +kernel
theorem dX10_witness_0 : decode cX10_witness 0 = .ok (.aload_n 0, 1) := by decide +kernel
theorem dX10_witness_1 : decode cX10_witness 1 = .ok (.iload_n 1, 1) := by decide +kernel
theorem dX10_witness_2 : decode cX10_witness 2 = .ok (.invokevirtual 253, 3) := by decide +kernel
theorem dX10_witness_5 : decode cX10_witness 5 = .ok (.astore_n 2, 1) := by decide +kernel
theorem dX10_witness_6 : decode cX10_witness 6 = .ok (.aload_n 0, 1) := by decide +kernel
theorem dX10_witness_7 : decode cX10_witness 7 = .ok (.aload_n 2, 1) := by decide +kernel
theorem dX10_witness_8 : decode cX10_witness 8 = .ok (.invokevirtual 146, 3) := by decide +kernel
theorem dX10_witness_11 : decode cX10_witness 11 = .ok (.astore_n 3, 1) := by decide +kernel
theorem dX10_witness_12 : decode cX10_witness 12 = .ok (.aload_n 2, 1) := by decide +kernel
theorem dX10_witness_13 : decode cX10_witness 13 = .ok (.ifnull 14, 3) := by decide +kernel
theorem dX10_witness_16 : decode cX10_witness 16 = .ok (.aload_n 3, 1) := by decide +kernel
theorem dX10_witness_17 : decode cX10_witness 17 = .ok (.ifnull 10, 3) := by decide +kernel
theorem dX10_witness_20 : decode cX10_witness 20 = .ok (.aload_n 2, 1) := by decide +kernel
theorem dX10_witness_21 : decode cX10_witness 21 = .ok (.invokevirtual 118, 3) := by decide +kernel
theorem dX10_witness_24 : decode cX10_witness 24 = .ok (.ifCond .eq 11, 3) := by decide +kernel
theorem dX10_witness_27 : decode cX10_witness 27 = .ok (.aload_n 0, 1) := by decide +kernel
theorem dX10_witness_28 : decode cX10_witness 28 = .ok (.iload_n 1, 1) := by decide +kernel
theorem dX10_witness_29 : decode cX10_witness 29 = .ok (.aload_n 2, 1) := by decide +kernel
theorem dX10_witness_30 : decode cX10_witness 30 = .ok (.aload_n 3, 1) := by decide +kernel
theorem dX10_witness_31 : decode cX10_witness 31 = .ok (.invokevirtual 150, 3) := by decide +kernel
theorem dX10_witness_34 : decode cX10_witness 34 = .ok (.ireturn, 1) := by decide +kernel
theorem dX10_witness_35 : decode cX10_witness 35 = .ok (.aload_n 0, 1) := by decide +kernel
theorem dX10_witness_36 : decode cX10_witness 36 = .ok (.getfield 25, 3) := by decide +kernel
theorem dX10_witness_39 : decode cX10_witness 39 = .ok (.aload_n 2, 1) := by decide +kernel
theorem dX10_witness_40 : decode cX10_witness 40 = .ok (.aload_n 3, 1) := by decide +kernel
theorem dX10_witness_41 : decode cX10_witness 41 = .ok (.invokevirtual 256, 3) := by decide +kernel
theorem dX10_witness_44 : decode cX10_witness 44 = .ok (.ireturn, 1) := by decide +kernel
theorem dX10_witnessed_0 : decode cX10_witnessed 0 = .ok (.aload_n 0, 1) := by decide +kernel
theorem dX10_witnessed_1 : decode cX10_witnessed 1 = .ok (.getfield 25, 3) := by decide +kernel
theorem dX10_witnessed_4 : decode cX10_witnessed 4 = .ok (.getfield 260, 3) := by decide +kernel
theorem dX10_witnessed_7 : decode cX10_witnessed 7 = .ok (.ireturn, 1) := by decide +kernel
theorem dX10_told_0 : decode cX10_told 0 = .ok (.aload_n 0, 1) := by decide +kernel
theorem dX10_told_1 : decode cX10_told 1 = .ok (.getfield 25, 3) := by decide +kernel
theorem dX10_told_4 : decode cX10_told 4 = .ok (.iload_n 1, 1) := by decide +kernel
theorem dX10_told_5 : decode cX10_told 5 = .ok (.invokevirtual 261, 3) := by decide +kernel
theorem dX10_told_8 : decode cX10_told 8 = .ok (.ifCond .eq 15, 3) := by decide +kernel
theorem dX10_told_11 : decode cX10_told 11 = .ok (.aload_n 0, 1) := by decide +kernel
theorem dX10_told_12 : decode cX10_told 12 = .ok (.getfield 25, 3) := by decide +kernel
theorem dX10_told_15 : decode cX10_told 15 = .ok (.getfield 262, 3) := by decide +kernel
theorem dX10_told_18 : decode cX10_told 18 = .ok (.iload_n 1, 1) := by decide +kernel
theorem dX10_told_19 : decode cX10_told 19 = .ok (.iaload, 1) := by decide +kernel
theorem dX10_told_20 : decode cX10_told 20 = .ok (.goto 5, 3) := by decide +kernel
theorem dX10_told_23 : decode cX10_told 23 = .ok (.bipush (-2), 2) := by decide +kernel
theorem dX10_told_25 : decode cX10_told 25 = .ok (.ireturn, 1) := by decide +kernel
theorem dX10_forge_0 : decode cX10_forge 0 = .ok (.aload_n 0, 1) := by decide +kernel
theorem dX10_forge_1 : decode cX10_forge 1 = .ok (.getfield 25, 3) := by decide +kernel
theorem dX10_forge_4 : decode cX10_forge 4 = .ok (.iload_n 1, 1) := by decide +kernel
theorem dX10_forge_5 : decode cX10_forge 5 = .ok (.invokevirtual 261, 3) := by decide +kernel
theorem dX10_forge_8 : decode cX10_forge 8 = .ok (.ifCond .ne 6, 3) := by decide +kernel
theorem dX10_forge_11 : decode cX10_forge 11 = .ok (.bipush (-5), 2) := by decide +kernel
theorem dX10_forge_13 : decode cX10_forge 13 = .ok (.ireturn, 1) := by decide +kernel
theorem dX10_forge_14 : decode cX10_forge 14 = .ok (.aload_n 0, 1) := by decide +kernel
theorem dX10_forge_15 : decode cX10_forge 15 = .ok (.getfield 25, 3) := by decide +kernel
theorem dX10_forge_18 : decode cX10_forge 18 = .ok (.getfield 262, 3) := by decide +kernel
theorem dX10_forge_21 : decode cX10_forge 21 = .ok (.iload_n 1, 1) := by decide +kernel
theorem dX10_forge_22 : decode cX10_forge 22 = .ok (.iaload, 1) := by decide +kernel
theorem dX10_forge_23 : decode cX10_forge 23 = .ok (.istore_n 3, 1) := by decide +kernel
theorem dX10_forge_24 : decode cX10_forge 24 = .ok (.aload_n 0, 1) := by decide +kernel
theorem dX10_forge_25 : decode cX10_forge 25 = .ok (.getfield 25, 3) := by decide +kernel
theorem dX10_forge_28 : decode cX10_forge 28 = .ok (.getfield 262, 3) := by decide +kernel
theorem dX10_forge_31 : decode cX10_forge 31 = .ok (.iload_n 1, 1) := by decide +kernel
theorem dX10_forge_32 : decode cX10_forge 32 = .ok (.iload_n 2, 1) := by decide +kernel
theorem dX10_forge_33 : decode cX10_forge 33 = .ok (.iastore, 1) := by decide +kernel
theorem dX10_forge_34 : decode cX10_forge 34 = .ok (.iload_n 3, 1) := by decide +kernel
theorem dX10_forge_35 : decode cX10_forge 35 = .ok (.ireturn, 1) := by decide +kernel
theorem dX10_check_0 : decode cX10_check 0 = .ok (.aload_n 0, 1) := by decide +kernel
theorem dX10_check_1 : decode cX10_check 1 = .ok (.iload_n 1, 1) := by decide +kernel
theorem dX10_check_2 : decode cX10_check 2 = .ok (.invokevirtual 253, 3) := by decide +kernel
theorem dX10_check_5 : decode cX10_check 5 = .ok (.astore_n 2, 1) := by decide +kernel
theorem dX10_check_6 : decode cX10_check 6 = .ok (.aload_n 0, 1) := by decide +kernel
theorem dX10_check_7 : decode cX10_check 7 = .ok (.aload_n 2, 1) := by decide +kernel
theorem dX10_check_8 : decode cX10_check 8 = .ok (.invokevirtual 146, 3) := by decide +kernel
theorem dX10_check_11 : decode cX10_check 11 = .ok (.astore_n 3, 1) := by decide +kernel
theorem dX10_check_12 : decode cX10_check 12 = .ok (.aload_n 2, 1) := by decide +kernel
theorem dX10_check_13 : decode cX10_check 13 = .ok (.ifnull 14, 3) := by decide +kernel
theorem dX10_check_16 : decode cX10_check 16 = .ok (.aload_n 3, 1) := by decide +kernel
theorem dX10_check_17 : decode cX10_check 17 = .ok (.ifnull 10, 3) := by decide +kernel
theorem dX10_check_20 : decode cX10_check 20 = .ok (.aload_n 2, 1) := by decide +kernel
theorem dX10_check_21 : decode cX10_check 21 = .ok (.invokevirtual 118, 3) := by decide +kernel
theorem dX10_check_24 : decode cX10_check 24 = .ok (.ifCond .eq 11, 3) := by decide +kernel
theorem dX10_check_27 : decode cX10_check 27 = .ok (.aload_n 0, 1) := by decide +kernel
theorem dX10_check_28 : decode cX10_check 28 = .ok (.iload_n 1, 1) := by decide +kernel
theorem dX10_check_29 : decode cX10_check 29 = .ok (.aload_n 2, 1) := by decide +kernel
theorem dX10_check_30 : decode cX10_check 30 = .ok (.aload_n 3, 1) := by decide +kernel
theorem dX10_check_31 : decode cX10_check 31 = .ok (.invokevirtual 150, 3) := by decide +kernel
theorem dX10_check_34 : decode cX10_check 34 = .ok (.ireturn, 1) := by decide +kernel
theorem dX10_check_35 : decode cX10_check 35 = .ok (.aload_n 0, 1) := by decide +kernel
theorem dX10_check_36 : decode cX10_check 36 = .ok (.getfield 29, 3) := by decide +kernel
theorem dX10_check_39 : decode cX10_check 39 = .ok (.aload_n 2, 1) := by decide +kernel
theorem dX10_check_40 : decode cX10_check 40 = .ok (.aload_n 3, 1) := by decide +kernel
theorem dX10_check_41 : decode cX10_check 41 = .ok (.invokevirtual 256, 3) := by decide +kernel
theorem dX10_check_44 : decode cX10_check 44 = .ok (.pop, 1) := by decide +kernel
theorem dX10_check_45 : decode cX10_check 45 = .ok (.aload_n 0, 1) := by decide +kernel
theorem dX10_check_46 : decode cX10_check 46 = .ok (.getfield 29, 3) := by decide +kernel
theorem dX10_check_49 : decode cX10_check 49 = .ok (.aload_n 0, 1) := by decide +kernel
theorem dX10_check_50 : decode cX10_check 50 = .ok (.getfield 25, 3) := by decide +kernel
theorem dX10_check_53 : decode cX10_check 53 = .ok (.invokevirtual 265, 3) := by decide +kernel
theorem dX10_check_56 : decode cX10_check 56 = .ok (.ifCond .eq 7, 3) := by decide +kernel
theorem dX10_check_59 : decode cX10_check 59 = .ok (.iconst 1, 1) := by decide +kernel
theorem dX10_check_60 : decode cX10_check 60 = .ok (.goto 4, 3) := by decide +kernel
theorem dX10_check_63 : decode cX10_check 63 = .ok (.iconst 0, 1) := by decide +kernel
theorem dX10_check_64 : decode cX10_check 64 = .ok (.ireturn, 1) := by decide +kernel
theorem dX10_image_0 : decode cX10_image 0 = .ok (.aload_n 0, 1) := by decide +kernel
theorem dX10_image_1 : decode cX10_image 1 = .ok (.iload_n 1, 1) := by decide +kernel
theorem dX10_image_2 : decode cX10_image 2 = .ok (.invokevirtual 114, 3) := by decide +kernel
theorem dX10_image_5 : decode cX10_image 5 = .ok (.astore_n 2, 1) := by decide +kernel
theorem dX10_image_6 : decode cX10_image 6 = .ok (.aload_n 2, 1) := by decide +kernel
theorem dX10_image_7 : decode cX10_image 7 = .ok (.ifnonnull 9, 3) := by decide +kernel
theorem dX10_image_10 : decode cX10_image 10 = .ok (.aload_n 0, 1) := by decide +kernel
theorem dX10_image_11 : decode cX10_image 11 = .ok (.iload_n 1, 1) := by decide +kernel
theorem dX10_image_12 : decode cX10_image 12 = .ok (.invokevirtual 88, 3) := by decide +kernel
theorem dX10_image_15 : decode cX10_image 15 = .ok (.ireturn, 1) := by decide +kernel
theorem dX10_image_16 : decode cX10_image 16 = .ok (.aload_n 2, 1) := by decide +kernel
theorem dX10_image_17 : decode cX10_image 17 = .ok (.invokevirtual 118, 3) := by decide +kernel
theorem dX10_image_20 : decode cX10_image 20 = .ok (.ifCond .eq 6, 3) := by decide +kernel
theorem dX10_image_23 : decode cX10_image 23 = .ok (.bipush (-6), 2) := by decide +kernel
theorem dX10_image_25 : decode cX10_image 25 = .ok (.ireturn, 1) := by decide +kernel
theorem dX10_image_26 : decode cX10_image 26 = .ok (.aload_n 2, 1) := by decide +kernel
theorem dX10_image_27 : decode cX10_image 27 = .ok (.invokevirtual 269, 3) := by decide +kernel
theorem dX10_image_30 : decode cX10_image 30 = .ok (.sipush 1000, 3) := by decide +kernel
theorem dX10_image_33 : decode cX10_image 33 = .ok (.if_icmp .le 6, 3) := by decide +kernel
theorem dX10_image_36 : decode cX10_image 36 = .ok (.bipush (-7), 2) := by decide +kernel
theorem dX10_image_38 : decode cX10_image 38 = .ok (.ireturn, 1) := by decide +kernel
theorem dX10_image_39 : decode cX10_image 39 = .ok (.aload_n 0, 1) := by decide +kernel
theorem dX10_image_40 : decode cX10_image 40 = .ok (.getfield 18, 3) := by decide +kernel
theorem dX10_image_43 : decode cX10_image 43 = .ok (.aload_n 2, 1) := by decide +kernel
theorem dX10_image_44 : decode cX10_image 44 = .ok (.invokevirtual 272, 3) := by decide +kernel
theorem dX10_image_47 : decode cX10_image 47 = .ok (.aload_n 0, 1) := by decide +kernel
theorem dX10_image_48 : decode cX10_image 48 = .ok (.getfield 18, 3) := by decide +kernel
theorem dX10_image_51 : decode cX10_image 51 = .ok (.getfield 52, 3) := by decide +kernel
theorem dX10_image_54 : decode cX10_image 54 = .ok (.ireturn, 1) := by decide +kernel
theorem dX10_load_0 : decode cX10_load 0 = .ok (.iload_n 1, 1) := by decide +kernel
theorem dX10_load_1 : decode cX10_load 1 = .ok (.invokestatic 63, 3) := by decide +kernel
theorem dX10_load_4 : decode cX10_load 4 = .ok (.ifCond .eq 6, 3) := by decide +kernel
theorem dX10_load_7 : decode cX10_load 7 = .ok (.bipush (-2), 2) := by decide +kernel
theorem dX10_load_9 : decode cX10_load 9 = .ok (.ireturn, 1) := by decide +kernel
theorem dX10_load_10 : decode cX10_load 10 = .ok (.aload_n 0, 1) := by decide +kernel
theorem dX10_load_11 : decode cX10_load 11 = .ok (.getfield 18, 3) := by decide +kernel
theorem dX10_load_14 : decode cX10_load 14 = .ok (.aload_n 0, 1) := by decide +kernel
theorem dX10_load_15 : decode cX10_load 15 = .ok (.getfield 44, 3) := by decide +kernel
theorem dX10_load_18 : decode cX10_load 18 = .ok (.invokevirtual 276, 3) := by decide +kernel
theorem dX10_load_21 : decode cX10_load 21 = .ok (.istore_n 2, 1) := by decide +kernel
theorem dX10_load_22 : decode cX10_load 22 = .ok (.aload_n 0, 1) := by decide +kernel
theorem dX10_load_23 : decode cX10_load 23 = .ok (.getfield 18, 3) := by decide +kernel
theorem dX10_load_26 : decode cX10_load 26 = .ok (.iconst 0, 1) := by decide +kernel
theorem dX10_load_27 : decode cX10_load 27 = .ok (.putfield 52, 3) := by decide +kernel
theorem dX10_load_30 : decode cX10_load 30 = .ok (.iload_n 2, 1) := by decide +kernel
theorem dX10_load_31 : decode cX10_load 31 = .ok (.bipush (-5), 2) := by decide +kernel
theorem dX10_load_33 : decode cX10_load 33 = .ok (.if_icmp .ne 8, 3) := by decide +kernel
theorem dX10_load_36 : decode cX10_load 36 = .ok (.bipush (-5), 2) := by decide +kernel
theorem dX10_load_38 : decode cX10_load 38 = .ok (.goto 20, 3) := by decide +kernel
theorem dX10_load_41 : decode cX10_load 41 = .ok (.aload_n 0, 1) := by decide +kernel
theorem dX10_load_42 : decode cX10_load 42 = .ok (.iload_n 1, 1) := by decide +kernel
theorem dX10_load_43 : decode cX10_load 43 = .ok (.aload_n 0, 1) := by decide +kernel
theorem dX10_load_44 : decode cX10_load 44 = .ok (.getfield 35, 3) := by decide +kernel
theorem dX10_load_47 : decode cX10_load 47 = .ok (.aload_n 0, 1) := by decide +kernel
theorem dX10_load_48 : decode cX10_load 48 = .ok (.getfield 44, 3) := by decide +kernel
theorem dX10_load_51 : decode cX10_load 51 = .ok (.iload_n 2, 1) := by decide +kernel
theorem dX10_load_52 : decode cX10_load 52 = .ok (.invokevirtual 106, 3) := by decide +kernel
theorem dX10_load_55 : decode cX10_load 55 = .ok (.invokevirtual 110, 3) := by decide +kernel
theorem dX10_load_58 : decode cX10_load 58 = .ok (.ireturn, 1) := by decide +kernel
theorem dX10_same_0 : decode cX10_same 0 = .ok (.iload_n 1, 1) := by decide +kernel
theorem dX10_same_1 : decode cX10_same 1 = .ok (.invokestatic 63, 3) := by decide +kernel
theorem dX10_same_4 : decode cX10_same 4 = .ok (.ifCond .eq 6, 3) := by decide +kernel
theorem dX10_same_7 : decode cX10_same 7 = .ok (.bipush (-2), 2) := by decide +kernel
theorem dX10_same_9 : decode cX10_same 9 = .ok (.ireturn, 1) := by decide +kernel
theorem dX10_same_10 : decode cX10_same 10 = .ok (.iconst 0, 1) := by decide +kernel
theorem dX10_same_11 : decode cX10_same 11 = .ok (.istore_n 2, 1) := by decide +kernel
theorem dX10_same_12 : decode cX10_same 12 = .ok (.iconst 0, 1) := by decide +kernel
theorem dX10_same_13 : decode cX10_same 13 = .ok (.istore_n 3, 1) := by decide +kernel
theorem dX10_same_14 : decode cX10_same 14 = .ok (.iload_n 3, 1) := by decide +kernel
theorem dX10_same_15 : decode cX10_same 15 = .ok (.bipush 10, 2) := by decide +kernel
theorem dX10_same_17 : decode cX10_same 17 = .ok (.if_icmp .ge 36, 3) := by decide +kernel
theorem dX10_same_20 : decode cX10_same 20 = .ok (.aload_n 0, 1) := by decide +kernel
theorem dX10_same_21 : decode cX10_same 21 = .ok (.getfield 11, 3) := by decide +kernel
theorem dX10_same_24 : decode cX10_same 24 = .ok (.iload_n 3, 1) := by decide +kernel
theorem dX10_same_25 : decode cX10_same 25 = .ok (.aaload, 1) := by decide +kernel
theorem dX10_same_26 : decode cX10_same 26 = .ok (.ifnull 21, 3) := by decide +kernel
theorem dX10_same_29 : decode cX10_same 29 = .ok (.aload_n 0, 1) := by decide +kernel
theorem dX10_same_30 : decode cX10_same 30 = .ok (.getfield 11, 3) := by decide +kernel
theorem dX10_same_33 : decode cX10_same 33 = .ok (.iload_n 3, 1) := by decide +kernel
theorem dX10_same_34 : decode cX10_same 34 = .ok (.aaload, 1) := by decide +kernel
theorem dX10_same_35 : decode cX10_same 35 = .ok (.aload_n 0, 1) := by decide +kernel
theorem dX10_same_36 : decode cX10_same 36 = .ok (.getfield 11, 3) := by decide +kernel
theorem dX10_same_39 : decode cX10_same 39 = .ok (.iload_n 1, 1) := by decide +kernel
theorem dX10_same_40 : decode cX10_same 40 = .ok (.aaload, 1) := by decide +kernel
theorem dX10_same_41 : decode cX10_same 41 = .ok (.if_acmp .ne 6, 3) := by decide +kernel
theorem dX10_same_44 : decode cX10_same 44 = .ok (.iinc 2 1, 3) := by decide +kernel
theorem dX10_same_47 : decode cX10_same 47 = .ok (.iinc 3 1, 3) := by decide +kernel
theorem dX10_same_50 : decode cX10_same 50 = .ok (.goto (-36), 3) := by decide +kernel
theorem dX10_same_53 : decode cX10_same 53 = .ok (.iload_n 2, 1) := by decide +kernel
theorem dX10_same_54 : decode cX10_same 54 = .ok (.ireturn, 1) := by decide +kernel
theorem dX10_isBeyond_0 : decode cX10_isBeyond 0 = .ok (.iload_n 0, 1) := by decide +kernel
theorem dX10_isBeyond_1 : decode cX10_isBeyond 1 = .ok (.ifCond .lt 9, 3) := by decide +kernel
theorem dX10_isBeyond_4 : decode cX10_isBeyond 4 = .ok (.iload_n 0, 1) := by decide +kernel
theorem dX10_isBeyond_5 : decode cX10_isBeyond 5 = .ok (.bipush 10, 2) := by decide +kernel
theorem dX10_isBeyond_7 : decode cX10_isBeyond 7 = .ok (.if_icmp .lt 7, 3) := by decide +kernel
theorem dX10_isBeyond_10 : decode cX10_isBeyond 10 = .ok (.iconst 1, 1) := by decide +kernel
theorem dX10_isBeyond_11 : decode cX10_isBeyond 11 = .ok (.goto 4, 3) := by decide +kernel
theorem dX10_isBeyond_14 : decode cX10_isBeyond 14 = .ok (.iconst 0, 1) := by decide +kernel
theorem dX10_isBeyond_15 : decode cX10_isBeyond 15 = .ok (.ireturn, 1) := by decide +kernel
theorem dX10_isBookKind_0 : decode cX10_isBookKind 0 = .ok (.iload_n 0, 1) := by decide +kernel
theorem dX10_isBookKind_1 : decode cX10_isBookKind 1 = .ok (.iconst 1, 1) := by decide +kernel
theorem dX10_isBookKind_2 : decode cX10_isBookKind 2 = .ok (.if_icmp .lt 12, 3) := by decide +kernel
theorem dX10_isBookKind_5 : decode cX10_isBookKind 5 = .ok (.iload_n 0, 1) := by decide +kernel
theorem dX10_isBookKind_6 : decode cX10_isBookKind 6 = .ok (.iconst 5, 1) := by decide +kernel
theorem dX10_isBookKind_7 : decode cX10_isBookKind 7 = .ok (.if_icmp .gt 7, 3) := by decide +kernel
theorem dX10_isBookKind_10 : decode cX10_isBookKind 10 = .ok (.iconst 1, 1) := by decide +kernel
theorem dX10_isBookKind_11 : decode cX10_isBookKind 11 = .ok (.goto 4, 3) := by decide +kernel
theorem dX10_isBookKind_14 : decode cX10_isBookKind 14 = .ok (.iconst 0, 1) := by decide +kernel
theorem dX10_isBookKind_15 : decode cX10_isBookKind 15 = .ok (.ireturn, 1) := by decide +kernel
theorem dX10_kindHeld_0 : decode cX10_kindHeld 0 = .ok (.aload_n 0, 1) := by decide +kernel
theorem dX10_kindHeld_1 : decode cX10_kindHeld 1 = .ok (.iload_n 1, 1) := by decide +kernel
theorem dX10_kindHeld_2 : decode cX10_kindHeld 2 = .ok (.invokevirtual 139, 3) := by decide +kernel
theorem dX10_kindHeld_5 : decode cX10_kindHeld 5 = .ok (.astore_n 2, 1) := by decide +kernel
theorem dX10_kindHeld_6 : decode cX10_kindHeld 6 = .ok (.aload_n 2, 1) := by decide +kernel
theorem dX10_kindHeld_7 : decode cX10_kindHeld 7 = .ok (.ifnonnull 7, 3) := by decide +kernel
theorem dX10_kindHeld_10 : decode cX10_kindHeld 10 = .ok (.iconst 0, 1) := by decide +kernel
theorem dX10_kindHeld_11 : decode cX10_kindHeld 11 = .ok (.goto 7, 3) := by decide +kernel
theorem dX10_kindHeld_14 : decode cX10_kindHeld 14 = .ok (.aload_n 2, 1) := by decide +kernel
theorem dX10_kindHeld_15 : decode cX10_kindHeld 15 = .ok (.getfield 280, 3) := by decide +kernel
theorem dX10_kindHeld_18 : decode cX10_kindHeld 18 = .ok (.ireturn, 1) := by decide +kernel
theorem dX10_thingAt_0 : decode cX10_thingAt 0 = .ok (.iload_n 1, 1) := by decide +kernel
theorem dX10_thingAt_1 : decode cX10_thingAt 1 = .ok (.invokestatic 63, 3) := by decide +kernel
theorem dX10_thingAt_4 : decode cX10_thingAt 4 = .ok (.ifCond .eq 7, 3) := by decide +kernel
theorem dX10_thingAt_7 : decode cX10_thingAt 7 = .ok (.aconst_null, 1) := by decide +kernel
theorem dX10_thingAt_8 : decode cX10_thingAt 8 = .ok (.goto 9, 3) := by decide +kernel
theorem dX10_thingAt_11 : decode cX10_thingAt 11 = .ok (.aload_n 0, 1) := by decide +kernel
theorem dX10_thingAt_12 : decode cX10_thingAt 12 = .ok (.getfield 11, 3) := by decide +kernel
theorem dX10_thingAt_15 : decode cX10_thingAt 15 = .ok (.iload_n 1, 1) := by decide +kernel
theorem dX10_thingAt_16 : decode cX10_thingAt 16 = .ok (.aaload, 1) := by decide +kernel
theorem dX10_thingAt_17 : decode cX10_thingAt 17 = .ok (.areturn, 1) := by decide +kernel
theorem dX10_draftAt_0 : decode cX10_draftAt 0 = .ok (.aload_n 0, 1) := by decide +kernel
theorem dX10_draftAt_1 : decode cX10_draftAt 1 = .ok (.iload_n 1, 1) := by decide +kernel
theorem dX10_draftAt_2 : decode cX10_draftAt 2 = .ok (.invokevirtual 139, 3) := by decide +kernel
theorem dX10_draftAt_5 : decode cX10_draftAt 5 = .ok (.astore_n 3, 1) := by decide +kernel
theorem dX10_draftAt_6 : decode cX10_draftAt 6 = .ok (.aload_n 3, 1) := by decide +kernel
theorem dX10_draftAt_7 : decode cX10_draftAt 7 = .ok (.instanceof 67, 3) := by decide +kernel
theorem dX10_draftAt_10 : decode cX10_draftAt 10 = .ok (.ifCond .eq 10, 3) := by decide +kernel
theorem dX10_draftAt_13 : decode cX10_draftAt 13 = .ok (.aload_n 3, 1) := by decide +kernel
theorem dX10_draftAt_14 : decode cX10_draftAt 14 = .ok (.checkcast 67, 3) := by decide +kernel
theorem dX10_draftAt_17 : decode cX10_draftAt 17 = .ok (.astore_n 2, 1) := by decide +kernel
theorem dX10_draftAt_18 : decode cX10_draftAt 18 = .ok (.aload_n 2, 1) := by decide +kernel
theorem dX10_draftAt_19 : decode cX10_draftAt 19 = .ok (.areturn, 1) := by decide +kernel
theorem dX10_draftAt_20 : decode cX10_draftAt 20 = .ok (.aconst_null, 1) := by decide +kernel
theorem dX10_draftAt_21 : decode cX10_draftAt 21 = .ok (.areturn, 1) := by decide +kernel
theorem dX10_bookAt_0 : decode cX10_bookAt 0 = .ok (.aload_n 0, 1) := by decide +kernel
theorem dX10_bookAt_1 : decode cX10_bookAt 1 = .ok (.iload_n 1, 1) := by decide +kernel
theorem dX10_bookAt_2 : decode cX10_bookAt 2 = .ok (.invokevirtual 139, 3) := by decide +kernel
theorem dX10_bookAt_5 : decode cX10_bookAt 5 = .ok (.astore_n 3, 1) := by decide +kernel
theorem dX10_bookAt_6 : decode cX10_bookAt 6 = .ok (.aload_n 3, 1) := by decide +kernel
theorem dX10_bookAt_7 : decode cX10_bookAt 7 = .ok (.instanceof 119, 3) := by decide +kernel
theorem dX10_bookAt_10 : decode cX10_bookAt 10 = .ok (.ifCond .eq 10, 3) := by decide +kernel
theorem dX10_bookAt_13 : decode cX10_bookAt 13 = .ok (.aload_n 3, 1) := by decide +kernel
theorem dX10_bookAt_14 : decode cX10_bookAt 14 = .ok (.checkcast 119, 3) := by decide +kernel
theorem dX10_bookAt_17 : decode cX10_bookAt 17 = .ok (.astore_n 2, 1) := by decide +kernel
theorem dX10_bookAt_18 : decode cX10_bookAt 18 = .ok (.aload_n 2, 1) := by decide +kernel
theorem dX10_bookAt_19 : decode cX10_bookAt 19 = .ok (.areturn, 1) := by decide +kernel
theorem dX10_bookAt_20 : decode cX10_bookAt 20 = .ok (.aconst_null, 1) := by decide +kernel
theorem dX10_bookAt_21 : decode cX10_bookAt 21 = .ok (.areturn, 1) := by decide +kernel
theorem dX10_forkedAt_0 : decode cX10_forkedAt 0 = .ok (.aload_n 0, 1) := by decide +kernel
theorem dX10_forkedAt_1 : decode cX10_forkedAt 1 = .ok (.iload_n 1, 1) := by decide +kernel
theorem dX10_forkedAt_2 : decode cX10_forkedAt 2 = .ok (.invokevirtual 114, 3) := by decide +kernel
theorem dX10_forkedAt_5 : decode cX10_forkedAt 5 = .ok (.astore_n 2, 1) := by decide +kernel
theorem dX10_forkedAt_6 : decode cX10_forkedAt 6 = .ok (.aload_n 2, 1) := by decide +kernel
theorem dX10_forkedAt_7 : decode cX10_forkedAt 7 = .ok (.ifnull 15, 3) := by decide +kernel
theorem dX10_forkedAt_10 : decode cX10_forkedAt 10 = .ok (.aload_n 2, 1) := by decide +kernel
theorem dX10_forkedAt_11 : decode cX10_forkedAt 11 = .ok (.getfield 221, 3) := by decide +kernel
theorem dX10_forkedAt_14 : decode cX10_forkedAt 14 = .ok (.iconst 2, 1) := by decide +kernel
theorem dX10_forkedAt_15 : decode cX10_forkedAt 15 = .ok (.if_icmp .ne 7, 3) := by decide +kernel
theorem dX10_forkedAt_18 : decode cX10_forkedAt 18 = .ok (.aload_n 2, 1) := by decide +kernel
theorem dX10_forkedAt_19 : decode cX10_forkedAt 19 = .ok (.goto 4, 3) := by decide +kernel
theorem dX10_forkedAt_22 : decode cX10_forkedAt 22 = .ok (.aconst_null, 1) := by decide +kernel
theorem dX10_forkedAt_23 : decode cX10_forkedAt 23 = .ok (.areturn, 1) := by decide +kernel
theorem dX10_bareRowAt_0 : decode cX10_bareRowAt 0 = .ok (.aload_n 0, 1) := by decide +kernel
theorem dX10_bareRowAt_1 : decode cX10_bareRowAt 1 = .ok (.iload_n 1, 1) := by decide +kernel
theorem dX10_bareRowAt_2 : decode cX10_bareRowAt 2 = .ok (.invokevirtual 139, 3) := by decide +kernel
theorem dX10_bareRowAt_5 : decode cX10_bareRowAt 5 = .ok (.astore_n 3, 1) := by decide +kernel
theorem dX10_bareRowAt_6 : decode cX10_bareRowAt 6 = .ok (.aload_n 3, 1) := by decide +kernel
theorem dX10_bareRowAt_7 : decode cX10_bareRowAt 7 = .ok (.instanceof 72, 3) := by decide +kernel
theorem dX10_bareRowAt_10 : decode cX10_bareRowAt 10 = .ok (.ifCond .eq 13, 3) := by decide +kernel
theorem dX10_bareRowAt_13 : decode cX10_bareRowAt 13 = .ok (.aload_n 3, 1) := by decide +kernel
theorem dX10_bareRowAt_14 : decode cX10_bareRowAt 14 = .ok (.checkcast 72, 3) := by decide +kernel
theorem dX10_bareRowAt_17 : decode cX10_bareRowAt 17 = .ok (.astore_n 2, 1) := by decide +kernel
theorem dX10_bareRowAt_18 : decode cX10_bareRowAt 18 = .ok (.aload_n 2, 1) := by decide +kernel
theorem dX10_bareRowAt_19 : decode cX10_bareRowAt 19 = .ok (.getfield 281, 3) := by decide +kernel
theorem dX10_bareRowAt_22 : decode cX10_bareRowAt 22 = .ok (.areturn, 1) := by decide +kernel
theorem dX10_bareRowAt_23 : decode cX10_bareRowAt 23 = .ok (.aconst_null, 1) := by decide +kernel
theorem dX10_bareRowAt_24 : decode cX10_bareRowAt 24 = .ok (.areturn, 1) := by decide +kernel
theorem dX10_rowAt_0 : decode cX10_rowAt 0 = .ok (.aload_n 0, 1) := by decide +kernel
theorem dX10_rowAt_1 : decode cX10_rowAt 1 = .ok (.iload_n 1, 1) := by decide +kernel
theorem dX10_rowAt_2 : decode cX10_rowAt 2 = .ok (.invokevirtual 114, 3) := by decide +kernel
theorem dX10_rowAt_5 : decode cX10_rowAt 5 = .ok (.astore_n 2, 1) := by decide +kernel
theorem dX10_rowAt_6 : decode cX10_rowAt 6 = .ok (.aload_n 2, 1) := by decide +kernel
theorem dX10_rowAt_7 : decode cX10_rowAt 7 = .ok (.ifnonnull 11, 3) := by decide +kernel
theorem dX10_rowAt_10 : decode cX10_rowAt 10 = .ok (.aload_n 0, 1) := by decide +kernel
theorem dX10_rowAt_11 : decode cX10_rowAt 11 = .ok (.iload_n 1, 1) := by decide +kernel
theorem dX10_rowAt_12 : decode cX10_rowAt 12 = .ok (.invokevirtual 211, 3) := by decide +kernel
theorem dX10_rowAt_15 : decode cX10_rowAt 15 = .ok (.goto 7, 3) := by decide +kernel
theorem dX10_rowAt_18 : decode cX10_rowAt 18 = .ok (.aload_n 2, 1) := by decide +kernel
theorem dX10_rowAt_19 : decode cX10_rowAt 19 = .ok (.getfield 224, 3) := by decide +kernel
theorem dX10_rowAt_22 : decode cX10_rowAt 22 = .ok (.areturn, 1) := by decide +kernel
theorem dX10_refusalAt_0 : decode cX10_refusalAt 0 = .ok (.iload_n 1, 1) := by decide +kernel
theorem dX10_refusalAt_1 : decode cX10_refusalAt 1 = .ok (.invokestatic 63, 3) := by decide +kernel
theorem dX10_refusalAt_4 : decode cX10_refusalAt 4 = .ok (.ifCond .eq 6, 3) := by decide +kernel
theorem dX10_refusalAt_7 : decode cX10_refusalAt 7 = .ok (.bipush (-2), 2) := by decide +kernel
theorem dX10_refusalAt_9 : decode cX10_refusalAt 9 = .ok (.ireturn, 1) := by decide +kernel
theorem dX10_refusalAt_10 : decode cX10_refusalAt 10 = .ok (.aload_n 0, 1) := by decide +kernel
theorem dX10_refusalAt_11 : decode cX10_refusalAt 11 = .ok (.getfield 11, 3) := by decide +kernel
theorem dX10_refusalAt_14 : decode cX10_refusalAt 14 = .ok (.iload_n 1, 1) := by decide +kernel
theorem dX10_refusalAt_15 : decode cX10_refusalAt 15 = .ok (.aaload, 1) := by decide +kernel
theorem dX10_refusalAt_16 : decode cX10_refusalAt 16 = .ok (.ifnonnull 8, 3) := by decide +kernel
theorem dX10_refusalAt_19 : decode cX10_refusalAt 19 = .ok (.bipush (-3), 2) := by decide +kernel
theorem dX10_refusalAt_21 : decode cX10_refusalAt 21 = .ok (.goto 5, 3) := by decide +kernel
theorem dX10_refusalAt_24 : decode cX10_refusalAt 24 = .ok (.bipush (-4), 2) := by decide +kernel
theorem dX10_refusalAt_26 : decode cX10_refusalAt 26 = .ok (.ireturn, 1) := by decide +kernel
theorem dX10_nameFor_0 : decode cX10_nameFor 0 = .ok (.aload_n 1, 1) := by decide +kernel
theorem dX10_nameFor_1 : decode cX10_nameFor 1 = .ok (.ifnonnull 7, 3) := by decide +kernel
theorem dX10_nameFor_4 : decode cX10_nameFor 4 = .ok (.aconst_null, 1) := by decide +kernel
theorem dX10_nameFor_5 : decode cX10_nameFor 5 = .ok (.goto 10, 3) := by decide +kernel
theorem dX10_nameFor_8 : decode cX10_nameFor 8 = .ok (.aload_n 0, 1) := by decide +kernel
theorem dX10_nameFor_9 : decode cX10_nameFor 9 = .ok (.getfield 18, 3) := by decide +kernel
theorem dX10_nameFor_12 : decode cX10_nameFor 12 = .ok (.invokevirtual 91, 3) := by decide +kernel
theorem dX10_nameFor_15 : decode cX10_nameFor 15 = .ok (.areturn, 1) := by decide +kernel
theorem dX10_refusalOfAsking_0 : decode cX10_refusalOfAsking 0 = .ok (.aload_n 2, 1) := by decide +kernel
theorem dX10_refusalOfAsking_1 : decode cX10_refusalOfAsking 1 = .ok (.ifnonnull 9, 3) := by decide +kernel
theorem dX10_refusalOfAsking_4 : decode cX10_refusalOfAsking 4 = .ok (.aload_n 0, 1) := by decide +kernel
theorem dX10_refusalOfAsking_5 : decode cX10_refusalOfAsking 5 = .ok (.iload_n 1, 1) := by decide +kernel
theorem dX10_refusalOfAsking_6 : decode cX10_refusalOfAsking 6 = .ok (.invokevirtual 88, 3) := by decide +kernel
theorem dX10_refusalOfAsking_9 : decode cX10_refusalOfAsking 9 = .ok (.ireturn, 1) := by decide +kernel
theorem dX10_refusalOfAsking_10 : decode cX10_refusalOfAsking 10 = .ok (.aload_n 3, 1) := by decide +kernel
theorem dX10_refusalOfAsking_11 : decode cX10_refusalOfAsking 11 = .ok (.ifnonnull 8, 3) := by decide +kernel
theorem dX10_refusalOfAsking_14 : decode cX10_refusalOfAsking 14 = .ok (.bipush (-5), 2) := by decide +kernel
theorem dX10_refusalOfAsking_16 : decode cX10_refusalOfAsking 16 = .ok (.goto 5, 3) := by decide +kernel
theorem dX10_refusalOfAsking_19 : decode cX10_refusalOfAsking 19 = .ok (.bipush (-6), 2) := by decide +kernel
theorem dX10_refusalOfAsking_21 : decode cX10_refusalOfAsking 21 = .ok (.ireturn, 1) := by decide +kernel
theorem dX10_shelve_0 : decode cX10_shelve 0 = .ok (.aload_n 2, 1) := by decide +kernel
theorem dX10_shelve_1 : decode cX10_shelve 1 = .ok (.ifnull 10, 3) := by decide +kernel
theorem dX10_shelve_4 : decode cX10_shelve 4 = .ok (.iload_n 1, 1) := by decide +kernel
theorem dX10_shelve_5 : decode cX10_shelve 5 = .ok (.invokestatic 63, 3) := by decide +kernel
theorem dX10_shelve_8 : decode cX10_shelve 8 = .ok (.ifCond .eq 6, 3) := by decide +kernel
theorem dX10_shelve_11 : decode cX10_shelve 11 = .ok (.bipush (-5), 2) := by decide +kernel
theorem dX10_shelve_13 : decode cX10_shelve 13 = .ok (.ireturn, 1) := by decide +kernel
theorem dX10_shelve_14 : decode cX10_shelve 14 = .ok (.aload_n 0, 1) := by decide +kernel
theorem dX10_shelve_15 : decode cX10_shelve 15 = .ok (.getfield 11, 3) := by decide +kernel
theorem dX10_shelve_18 : decode cX10_shelve 18 = .ok (.iload_n 1, 1) := by decide +kernel
theorem dX10_shelve_19 : decode cX10_shelve 19 = .ok (.aload_n 2, 1) := by decide +kernel
theorem dX10_shelve_20 : decode cX10_shelve 20 = .ok (.aastore, 1) := by decide +kernel
theorem dX10_shelve_21 : decode cX10_shelve 21 = .ok (.aload_n 2, 1) := by decide +kernel
theorem dX10_shelve_22 : decode cX10_shelve 22 = .ok (.getfield 124, 3) := by decide +kernel
theorem dX10_shelve_25 : decode cX10_shelve 25 = .ok (.getfield 129, 3) := by decide +kernel
theorem dX10_shelve_28 : decode cX10_shelve 28 = .ok (.ireturn, 1) := by decide +kernel
theorem dX11_init_0 : decode cX11_init 0 = .ok (.aload_n 0, 1) := by decide +kernel
theorem dX11_init_1 : decode cX11_init 1 = .ok (.invokespecial 1, 3) := by decide +kernel
theorem dX11_init_4 : decode cX11_init 4 = .ok (.aload_n 0, 1) := by decide +kernel
theorem dX11_init_5 : decode cX11_init 5 = .ok (.sipush 1000, 3) := by decide +kernel
theorem dX11_init_8 : decode cX11_init 8 = .ok (.newarray .int, 2) := by decide +kernel
theorem dX11_init_10 : decode cX11_init 10 = .ok (.putfield 7, 3) := by decide +kernel
theorem dX11_init_13 : decode cX11_init 13 = .ok (.aload_n 0, 1) := by decide +kernel
theorem dX11_init_14 : decode cX11_init 14 = .ok (.iconst 0, 1) := by decide +kernel
theorem dX11_init_15 : decode cX11_init 15 = .ok (.putfield 13, 3) := by decide +kernel
theorem dX11_init_18 : decode cX11_init 18 = .ok (.aload_n 0, 1) := by decide +kernel
theorem dX11_init_19 : decode cX11_init 19 = .ok (.bipush 10, 2) := by decide +kernel
theorem dX11_init_21 : decode cX11_init 21 = .ok (.newarray .int, 2) := by decide +kernel
theorem dX11_init_23 : decode cX11_init 23 = .ok (.putfield 17, 3) := by decide +kernel
theorem dX11_init_26 : decode cX11_init 26 = .ok (.aload_n 0, 1) := by decide +kernel
theorem dX11_init_27 : decode cX11_init 27 = .ok (.bipush 12, 2) := by decide +kernel
theorem dX11_init_29 : decode cX11_init 29 = .ok (.newarray .int, 2) := by decide +kernel
theorem dX11_init_31 : decode cX11_init 31 = .ok (.putfield 20, 3) := by decide +kernel
theorem dX11_init_34 : decode cX11_init 34 = .ok (.aload_n 0, 1) := by decide +kernel
theorem dX11_init_35 : decode cX11_init 35 = .ok (.bipush 12, 2) := by decide +kernel
theorem dX11_init_37 : decode cX11_init 37 = .ok (.newarray .int, 2) := by decide +kernel
theorem dX11_init_39 : decode cX11_init 39 = .ok (.putfield 23, 3) := by decide +kernel
theorem dX11_init_42 : decode cX11_init 42 = .ok (.aload_n 0, 1) := by decide +kernel
theorem dX11_init_43 : decode cX11_init 43 = .ok (.bipush 12, 2) := by decide +kernel
theorem dX11_init_45 : decode cX11_init 45 = .ok (.newarray .int, 2) := by decide +kernel
theorem dX11_init_47 : decode cX11_init 47 = .ok (.putfield 26, 3) := by decide +kernel
theorem dX11_init_50 : decode cX11_init 50 = .ok (.aload_n 0, 1) := by decide +kernel
theorem dX11_init_51 : decode cX11_init 51 = .ok (.bipush 12, 2) := by decide +kernel
theorem dX11_init_53 : decode cX11_init 53 = .ok (.newarray .int, 2) := by decide +kernel
theorem dX11_init_55 : decode cX11_init 55 = .ok (.putfield 29, 3) := by decide +kernel
theorem dX11_init_58 : decode cX11_init 58 = .ok (.aload_n 0, 1) := by decide +kernel
theorem dX11_init_59 : decode cX11_init 59 = .ok (.bipush 12, 2) := by decide +kernel
theorem dX11_init_61 : decode cX11_init 61 = .ok (.newarray .int, 2) := by decide +kernel
theorem dX11_init_63 : decode cX11_init 63 = .ok (.putfield 32, 3) := by decide +kernel
theorem dX11_init_66 : decode cX11_init 66 = .ok (.aload_n 0, 1) := by decide +kernel
theorem dX11_init_67 : decode cX11_init 67 = .ok (.bipush 12, 2) := by decide +kernel
theorem dX11_init_69 : decode cX11_init 69 = .ok (.newarray .int, 2) := by decide +kernel
theorem dX11_init_71 : decode cX11_init 71 = .ok (.putfield 35, 3) := by decide +kernel
theorem dX11_init_74 : decode cX11_init 74 = .ok (.aload_n 0, 1) := by decide +kernel
theorem dX11_init_75 : decode cX11_init 75 = .ok (.bipush 24, 2) := by decide +kernel
theorem dX11_init_77 : decode cX11_init 77 = .ok (.newarray .boolean, 2) := by decide +kernel
theorem dX11_init_79 : decode cX11_init 79 = .ok (.putfield 38, 3) := by decide +kernel
theorem dX11_init_82 : decode cX11_init 82 = .ok (.aload_n 0, 1) := by decide +kernel
theorem dX11_init_83 : decode cX11_init 83 = .ok (.ldc 42, 2) := by decide +kernel
theorem dX11_init_85 : decode cX11_init 85 = .ok (.newarray .int, 2) := by decide +kernel
theorem dX11_init_87 : decode cX11_init 87 = .ok (.putfield 43, 3) := by decide +kernel
theorem dX11_init_90 : decode cX11_init 90 = .ok (.aload_n 0, 1) := by decide +kernel
theorem dX11_init_91 : decode cX11_init 91 = .ok (.sipush 1200, 3) := by decide +kernel
theorem dX11_init_94 : decode cX11_init 94 = .ok (.newarray .int, 2) := by decide +kernel
theorem dX11_init_96 : decode cX11_init 96 = .ok (.putfield 46, 3) := by decide +kernel
theorem dX11_init_99 : decode cX11_init 99 = .ok (.aload_n 0, 1) := by decide +kernel
theorem dX11_init_100 : decode cX11_init 100 = .ok (.sipush 28800, 3) := by decide +kernel
theorem dX11_init_103 : decode cX11_init 103 = .ok (.newarray .int, 2) := by decide +kernel
theorem dX11_init_105 : decode cX11_init 105 = .ok (.putfield 49, 3) := by decide +kernel
theorem dX11_init_108 : decode cX11_init 108 = .ok (.aload_n 0, 1) := by decide +kernel
theorem dX11_init_109 : decode cX11_init 109 = .ok (.sipush 1200, 3) := by decide +kernel
theorem dX11_init_112 : decode cX11_init 112 = .ok (.newarray .long, 2) := by decide +kernel
theorem dX11_init_114 : decode cX11_init 114 = .ok (.putfield 52, 3) := by decide +kernel
theorem dX11_init_117 : decode cX11_init 117 = .ok (.aload_n 0, 1) := by decide +kernel
theorem dX11_init_118 : decode cX11_init 118 = .ok (.bipush 24, 2) := by decide +kernel
theorem dX11_init_120 : decode cX11_init 120 = .ok (.newarray .int, 2) := by decide +kernel
theorem dX11_init_122 : decode cX11_init 122 = .ok (.putfield 56, 3) := by decide +kernel
theorem dX11_init_125 : decode cX11_init 125 = .ok (.aload_n 0, 1) := by decide +kernel
theorem dX11_init_126 : decode cX11_init 126 = .ok (.iconst 0, 1) := by decide +kernel
theorem dX11_init_127 : decode cX11_init 127 = .ok (.putfield 59, 3) := by decide +kernel
theorem dX11_init_130 : decode cX11_init 130 = .ok (.aload_n 0, 1) := by decide +kernel
theorem dX11_init_131 : decode cX11_init 131 = .ok (.sipush 2500, 3) := by decide +kernel
theorem dX11_init_134 : decode cX11_init 134 = .ok (.newarray .int, 2) := by decide +kernel
theorem dX11_init_136 : decode cX11_init 136 = .ok (.putfield 62, 3) := by decide +kernel
theorem dX11_init_139 : decode cX11_init 139 = .ok (.aload_n 0, 1) := by decide +kernel
theorem dX11_init_140 : decode cX11_init 140 = .ok (.sipush 2500, 3) := by decide +kernel
theorem dX11_init_143 : decode cX11_init 143 = .ok (.newarray .int, 2) := by decide +kernel
theorem dX11_init_145 : decode cX11_init 145 = .ok (.putfield 65, 3) := by decide +kernel
theorem dX11_init_148 : decode cX11_init 148 = .ok (.aload_n 0, 1) := by decide +kernel
theorem dX11_init_149 : decode cX11_init 149 = .ok (.sipush 2500, 3) := by decide +kernel
theorem dX11_init_152 : decode cX11_init 152 = .ok (.newarray .int, 2) := by decide +kernel
theorem dX11_init_154 : decode cX11_init 154 = .ok (.putfield 68, 3) := by decide +kernel
theorem dX11_init_157 : decode cX11_init 157 = .ok (.aload_n 0, 1) := by decide +kernel
theorem dX11_init_158 : decode cX11_init 158 = .ok (.sipush 2500, 3) := by decide +kernel
theorem dX11_init_161 : decode cX11_init 161 = .ok (.newarray .int, 2) := by decide +kernel
theorem dX11_init_163 : decode cX11_init 163 = .ok (.putfield 71, 3) := by decide +kernel
theorem dX11_init_166 : decode cX11_init 166 = .ok (.aload_n 0, 1) := by decide +kernel
theorem dX11_init_167 : decode cX11_init 167 = .ok (.sipush 2500, 3) := by decide +kernel
theorem dX11_init_170 : decode cX11_init 170 = .ok (.newarray .int, 2) := by decide +kernel
theorem dX11_init_172 : decode cX11_init 172 = .ok (.putfield 74, 3) := by decide +kernel
theorem dX11_init_175 : decode cX11_init 175 = .ok (.aload_n 0, 1) := by decide +kernel
theorem dX11_init_176 : decode cX11_init 176 = .ok (.iconst 0, 1) := by decide +kernel
theorem dX11_init_177 : decode cX11_init 177 = .ok (.putfield 77, 3) := by decide +kernel
theorem dX11_init_180 : decode cX11_init 180 = .ok (.aload_n 0, 1) := by decide +kernel
theorem dX11_init_181 : decode cX11_init 181 = .ok (.iconst 0, 1) := by decide +kernel
theorem dX11_init_182 : decode cX11_init 182 = .ok (.putfield 80, 3) := by decide +kernel
theorem dX11_init_185 : decode cX11_init 185 = .ok (.aload_n 0, 1) := by decide +kernel
theorem dX11_init_186 : decode cX11_init 186 = .ok (.bipush 80, 2) := by decide +kernel
theorem dX11_init_188 : decode cX11_init 188 = .ok (.newarray .int, 2) := by decide +kernel
theorem dX11_init_190 : decode cX11_init 190 = .ok (.putfield 83, 3) := by decide +kernel
theorem dX11_init_193 : decode cX11_init 193 = .ok (.aload_n 0, 1) := by decide +kernel
theorem dX11_init_194 : decode cX11_init 194 = .ok (.bipush 80, 2) := by decide +kernel
theorem dX11_init_196 : decode cX11_init 196 = .ok (.newarray .int, 2) := by decide +kernel
theorem dX11_init_198 : decode cX11_init 198 = .ok (.putfield 86, 3) := by decide +kernel
theorem dX11_init_201 : decode cX11_init 201 = .ok (.aload_n 0, 1) := by decide +kernel
theorem dX11_init_202 : decode cX11_init 202 = .ok (.iconst 0, 1) := by decide +kernel
theorem dX11_init_203 : decode cX11_init 203 = .ok (.putfield 89, 3) := by decide +kernel
theorem dX11_init_206 : decode cX11_init 206 = .ok (.aload_n 0, 1) := by decide +kernel
theorem dX11_init_207 : decode cX11_init 207 = .ok (.iconst 0, 1) := by decide +kernel
theorem dX11_init_208 : decode cX11_init 208 = .ok (.putfield 92, 3) := by decide +kernel
theorem dX11_init_211 : decode cX11_init 211 = .ok (.return_, 1) := by decide +kernel
theorem dX11_feed_0 : decode cX11_feed 0 = .ok (.iload_n 3, 1) := by decide +kernel
theorem dX11_feed_1 : decode cX11_feed 1 = .ok (.iconst 1, 1) := by decide +kernel
theorem dX11_feed_2 : decode cX11_feed 2 = .ok (.if_icmp .lt 9, 3) := by decide +kernel
theorem dX11_feed_5 : decode cX11_feed 5 = .ok (.iload_n 3, 1) := by decide +kernel
theorem dX11_feed_6 : decode cX11_feed 6 = .ok (.bipush 8, 2) := by decide +kernel
theorem dX11_feed_8 : decode cX11_feed 8 = .ok (.if_icmp .le 6, 3) := by decide +kernel
theorem dX11_feed_11 : decode cX11_feed 11 = .ok (.bipush (-5), 2) := by decide +kernel
theorem dX11_feed_13 : decode cX11_feed 13 = .ok (.ireturn, 1) := by decide +kernel
theorem dX11_feed_14 : decode cX11_feed 14 = .ok (.aload_n 0, 1) := by decide +kernel
theorem dX11_feed_15 : decode cX11_feed 15 = .ok (.getfield 13, 3) := by decide +kernel
theorem dX11_feed_18 : decode cX11_feed 18 = .ok (.iload_n 3, 1) := by decide +kernel
theorem dX11_feed_19 : decode cX11_feed 19 = .ok (.iadd, 1) := by decide +kernel
theorem dX11_feed_20 : decode cX11_feed 20 = .ok (.sipush 1000, 3) := by decide +kernel
theorem dX11_feed_23 : decode cX11_feed 23 = .ok (.if_icmp .le 6, 3) := by decide +kernel
theorem dX11_feed_26 : decode cX11_feed 26 = .ok (.bipush (-7), 2) := by decide +kernel
theorem dX11_feed_28 : decode cX11_feed 28 = .ok (.ireturn, 1) := by decide +kernel
theorem dX11_feed_29 : decode cX11_feed 29 = .ok (.iload_n 3, 1) := by decide +kernel
theorem dX11_feed_30 : decode cX11_feed 30 = .ok (.iconst 1, 1) := by decide +kernel
theorem dX11_feed_31 : decode cX11_feed 31 = .ok (.isub, 1) := by decide +kernel
theorem dX11_feed_32 : decode cX11_feed 32 = .ok (.istore 4, 2) := by decide +kernel
theorem dX11_feed_34 : decode cX11_feed 34 = .ok (.iload 4, 2) := by decide +kernel
theorem dX11_feed_36 : decode cX11_feed 36 = .ok (.ifCond .lt 40, 3) := by decide +kernel
theorem dX11_feed_39 : decode cX11_feed 39 = .ok (.aload_n 0, 1) := by decide +kernel
theorem dX11_feed_40 : decode cX11_feed 40 = .ok (.getfield 7, 3) := by decide +kernel
theorem dX11_feed_43 : decode cX11_feed 43 = .ok (.aload_n 0, 1) := by decide +kernel
theorem dX11_feed_44 : decode cX11_feed 44 = .ok (.getfield 13, 3) := by decide +kernel
theorem dX11_feed_47 : decode cX11_feed 47 = .ok (.lload_n 1, 1) := by decide +kernel
theorem dX11_feed_48 : decode cX11_feed 48 = .ok (.bipush 8, 2) := by decide +kernel
theorem dX11_feed_50 : decode cX11_feed 50 = .ok (.iload 4, 2) := by decide +kernel
theorem dX11_feed_52 : decode cX11_feed 52 = .ok (.imul, 1) := by decide +kernel
theorem dX11_feed_53 : decode cX11_feed 53 = .ok (.lshr, 1) := by decide +kernel
theorem dX11_feed_54 : decode cX11_feed 54 = .ok (.ldc2_w 95, 3) := by decide +kernel
theorem dX11_feed_57 : decode cX11_feed 57 = .ok (.land, 1) := by decide +kernel
theorem dX11_feed_58 : decode cX11_feed 58 = .ok (.l2i, 1) := by decide +kernel
theorem dX11_feed_59 : decode cX11_feed 59 = .ok (.iastore, 1) := by decide +kernel
theorem dX11_feed_60 : decode cX11_feed 60 = .ok (.aload_n 0, 1) := by decide +kernel
theorem dX11_feed_61 : decode cX11_feed 61 = .ok (.dup, 1) := by decide +kernel
theorem dX11_feed_62 : decode cX11_feed 62 = .ok (.getfield 13, 3) := by decide +kernel
theorem dX11_feed_65 : decode cX11_feed 65 = .ok (.iconst 1, 1) := by decide +kernel
theorem dX11_feed_66 : decode cX11_feed 66 = .ok (.iadd, 1) := by decide +kernel
theorem dX11_feed_67 : decode cX11_feed 67 = .ok (.putfield 13, 3) := by decide +kernel
theorem dX11_feed_70 : decode cX11_feed 70 = .ok (.iinc 4 (-1), 3) := by decide +kernel
theorem dX11_feed_73 : decode cX11_feed 73 = .ok (.goto (-39), 3) := by decide +kernel
theorem dX11_feed_76 : decode cX11_feed 76 = .ok (.aload_n 0, 1) := by decide +kernel
theorem dX11_feed_77 : decode cX11_feed 77 = .ok (.getfield 13, 3) := by decide +kernel
theorem dX11_feed_80 : decode cX11_feed 80 = .ok (.ireturn, 1) := by decide +kernel
theorem dX11_cut_0 : decode cX11_cut 0 = .ok (.iload_n 1, 1) := by decide +kernel
theorem dX11_cut_1 : decode cX11_cut 1 = .ok (.ifCond .lt 11, 3) := by decide +kernel
theorem dX11_cut_4 : decode cX11_cut 4 = .ok (.iload_n 1, 1) := by decide +kernel
theorem dX11_cut_5 : decode cX11_cut 5 = .ok (.aload_n 0, 1) := by decide +kernel
theorem dX11_cut_6 : decode cX11_cut 6 = .ok (.getfield 13, 3) := by decide +kernel
theorem dX11_cut_9 : decode cX11_cut 9 = .ok (.if_icmp .le 6, 3) := by decide +kernel
theorem dX11_cut_12 : decode cX11_cut 12 = .ok (.bipush (-5), 2) := by decide +kernel
theorem dX11_cut_14 : decode cX11_cut 14 = .ok (.ireturn, 1) := by decide +kernel
theorem dX11_cut_15 : decode cX11_cut 15 = .ok (.aload_n 0, 1) := by decide +kernel
theorem dX11_cut_16 : decode cX11_cut 16 = .ok (.iload_n 1, 1) := by decide +kernel
theorem dX11_cut_17 : decode cX11_cut 17 = .ok (.putfield 13, 3) := by decide +kernel
theorem dX11_cut_20 : decode cX11_cut 20 = .ok (.iload_n 1, 1) := by decide +kernel
theorem dX11_cut_21 : decode cX11_cut 21 = .ok (.ireturn, 1) := by decide +kernel
theorem dX11_tape_0 : decode cX11_tape 0 = .ok (.iload_n 1, 1) := by decide +kernel
theorem dX11_tape_1 : decode cX11_tape 1 = .ok (.ifCond .lt 11, 3) := by decide +kernel
theorem dX11_tape_4 : decode cX11_tape 4 = .ok (.iload_n 1, 1) := by decide +kernel
theorem dX11_tape_5 : decode cX11_tape 5 = .ok (.aload_n 0, 1) := by decide +kernel
theorem dX11_tape_6 : decode cX11_tape 6 = .ok (.getfield 13, 3) := by decide +kernel
theorem dX11_tape_9 : decode cX11_tape 9 = .ok (.if_icmp .lt 7, 3) := by decide +kernel
theorem dX11_tape_12 : decode cX11_tape 12 = .ok (.iconst (-1), 1) := by decide +kernel
theorem dX11_tape_13 : decode cX11_tape 13 = .ok (.goto 9, 3) := by decide +kernel
theorem dX11_tape_16 : decode cX11_tape 16 = .ok (.aload_n 0, 1) := by decide +kernel
theorem dX11_tape_17 : decode cX11_tape 17 = .ok (.getfield 7, 3) := by decide +kernel
theorem dX11_tape_20 : decode cX11_tape 20 = .ok (.iload_n 1, 1) := by decide +kernel
theorem dX11_tape_21 : decode cX11_tape 21 = .ok (.iaload, 1) := by decide +kernel
theorem dX11_tape_22 : decode cX11_tape 22 = .ok (.ireturn, 1) := by decide +kernel
theorem dX11_takes_0 : decode cX11_takes 0 = .ok (.aload_n 0, 1) := by decide +kernel
theorem dX11_takes_1 : decode cX11_takes 1 = .ok (.getfield 13, 3) := by decide +kernel
theorem dX11_takes_4 : decode cX11_takes 4 = .ok (.iconst 1, 1) := by decide +kernel
theorem dX11_takes_5 : decode cX11_takes 5 = .ok (.if_icmp .lt 16, 3) := by decide +kernel
theorem dX11_takes_8 : decode cX11_takes 8 = .ok (.aload_n 0, 1) := by decide +kernel
theorem dX11_takes_9 : decode cX11_takes 9 = .ok (.getfield 13, 3) := by decide +kernel
theorem dX11_takes_12 : decode cX11_takes 12 = .ok (.bipush 24, 2) := by decide +kernel
theorem dX11_takes_14 : decode cX11_takes 14 = .ok (.if_icmp .gt 7, 3) := by decide +kernel
theorem dX11_takes_17 : decode cX11_takes 17 = .ok (.iconst 1, 1) := by decide +kernel
theorem dX11_takes_18 : decode cX11_takes 18 = .ok (.goto 4, 3) := by decide +kernel
theorem dX11_takes_21 : decode cX11_takes 21 = .ok (.iconst 0, 1) := by decide +kernel
theorem dX11_takes_22 : decode cX11_takes 22 = .ok (.istore_n 1, 1) := by decide +kernel
theorem dX11_takes_23 : decode cX11_takes 23 = .ok (.iconst 0, 1) := by decide +kernel
theorem dX11_takes_24 : decode cX11_takes 24 = .ok (.istore_n 2, 1) := by decide +kernel
theorem dX11_takes_25 : decode cX11_takes 25 = .ok (.iload_n 2, 1) := by decide +kernel
theorem dX11_takes_26 : decode cX11_takes 26 = .ok (.aload_n 0, 1) := by decide +kernel
theorem dX11_takes_27 : decode cX11_takes 27 = .ok (.getfield 13, 3) := by decide +kernel
theorem dX11_takes_30 : decode cX11_takes 30 = .ok (.if_icmp .ge 40, 3) := by decide +kernel
theorem dX11_takes_33 : decode cX11_takes 33 = .ok (.iload_n 1, 1) := by decide +kernel
theorem dX11_takes_34 : decode cX11_takes 34 = .ok (.ifCond .eq 36, 3) := by decide +kernel
theorem dX11_takes_37 : decode cX11_takes 37 = .ok (.aload_n 0, 1) := by decide +kernel
theorem dX11_takes_38 : decode cX11_takes 38 = .ok (.getfield 7, 3) := by decide +kernel
theorem dX11_takes_41 : decode cX11_takes 41 = .ok (.iload_n 2, 1) := by decide +kernel
theorem dX11_takes_42 : decode cX11_takes 42 = .ok (.iaload, 1) := by decide +kernel
theorem dX11_takes_43 : decode cX11_takes 43 = .ok (.ifCond .eq 7, 3) := by decide +kernel
theorem dX11_takes_46 : decode cX11_takes 46 = .ok (.iconst 1, 1) := by decide +kernel
theorem dX11_takes_47 : decode cX11_takes 47 = .ok (.goto 4, 3) := by decide +kernel
theorem dX11_takes_50 : decode cX11_takes 50 = .ok (.iconst 0, 1) := by decide +kernel
theorem dX11_takes_51 : decode cX11_takes 51 = .ok (.istore_n 1, 1) := by decide +kernel
theorem dX11_takes_52 : decode cX11_takes 52 = .ok (.aload_n 0, 1) := by decide +kernel
theorem dX11_takes_53 : decode cX11_takes 53 = .ok (.getfield 56, 3) := by decide +kernel
theorem dX11_takes_56 : decode cX11_takes 56 = .ok (.iload_n 2, 1) := by decide +kernel
theorem dX11_takes_57 : decode cX11_takes 57 = .ok (.aload_n 0, 1) := by decide +kernel
theorem dX11_takes_58 : decode cX11_takes 58 = .ok (.getfield 7, 3) := by decide +kernel
theorem dX11_takes_61 : decode cX11_takes 61 = .ok (.iload_n 2, 1) := by decide +kernel
theorem dX11_takes_62 : decode cX11_takes 62 = .ok (.iaload, 1) := by decide +kernel
theorem dX11_takes_63 : decode cX11_takes 63 = .ok (.iastore, 1) := by decide +kernel
theorem dX11_takes_64 : decode cX11_takes 64 = .ok (.iinc 2 1, 3) := by decide +kernel
theorem dX11_takes_67 : decode cX11_takes 67 = .ok (.goto (-42), 3) := by decide +kernel
theorem dX11_takes_70 : decode cX11_takes 70 = .ok (.aload_n 0, 1) := by decide +kernel
theorem dX11_takes_71 : decode cX11_takes 71 = .ok (.aload_n 0, 1) := by decide +kernel
theorem dX11_takes_72 : decode cX11_takes 72 = .ok (.getfield 13, 3) := by decide +kernel
theorem dX11_takes_75 : decode cX11_takes 75 = .ok (.putfield 59, 3) := by decide +kernel
theorem dX11_takes_78 : decode cX11_takes 78 = .ok (.aload_n 0, 1) := by decide +kernel
theorem dX11_takes_79 : decode cX11_takes 79 = .ok (.iconst 0, 1) := by decide +kernel
theorem dX11_takes_80 : decode cX11_takes 80 = .ok (.putfield 13, 3) := by decide +kernel
theorem dX11_takes_83 : decode cX11_takes 83 = .ok (.iload_n 1, 1) := by decide +kernel
theorem dX11_takes_84 : decode cX11_takes 84 = .ok (.ireturn, 1) := by decide +kernel
theorem dX11_isPlace_0 : decode cX11_isPlace 0 = .ok (.iload_n 1, 1) := by decide +kernel
theorem dX11_isPlace_1 : decode cX11_isPlace 1 = .ok (.ifCond .lt 13, 3) := by decide +kernel
theorem dX11_isPlace_4 : decode cX11_isPlace 4 = .ok (.iload_n 1, 1) := by decide +kernel
theorem dX11_isPlace_5 : decode cX11_isPlace 5 = .ok (.bipush 10, 2) := by decide +kernel
theorem dX11_isPlace_7 : decode cX11_isPlace 7 = .ok (.if_icmp .ge 7, 3) := by decide +kernel
theorem dX11_isPlace_10 : decode cX11_isPlace 10 = .ok (.iconst 1, 1) := by decide +kernel
theorem dX11_isPlace_11 : decode cX11_isPlace 11 = .ok (.goto 4, 3) := by decide +kernel
theorem dX11_isPlace_14 : decode cX11_isPlace 14 = .ok (.iconst 0, 1) := by decide +kernel
theorem dX11_isPlace_15 : decode cX11_isPlace 15 = .ok (.ireturn, 1) := by decide +kernel
theorem dX11_at_0 : decode cX11_at 0 = .ok (.aload_n 0, 1) := by decide +kernel
theorem dX11_at_1 : decode cX11_at 1 = .ok (.getfield 17, 3) := by decide +kernel
theorem dX11_at_4 : decode cX11_at 4 = .ok (.iload_n 1, 1) := by decide +kernel
theorem dX11_at_5 : decode cX11_at 5 = .ok (.iaload, 1) := by decide +kernel
theorem dX11_at_6 : decode cX11_at 6 = .ok (.iconst 1, 1) := by decide +kernel
theorem dX11_at_7 : decode cX11_at 7 = .ok (.isub, 1) := by decide +kernel
theorem dX11_at_8 : decode cX11_at 8 = .ok (.ireturn, 1) := by decide +kernel
theorem dX11_made_0 : decode cX11_made 0 = .ok (.iconst 0, 1) := by decide +kernel
theorem dX11_made_1 : decode cX11_made 1 = .ok (.istore_n 2, 1) := by decide +kernel
theorem dX11_made_2 : decode cX11_made 2 = .ok (.iconst 1, 1) := by decide +kernel
theorem dX11_made_3 : decode cX11_made 3 = .ok (.istore_n 3, 1) := by decide +kernel
theorem dX11_made_4 : decode cX11_made 4 = .ok (.iload_n 3, 1) := by decide +kernel
theorem dX11_made_5 : decode cX11_made 5 = .ok (.ifCond .eq 54, 3) := by decide +kernel
theorem dX11_made_8 : decode cX11_made 8 = .ok (.iconst 0, 1) := by decide +kernel
theorem dX11_made_9 : decode cX11_made 9 = .ok (.istore_n 3, 1) := by decide +kernel
theorem dX11_made_10 : decode cX11_made 10 = .ok (.iconst 0, 1) := by decide +kernel
theorem dX11_made_11 : decode cX11_made 11 = .ok (.istore 4, 2) := by decide +kernel
theorem dX11_made_13 : decode cX11_made 13 = .ok (.iload 4, 2) := by decide +kernel
theorem dX11_made_15 : decode cX11_made 15 = .ok (.bipush 10, 2) := by decide +kernel
theorem dX11_made_17 : decode cX11_made 17 = .ok (.if_icmp .ge 32, 3) := by decide +kernel
theorem dX11_made_20 : decode cX11_made 20 = .ok (.iload_n 3, 1) := by decide +kernel
theorem dX11_made_21 : decode cX11_made 21 = .ok (.ifCond .ne 16, 3) := by decide +kernel
theorem dX11_made_24 : decode cX11_made 24 = .ok (.aload_n 0, 1) := by decide +kernel
theorem dX11_made_25 : decode cX11_made 25 = .ok (.getfield 17, 3) := by decide +kernel
theorem dX11_made_28 : decode cX11_made 28 = .ok (.iload 4, 2) := by decide +kernel
theorem dX11_made_30 : decode cX11_made 30 = .ok (.iaload, 1) := by decide +kernel
theorem dX11_made_31 : decode cX11_made 31 = .ok (.iload_n 2, 1) := by decide +kernel
theorem dX11_made_32 : decode cX11_made 32 = .ok (.iconst 1, 1) := by decide +kernel
theorem dX11_made_33 : decode cX11_made 33 = .ok (.iadd, 1) := by decide +kernel
theorem dX11_made_34 : decode cX11_made 34 = .ok (.if_icmp .ne 7, 3) := by decide +kernel
theorem dX11_made_37 : decode cX11_made 37 = .ok (.iconst 1, 1) := by decide +kernel
theorem dX11_made_38 : decode cX11_made 38 = .ok (.goto 4, 3) := by decide +kernel
theorem dX11_made_41 : decode cX11_made 41 = .ok (.iconst 0, 1) := by decide +kernel
theorem dX11_made_42 : decode cX11_made 42 = .ok (.istore_n 3, 1) := by decide +kernel
theorem dX11_made_43 : decode cX11_made 43 = .ok (.iinc 4 1, 3) := by decide +kernel
theorem dX11_made_46 : decode cX11_made 46 = .ok (.goto (-33), 3) := by decide +kernel
theorem dX11_made_49 : decode cX11_made 49 = .ok (.iload_n 3, 1) := by decide +kernel
theorem dX11_made_50 : decode cX11_made 50 = .ok (.ifCond .eq (-46), 3) := by decide +kernel
theorem dX11_made_53 : decode cX11_made 53 = .ok (.iinc 2 1, 3) := by decide +kernel
theorem dX11_made_56 : decode cX11_made 56 = .ok (.goto (-52), 3) := by decide +kernel
theorem dX11_made_59 : decode cX11_made 59 = .ok (.aload_n 0, 1) := by decide +kernel
theorem dX11_made_60 : decode cX11_made 60 = .ok (.getfield 20, 3) := by decide +kernel
theorem dX11_made_63 : decode cX11_made 63 = .ok (.iload_n 2, 1) := by decide +kernel
theorem dX11_made_64 : decode cX11_made 64 = .ok (.iload_n 1, 1) := by decide +kernel
theorem dX11_made_65 : decode cX11_made 65 = .ok (.iastore, 1) := by decide +kernel
theorem dX11_made_66 : decode cX11_made 66 = .ok (.aload_n 0, 1) := by decide +kernel
theorem dX11_made_67 : decode cX11_made 67 = .ok (.getfield 23, 3) := by decide +kernel
theorem dX11_made_70 : decode cX11_made 70 = .ok (.iload_n 2, 1) := by decide +kernel
theorem dX11_made_71 : decode cX11_made 71 = .ok (.iconst 0, 1) := by decide +kernel
theorem dX11_made_72 : decode cX11_made 72 = .ok (.iastore, 1) := by decide +kernel
theorem dX11_made_73 : decode cX11_made 73 = .ok (.aload_n 0, 1) := by decide +kernel
theorem dX11_made_74 : decode cX11_made 74 = .ok (.getfield 26, 3) := by decide +kernel
theorem dX11_made_77 : decode cX11_made 77 = .ok (.iload_n 2, 1) := by decide +kernel
theorem dX11_made_78 : decode cX11_made 78 = .ok (.iconst 0, 1) := by decide +kernel
theorem dX11_made_79 : decode cX11_made 79 = .ok (.iastore, 1) := by decide +kernel
theorem dX11_made_80 : decode cX11_made 80 = .ok (.aload_n 0, 1) := by decide +kernel
theorem dX11_made_81 : decode cX11_made 81 = .ok (.getfield 29, 3) := by decide +kernel
theorem dX11_made_84 : decode cX11_made 84 = .ok (.iload_n 2, 1) := by decide +kernel
theorem dX11_made_85 : decode cX11_made 85 = .ok (.iconst 0, 1) := by decide +kernel
theorem dX11_made_86 : decode cX11_made 86 = .ok (.iastore, 1) := by decide +kernel
theorem dX11_made_87 : decode cX11_made 87 = .ok (.aload_n 0, 1) := by decide +kernel
theorem dX11_made_88 : decode cX11_made 88 = .ok (.getfield 32, 3) := by decide +kernel
theorem dX11_made_91 : decode cX11_made 91 = .ok (.iload_n 2, 1) := by decide +kernel
theorem dX11_made_92 : decode cX11_made 92 = .ok (.iconst 0, 1) := by decide +kernel
theorem dX11_made_93 : decode cX11_made 93 = .ok (.iastore, 1) := by decide +kernel
theorem dX11_made_94 : decode cX11_made 94 = .ok (.aload_n 0, 1) := by decide +kernel
theorem dX11_made_95 : decode cX11_made 95 = .ok (.getfield 35, 3) := by decide +kernel
theorem dX11_made_98 : decode cX11_made 98 = .ok (.iload_n 2, 1) := by decide +kernel
theorem dX11_made_99 : decode cX11_made 99 = .ok (.iconst 0, 1) := by decide +kernel
theorem dX11_made_100 : decode cX11_made 100 = .ok (.iastore, 1) := by decide +kernel
theorem dX11_made_101 : decode cX11_made 101 = .ok (.aload_n 0, 1) := by decide +kernel
theorem dX11_made_102 : decode cX11_made 102 = .ok (.getfield 38, 3) := by decide +kernel
theorem dX11_made_105 : decode cX11_made 105 = .ok (.iconst 2, 1) := by decide +kernel
theorem dX11_made_106 : decode cX11_made 106 = .ok (.iload_n 2, 1) := by decide +kernel
theorem dX11_made_107 : decode cX11_made 107 = .ok (.imul, 1) := by decide +kernel
theorem dX11_made_108 : decode cX11_made 108 = .ok (.iconst 0, 1) := by decide +kernel
theorem dX11_made_109 : decode cX11_made 109 = .ok (.bastore, 1) := by decide +kernel
theorem dX11_made_110 : decode cX11_made 110 = .ok (.aload_n 0, 1) := by decide +kernel
theorem dX11_made_111 : decode cX11_made 111 = .ok (.getfield 38, 3) := by decide +kernel
theorem dX11_made_114 : decode cX11_made 114 = .ok (.iconst 2, 1) := by decide +kernel
theorem dX11_made_115 : decode cX11_made 115 = .ok (.iload_n 2, 1) := by decide +kernel
theorem dX11_made_116 : decode cX11_made 116 = .ok (.imul, 1) := by decide +kernel
theorem dX11_made_117 : decode cX11_made 117 = .ok (.iconst 1, 1) := by decide +kernel
theorem dX11_made_118 : decode cX11_made 118 = .ok (.iadd, 1) := by decide +kernel
theorem dX11_made_119 : decode cX11_made 119 = .ok (.iconst 0, 1) := by decide +kernel
theorem dX11_made_120 : decode cX11_made 120 = .ok (.bastore, 1) := by decide +kernel
theorem dX11_made_121 : decode cX11_made 121 = .ok (.iload_n 2, 1) := by decide +kernel
theorem dX11_made_122 : decode cX11_made 122 = .ok (.ireturn, 1) := by decide +kernel
theorem dX11_draft_0 : decode cX11_draft 0 = .ok (.aload_n 0, 1) := by decide +kernel
theorem dX11_draft_1 : decode cX11_draft 1 = .ok (.iload_n 1, 1) := by decide +kernel
theorem dX11_draft_2 : decode cX11_draft 2 = .ok (.invokevirtual 97, 3) := by decide +kernel
theorem dX11_draft_5 : decode cX11_draft 5 = .ok (.ifCond .ne 6, 3) := by decide +kernel
theorem dX11_draft_8 : decode cX11_draft 8 = .ok (.bipush (-2), 2) := by decide +kernel
theorem dX11_draft_10 : decode cX11_draft 10 = .ok (.ireturn, 1) := by decide +kernel
theorem dX11_draft_11 : decode cX11_draft 11 = .ok (.aload_n 0, 1) := by decide +kernel
theorem dX11_draft_12 : decode cX11_draft 12 = .ok (.bipush 6, 2) := by decide +kernel
theorem dX11_draft_14 : decode cX11_draft 14 = .ok (.invokevirtual 101, 3) := by decide +kernel
theorem dX11_draft_17 : decode cX11_draft 17 = .ok (.istore_n 2, 1) := by decide +kernel
theorem dX11_draft_18 : decode cX11_draft 18 = .ok (.aload_n 0, 1) := by decide +kernel
theorem dX11_draft_19 : decode cX11_draft 19 = .ok (.getfield 17, 3) := by decide +kernel
theorem dX11_draft_22 : decode cX11_draft 22 = .ok (.iload_n 1, 1) := by decide +kernel
theorem dX11_draft_23 : decode cX11_draft 23 = .ok (.iload_n 2, 1) := by decide +kernel
theorem dX11_draft_24 : decode cX11_draft 24 = .ok (.iconst 1, 1) := by decide +kernel
theorem dX11_draft_25 : decode cX11_draft 25 = .ok (.iadd, 1) := by decide +kernel
theorem dX11_draft_26 : decode cX11_draft 26 = .ok (.iastore, 1) := by decide +kernel
theorem dX11_draft_27 : decode cX11_draft 27 = .ok (.iconst 0, 1) := by decide +kernel
theorem dX11_draft_28 : decode cX11_draft 28 = .ok (.ireturn, 1) := by decide +kernel
theorem dX11_row_0 : decode cX11_row 0 = .ok (.aload_n 0, 1) := by decide +kernel
theorem dX11_row_1 : decode cX11_row 1 = .ok (.iload_n 1, 1) := by decide +kernel
theorem dX11_row_2 : decode cX11_row 2 = .ok (.invokevirtual 97, 3) := by decide +kernel
theorem dX11_row_5 : decode cX11_row 5 = .ok (.ifCond .ne 6, 3) := by decide +kernel
theorem dX11_row_8 : decode cX11_row 8 = .ok (.bipush (-2), 2) := by decide +kernel
theorem dX11_row_10 : decode cX11_row 10 = .ok (.ireturn, 1) := by decide +kernel
theorem dX11_row_11 : decode cX11_row 11 = .ok (.iload_n 2, 1) := by decide +kernel
theorem dX11_row_12 : decode cX11_row 12 = .ok (.ifCond .lt 10, 3) := by decide +kernel
theorem dX11_row_15 : decode cX11_row 15 = .ok (.iload_n 2, 1) := by decide +kernel
theorem dX11_row_16 : decode cX11_row 16 = .ok (.sipush 4000, 3) := by decide +kernel
theorem dX11_row_19 : decode cX11_row 19 = .ok (.if_icmp .le 6, 3) := by decide +kernel
theorem dX11_row_22 : decode cX11_row 22 = .ok (.bipush (-5), 2) := by decide +kernel
theorem dX11_row_24 : decode cX11_row 24 = .ok (.ireturn, 1) := by decide +kernel
theorem dX11_row_25 : decode cX11_row 25 = .ok (.aload_n 0, 1) := by decide +kernel
theorem dX11_row_26 : decode cX11_row 26 = .ok (.bipush 7, 2) := by decide +kernel
theorem dX11_row_28 : decode cX11_row 28 = .ok (.invokevirtual 101, 3) := by decide +kernel
theorem dX11_row_31 : decode cX11_row 31 = .ok (.istore_n 3, 1) := by decide +kernel
theorem dX11_row_32 : decode cX11_row 32 = .ok (.aload_n 0, 1) := by decide +kernel
theorem dX11_row_33 : decode cX11_row 33 = .ok (.getfield 26, 3) := by decide +kernel
theorem dX11_row_36 : decode cX11_row 36 = .ok (.iload_n 3, 1) := by decide +kernel
theorem dX11_row_37 : decode cX11_row 37 = .ok (.iload_n 2, 1) := by decide +kernel
theorem dX11_row_38 : decode cX11_row 38 = .ok (.iastore, 1) := by decide +kernel
theorem dX11_row_39 : decode cX11_row 39 = .ok (.iconst 0, 1) := by decide +kernel
theorem dX11_row_40 : decode cX11_row 40 = .ok (.istore 4, 2) := by decide +kernel
theorem dX11_row_42 : decode cX11_row 42 = .ok (.iload 4, 2) := by decide +kernel
theorem dX11_row_44 : decode cX11_row 44 = .ok (.iload_n 2, 1) := by decide +kernel
theorem dX11_row_45 : decode cX11_row 45 = .ok (.if_icmp .ge 23, 3) := by decide +kernel
theorem dX11_row_48 : decode cX11_row 48 = .ok (.aload_n 0, 1) := by decide +kernel
theorem dX11_row_49 : decode cX11_row 49 = .ok (.getfield 43, 3) := by decide +kernel
theorem dX11_row_52 : decode cX11_row 52 = .ok (.sipush 4900, 3) := by decide +kernel
theorem dX11_row_55 : decode cX11_row 55 = .ok (.iload_n 3, 1) := by decide +kernel
theorem dX11_row_56 : decode cX11_row 56 = .ok (.imul, 1) := by decide +kernel
theorem dX11_row_57 : decode cX11_row 57 = .ok (.iload 4, 2) := by decide +kernel
theorem dX11_row_59 : decode cX11_row 59 = .ok (.iadd, 1) := by decide +kernel
theorem dX11_row_60 : decode cX11_row 60 = .ok (.iconst 0, 1) := by decide +kernel
theorem dX11_row_61 : decode cX11_row 61 = .ok (.iastore, 1) := by decide +kernel
theorem dX11_row_62 : decode cX11_row 62 = .ok (.iinc 4 1, 3) := by decide +kernel
theorem dX11_row_65 : decode cX11_row 65 = .ok (.goto (-23), 3) := by decide +kernel
theorem dX11_row_68 : decode cX11_row 68 = .ok (.aload_n 0, 1) := by decide +kernel
theorem dX11_row_69 : decode cX11_row 69 = .ok (.getfield 17, 3) := by decide +kernel
theorem dX11_row_72 : decode cX11_row 72 = .ok (.iload_n 1, 1) := by decide +kernel
theorem dX11_row_73 : decode cX11_row 73 = .ok (.iload_n 3, 1) := by decide +kernel
theorem dX11_row_74 : decode cX11_row 74 = .ok (.iconst 1, 1) := by decide +kernel
theorem dX11_row_75 : decode cX11_row 75 = .ok (.iadd, 1) := by decide +kernel
theorem dX11_row_76 : decode cX11_row 76 = .ok (.iastore, 1) := by decide +kernel
theorem dX11_row_77 : decode cX11_row 77 = .ok (.iload_n 2, 1) := by decide +kernel
theorem dX11_row_78 : decode cX11_row 78 = .ok (.ireturn, 1) := by decide +kernel
theorem dX11_clear_0 : decode cX11_clear 0 = .ok (.aload_n 0, 1) := by decide +kernel
theorem dX11_clear_1 : decode cX11_clear 1 = .ok (.iload_n 1, 1) := by decide +kernel
theorem dX11_clear_2 : decode cX11_clear 2 = .ok (.invokevirtual 97, 3) := by decide +kernel
theorem dX11_clear_5 : decode cX11_clear 5 = .ok (.ifCond .ne 6, 3) := by decide +kernel
theorem dX11_clear_8 : decode cX11_clear 8 = .ok (.bipush (-2), 2) := by decide +kernel
theorem dX11_clear_10 : decode cX11_clear 10 = .ok (.ireturn, 1) := by decide +kernel
theorem dX11_clear_11 : decode cX11_clear 11 = .ok (.aload_n 0, 1) := by decide +kernel
theorem dX11_clear_12 : decode cX11_clear 12 = .ok (.iload_n 1, 1) := by decide +kernel
theorem dX11_clear_13 : decode cX11_clear 13 = .ok (.invokevirtual 105, 3) := by decide +kernel
theorem dX11_clear_16 : decode cX11_clear 16 = .ok (.istore_n 2, 1) := by decide +kernel
theorem dX11_clear_17 : decode cX11_clear 17 = .ok (.aload_n 0, 1) := by decide +kernel
theorem dX11_clear_18 : decode cX11_clear 18 = .ok (.getfield 17, 3) := by decide +kernel
theorem dX11_clear_21 : decode cX11_clear 21 = .ok (.iload_n 1, 1) := by decide +kernel
theorem dX11_clear_22 : decode cX11_clear 22 = .ok (.iconst 0, 1) := by decide +kernel
theorem dX11_clear_23 : decode cX11_clear 23 = .ok (.iastore, 1) := by decide +kernel
theorem dX11_clear_24 : decode cX11_clear 24 = .ok (.iload_n 2, 1) := by decide +kernel
theorem dX11_clear_25 : decode cX11_clear 25 = .ok (.ireturn, 1) := by decide +kernel
theorem dX11_share_0 : decode cX11_share 0 = .ok (.aload_n 0, 1) := by decide +kernel
theorem dX11_share_1 : decode cX11_share 1 = .ok (.iload_n 1, 1) := by decide +kernel
theorem dX11_share_2 : decode cX11_share 2 = .ok (.invokevirtual 97, 3) := by decide +kernel
theorem dX11_share_5 : decode cX11_share 5 = .ok (.ifCond .eq 11, 3) := by decide +kernel
theorem dX11_share_8 : decode cX11_share 8 = .ok (.aload_n 0, 1) := by decide +kernel
theorem dX11_share_9 : decode cX11_share 9 = .ok (.iload_n 2, 1) := by decide +kernel
theorem dX11_share_10 : decode cX11_share 10 = .ok (.invokevirtual 97, 3) := by decide +kernel
theorem dX11_share_13 : decode cX11_share 13 = .ok (.ifCond .ne 6, 3) := by decide +kernel
theorem dX11_share_16 : decode cX11_share 16 = .ok (.bipush (-2), 2) := by decide +kernel
theorem dX11_share_18 : decode cX11_share 18 = .ok (.ireturn, 1) := by decide +kernel
theorem dX11_share_19 : decode cX11_share 19 = .ok (.aload_n 0, 1) := by decide +kernel
theorem dX11_share_20 : decode cX11_share 20 = .ok (.getfield 17, 3) := by decide +kernel
theorem dX11_share_23 : decode cX11_share 23 = .ok (.iload_n 1, 1) := by decide +kernel
theorem dX11_share_24 : decode cX11_share 24 = .ok (.iaload, 1) := by decide +kernel
theorem dX11_share_25 : decode cX11_share 25 = .ok (.ifCond .ne 6, 3) := by decide +kernel
theorem dX11_share_28 : decode cX11_share 28 = .ok (.bipush (-3), 2) := by decide +kernel
theorem dX11_share_30 : decode cX11_share 30 = .ok (.ireturn, 1) := by decide +kernel
theorem dX11_share_31 : decode cX11_share 31 = .ok (.aload_n 0, 1) := by decide +kernel
theorem dX11_share_32 : decode cX11_share 32 = .ok (.getfield 17, 3) := by decide +kernel
theorem dX11_share_35 : decode cX11_share 35 = .ok (.iload_n 2, 1) := by decide +kernel
theorem dX11_share_36 : decode cX11_share 36 = .ok (.aload_n 0, 1) := by decide +kernel
theorem dX11_share_37 : decode cX11_share 37 = .ok (.getfield 17, 3) := by decide +kernel
theorem dX11_share_40 : decode cX11_share 40 = .ok (.iload_n 1, 1) := by decide +kernel
theorem dX11_share_41 : decode cX11_share 41 = .ok (.iaload, 1) := by decide +kernel
theorem dX11_share_42 : decode cX11_share 42 = .ok (.iastore, 1) := by decide +kernel
theorem dX11_share_43 : decode cX11_share 43 = .ok (.aload_n 0, 1) := by decide +kernel
theorem dX11_share_44 : decode cX11_share 44 = .ok (.iload_n 1, 1) := by decide +kernel
theorem dX11_share_45 : decode cX11_share 45 = .ok (.invokevirtual 105, 3) := by decide +kernel
theorem dX11_share_48 : decode cX11_share 48 = .ok (.ireturn, 1) := by decide +kernel
theorem dX11_kind_0 : decode cX11_kind 0 = .ok (.aload_n 0, 1) := by decide +kernel
theorem dX11_kind_1 : decode cX11_kind 1 = .ok (.iload_n 1, 1) := by decide +kernel
theorem dX11_kind_2 : decode cX11_kind 2 = .ok (.invokevirtual 97, 3) := by decide +kernel
theorem dX11_kind_5 : decode cX11_kind 5 = .ok (.ifCond .ne 6, 3) := by decide +kernel
theorem dX11_kind_8 : decode cX11_kind 8 = .ok (.bipush (-2), 2) := by decide +kernel
theorem dX11_kind_10 : decode cX11_kind 10 = .ok (.ireturn, 1) := by decide +kernel
theorem dX11_kind_11 : decode cX11_kind 11 = .ok (.aload_n 0, 1) := by decide +kernel
theorem dX11_kind_12 : decode cX11_kind 12 = .ok (.getfield 17, 3) := by decide +kernel
theorem dX11_kind_15 : decode cX11_kind 15 = .ok (.iload_n 1, 1) := by decide +kernel
theorem dX11_kind_16 : decode cX11_kind 16 = .ok (.iaload, 1) := by decide +kernel
theorem dX11_kind_17 : decode cX11_kind 17 = .ok (.ifCond .ne 7, 3) := by decide +kernel
theorem dX11_kind_20 : decode cX11_kind 20 = .ok (.iconst 0, 1) := by decide +kernel
theorem dX11_kind_21 : decode cX11_kind 21 = .ok (.goto 13, 3) := by decide +kernel
theorem dX11_kind_24 : decode cX11_kind 24 = .ok (.aload_n 0, 1) := by decide +kernel
theorem dX11_kind_25 : decode cX11_kind 25 = .ok (.getfield 20, 3) := by decide +kernel
theorem dX11_kind_28 : decode cX11_kind 28 = .ok (.aload_n 0, 1) := by decide +kernel
theorem dX11_kind_29 : decode cX11_kind 29 = .ok (.iload_n 1, 1) := by decide +kernel
theorem dX11_kind_30 : decode cX11_kind 30 = .ok (.invokevirtual 108, 3) := by decide +kernel
theorem dX11_kind_33 : decode cX11_kind 33 = .ok (.iaload, 1) := by decide +kernel
theorem dX11_kind_34 : decode cX11_kind 34 = .ok (.ireturn, 1) := by decide +kernel
theorem dX11_same_0 : decode cX11_same 0 = .ok (.aload_n 0, 1) := by decide +kernel
theorem dX11_same_1 : decode cX11_same 1 = .ok (.iload_n 1, 1) := by decide +kernel
theorem dX11_same_2 : decode cX11_same 2 = .ok (.invokevirtual 97, 3) := by decide +kernel
theorem dX11_same_5 : decode cX11_same 5 = .ok (.ifCond .ne 6, 3) := by decide +kernel
theorem dX11_same_8 : decode cX11_same 8 = .ok (.bipush (-2), 2) := by decide +kernel
theorem dX11_same_10 : decode cX11_same 10 = .ok (.ireturn, 1) := by decide +kernel
theorem dX11_same_11 : decode cX11_same 11 = .ok (.iconst 0, 1) := by decide +kernel
theorem dX11_same_12 : decode cX11_same 12 = .ok (.istore_n 2, 1) := by decide +kernel
theorem dX11_same_13 : decode cX11_same 13 = .ok (.iconst 0, 1) := by decide +kernel
theorem dX11_same_14 : decode cX11_same 14 = .ok (.istore_n 3, 1) := by decide +kernel
theorem dX11_same_15 : decode cX11_same 15 = .ok (.iload_n 3, 1) := by decide +kernel
theorem dX11_same_16 : decode cX11_same 16 = .ok (.bipush 10, 2) := by decide +kernel
theorem dX11_same_18 : decode cX11_same 18 = .ok (.if_icmp .ge 41, 3) := by decide +kernel
theorem dX11_same_21 : decode cX11_same 21 = .ok (.iload_n 2, 1) := by decide +kernel
theorem dX11_same_22 : decode cX11_same 22 = .ok (.aload_n 0, 1) := by decide +kernel
theorem dX11_same_23 : decode cX11_same 23 = .ok (.getfield 17, 3) := by decide +kernel
theorem dX11_same_26 : decode cX11_same 26 = .ok (.iload_n 1, 1) := by decide +kernel
theorem dX11_same_27 : decode cX11_same 27 = .ok (.iaload, 1) := by decide +kernel
theorem dX11_same_28 : decode cX11_same 28 = .ok (.ifCond .le 22, 3) := by decide +kernel
theorem dX11_same_31 : decode cX11_same 31 = .ok (.aload_n 0, 1) := by decide +kernel
theorem dX11_same_32 : decode cX11_same 32 = .ok (.getfield 17, 3) := by decide +kernel
theorem dX11_same_35 : decode cX11_same 35 = .ok (.iload_n 3, 1) := by decide +kernel
theorem dX11_same_36 : decode cX11_same 36 = .ok (.iaload, 1) := by decide +kernel
theorem dX11_same_37 : decode cX11_same 37 = .ok (.aload_n 0, 1) := by decide +kernel
theorem dX11_same_38 : decode cX11_same 38 = .ok (.getfield 17, 3) := by decide +kernel
theorem dX11_same_41 : decode cX11_same 41 = .ok (.iload_n 1, 1) := by decide +kernel
theorem dX11_same_42 : decode cX11_same 42 = .ok (.iaload, 1) := by decide +kernel
theorem dX11_same_43 : decode cX11_same 43 = .ok (.if_icmp .ne 7, 3) := by decide +kernel
theorem dX11_same_46 : decode cX11_same 46 = .ok (.iconst 1, 1) := by decide +kernel
theorem dX11_same_47 : decode cX11_same 47 = .ok (.goto 4, 3) := by decide +kernel
theorem dX11_same_50 : decode cX11_same 50 = .ok (.iconst 0, 1) := by decide +kernel
theorem dX11_same_51 : decode cX11_same 51 = .ok (.iadd, 1) := by decide +kernel
theorem dX11_same_52 : decode cX11_same 52 = .ok (.istore_n 2, 1) := by decide +kernel
theorem dX11_same_53 : decode cX11_same 53 = .ok (.iinc 3 1, 3) := by decide +kernel
theorem dX11_same_56 : decode cX11_same 56 = .ok (.goto (-41), 3) := by decide +kernel
theorem dX11_same_59 : decode cX11_same 59 = .ok (.iload_n 2, 1) := by decide +kernel
theorem dX11_same_60 : decode cX11_same 60 = .ok (.ireturn, 1) := by decide +kernel
theorem dX11_book_0 : decode cX11_book 0 = .ok (.aload_n 0, 1) := by decide +kernel
theorem dX11_book_1 : decode cX11_book 1 = .ok (.iload_n 1, 1) := by decide +kernel
theorem dX11_book_2 : decode cX11_book 2 = .ok (.invokevirtual 97, 3) := by decide +kernel
theorem dX11_book_5 : decode cX11_book 5 = .ok (.ifCond .ne 6, 3) := by decide +kernel
theorem dX11_book_8 : decode cX11_book 8 = .ok (.bipush (-2), 2) := by decide +kernel
theorem dX11_book_10 : decode cX11_book 10 = .ok (.ireturn, 1) := by decide +kernel
theorem dX11_book_11 : decode cX11_book 11 = .ok (.aload_n 0, 1) := by decide +kernel
theorem dX11_book_12 : decode cX11_book 12 = .ok (.getfield 17, 3) := by decide +kernel
theorem dX11_book_15 : decode cX11_book 15 = .ok (.iload_n 1, 1) := by decide +kernel
theorem dX11_book_16 : decode cX11_book 16 = .ok (.iaload, 1) := by decide +kernel
theorem dX11_book_17 : decode cX11_book 17 = .ok (.ifCond .ne 6, 3) := by decide +kernel
theorem dX11_book_20 : decode cX11_book 20 = .ok (.bipush (-3), 2) := by decide +kernel
theorem dX11_book_22 : decode cX11_book 22 = .ok (.ireturn, 1) := by decide +kernel
theorem dX11_book_23 : decode cX11_book 23 = .ok (.aload_n 0, 1) := by decide +kernel
theorem dX11_book_24 : decode cX11_book 24 = .ok (.getfield 20, 3) := by decide +kernel
theorem dX11_book_27 : decode cX11_book 27 = .ok (.aload_n 0, 1) := by decide +kernel
theorem dX11_book_28 : decode cX11_book 28 = .ok (.iload_n 1, 1) := by decide +kernel
theorem dX11_book_29 : decode cX11_book 29 = .ok (.invokevirtual 108, 3) := by decide +kernel
theorem dX11_book_32 : decode cX11_book 32 = .ok (.iaload, 1) := by decide +kernel
theorem dX11_book_33 : decode cX11_book 33 = .ok (.iconst 5, 1) := by decide +kernel
theorem dX11_book_34 : decode cX11_book 34 = .ok (.if_icmp .le 8, 3) := by decide +kernel
theorem dX11_book_37 : decode cX11_book 37 = .ok (.bipush (-4), 2) := by decide +kernel
theorem dX11_book_39 : decode cX11_book 39 = .ok (.goto 4, 3) := by decide +kernel
theorem dX11_book_42 : decode cX11_book 42 = .ok (.iconst 0, 1) := by decide +kernel
theorem dX11_book_43 : decode cX11_book 43 = .ok (.ireturn, 1) := by decide +kernel
theorem dX11_drafted_0 : decode cX11_drafted 0 = .ok (.aload_n 0, 1) := by decide +kernel
theorem dX11_drafted_1 : decode cX11_drafted 1 = .ok (.iload_n 1, 1) := by decide +kernel
theorem dX11_drafted_2 : decode cX11_drafted 2 = .ok (.invokevirtual 97, 3) := by decide +kernel
theorem dX11_drafted_5 : decode cX11_drafted 5 = .ok (.ifCond .ne 6, 3) := by decide +kernel
theorem dX11_drafted_8 : decode cX11_drafted 8 = .ok (.bipush (-2), 2) := by decide +kernel
theorem dX11_drafted_10 : decode cX11_drafted 10 = .ok (.ireturn, 1) := by decide +kernel
theorem dX11_drafted_11 : decode cX11_drafted 11 = .ok (.aload_n 0, 1) := by decide +kernel
theorem dX11_drafted_12 : decode cX11_drafted 12 = .ok (.getfield 17, 3) := by decide +kernel
theorem dX11_drafted_15 : decode cX11_drafted 15 = .ok (.iload_n 1, 1) := by decide +kernel
theorem dX11_drafted_16 : decode cX11_drafted 16 = .ok (.iaload, 1) := by decide +kernel
theorem dX11_drafted_17 : decode cX11_drafted 17 = .ok (.ifCond .ne 6, 3) := by decide +kernel
theorem dX11_drafted_20 : decode cX11_drafted 20 = .ok (.bipush (-3), 2) := by decide +kernel
theorem dX11_drafted_22 : decode cX11_drafted 22 = .ok (.ireturn, 1) := by decide +kernel
theorem dX11_drafted_23 : decode cX11_drafted 23 = .ok (.aload_n 0, 1) := by decide +kernel
theorem dX11_drafted_24 : decode cX11_drafted 24 = .ok (.getfield 20, 3) := by decide +kernel
theorem dX11_drafted_27 : decode cX11_drafted 27 = .ok (.aload_n 0, 1) := by decide +kernel
theorem dX11_drafted_28 : decode cX11_drafted 28 = .ok (.iload_n 1, 1) := by decide +kernel
theorem dX11_drafted_29 : decode cX11_drafted 29 = .ok (.invokevirtual 108, 3) := by decide +kernel
theorem dX11_drafted_32 : decode cX11_drafted 32 = .ok (.iaload, 1) := by decide +kernel
theorem dX11_drafted_33 : decode cX11_drafted 33 = .ok (.bipush 6, 2) := by decide +kernel
theorem dX11_drafted_35 : decode cX11_drafted 35 = .ok (.if_icmp .ne 7, 3) := by decide +kernel
theorem dX11_drafted_38 : decode cX11_drafted 38 = .ok (.iconst 0, 1) := by decide +kernel
theorem dX11_drafted_39 : decode cX11_drafted 39 = .ok (.goto 5, 3) := by decide +kernel
theorem dX11_drafted_42 : decode cX11_drafted 42 = .ok (.bipush (-4), 2) := by decide +kernel
theorem dX11_drafted_44 : decode cX11_drafted 44 = .ok (.ireturn, 1) := by decide +kernel
theorem dX11_rowed_0 : decode cX11_rowed 0 = .ok (.aload_n 0, 1) := by decide +kernel
theorem dX11_rowed_1 : decode cX11_rowed 1 = .ok (.iload_n 1, 1) := by decide +kernel
theorem dX11_rowed_2 : decode cX11_rowed 2 = .ok (.invokevirtual 97, 3) := by decide +kernel
theorem dX11_rowed_5 : decode cX11_rowed 5 = .ok (.ifCond .ne 6, 3) := by decide +kernel
theorem dX11_rowed_8 : decode cX11_rowed 8 = .ok (.bipush (-2), 2) := by decide +kernel
theorem dX11_rowed_10 : decode cX11_rowed 10 = .ok (.ireturn, 1) := by decide +kernel
theorem dX11_rowed_11 : decode cX11_rowed 11 = .ok (.aload_n 0, 1) := by decide +kernel
theorem dX11_rowed_12 : decode cX11_rowed 12 = .ok (.getfield 17, 3) := by decide +kernel
theorem dX11_rowed_15 : decode cX11_rowed 15 = .ok (.iload_n 1, 1) := by decide +kernel
theorem dX11_rowed_16 : decode cX11_rowed 16 = .ok (.iaload, 1) := by decide +kernel
theorem dX11_rowed_17 : decode cX11_rowed 17 = .ok (.ifCond .ne 6, 3) := by decide +kernel
theorem dX11_rowed_20 : decode cX11_rowed 20 = .ok (.bipush (-3), 2) := by decide +kernel
theorem dX11_rowed_22 : decode cX11_rowed 22 = .ok (.ireturn, 1) := by decide +kernel
theorem dX11_rowed_23 : decode cX11_rowed 23 = .ok (.aload_n 0, 1) := by decide +kernel
theorem dX11_rowed_24 : decode cX11_rowed 24 = .ok (.getfield 20, 3) := by decide +kernel
theorem dX11_rowed_27 : decode cX11_rowed 27 = .ok (.aload_n 0, 1) := by decide +kernel
theorem dX11_rowed_28 : decode cX11_rowed 28 = .ok (.iload_n 1, 1) := by decide +kernel
theorem dX11_rowed_29 : decode cX11_rowed 29 = .ok (.invokevirtual 108, 3) := by decide +kernel
theorem dX11_rowed_32 : decode cX11_rowed 32 = .ok (.iaload, 1) := by decide +kernel
theorem dX11_rowed_33 : decode cX11_rowed 33 = .ok (.iconst 1, 1) := by decide +kernel
theorem dX11_rowed_34 : decode cX11_rowed 34 = .ok (.if_icmp .eq 18, 3) := by decide +kernel
theorem dX11_rowed_37 : decode cX11_rowed 37 = .ok (.aload_n 0, 1) := by decide +kernel
theorem dX11_rowed_38 : decode cX11_rowed 38 = .ok (.getfield 20, 3) := by decide +kernel
theorem dX11_rowed_41 : decode cX11_rowed 41 = .ok (.aload_n 0, 1) := by decide +kernel
theorem dX11_rowed_42 : decode cX11_rowed 42 = .ok (.iload_n 1, 1) := by decide +kernel
theorem dX11_rowed_43 : decode cX11_rowed 43 = .ok (.invokevirtual 108, 3) := by decide +kernel
theorem dX11_rowed_46 : decode cX11_rowed 46 = .ok (.iaload, 1) := by decide +kernel
theorem dX11_rowed_47 : decode cX11_rowed 47 = .ok (.bipush 6, 2) := by decide +kernel
theorem dX11_rowed_49 : decode cX11_rowed 49 = .ok (.if_icmp .ne 8, 3) := by decide +kernel
theorem dX11_rowed_52 : decode cX11_rowed 52 = .ok (.bipush (-4), 2) := by decide +kernel
theorem dX11_rowed_54 : decode cX11_rowed 54 = .ok (.goto 4, 3) := by decide +kernel
theorem dX11_rowed_57 : decode cX11_rowed 57 = .ok (.iconst 0, 1) := by decide +kernel
theorem dX11_rowed_58 : decode cX11_rowed 58 = .ok (.ireturn, 1) := by decide +kernel
theorem dX11_misses_0 : decode cX11_misses 0 = .ok (.aload_n 0, 1) := by decide +kernel
theorem dX11_misses_1 : decode cX11_misses 1 = .ok (.getfield 38, 3) := by decide +kernel
theorem dX11_misses_4 : decode cX11_misses 4 = .ok (.iconst 2, 1) := by decide +kernel
theorem dX11_misses_5 : decode cX11_misses 5 = .ok (.iload_n 1, 1) := by decide +kernel
theorem dX11_misses_6 : decode cX11_misses 6 = .ok (.imul, 1) := by decide +kernel
theorem dX11_misses_7 : decode cX11_misses 7 = .ok (.baload, 1) := by decide +kernel
theorem dX11_misses_8 : decode cX11_misses 8 = .ok (.ifCond .ne 16, 3) := by decide +kernel
theorem dX11_misses_11 : decode cX11_misses 11 = .ok (.aload_n 0, 1) := by decide +kernel
theorem dX11_misses_12 : decode cX11_misses 12 = .ok (.getfield 38, 3) := by decide +kernel
theorem dX11_misses_15 : decode cX11_misses 15 = .ok (.iconst 2, 1) := by decide +kernel
theorem dX11_misses_16 : decode cX11_misses 16 = .ok (.iload_n 1, 1) := by decide +kernel
theorem dX11_misses_17 : decode cX11_misses 17 = .ok (.imul, 1) := by decide +kernel
theorem dX11_misses_18 : decode cX11_misses 18 = .ok (.iconst 1, 1) := by decide +kernel
theorem dX11_misses_19 : decode cX11_misses 19 = .ok (.iadd, 1) := by decide +kernel
theorem dX11_misses_20 : decode cX11_misses 20 = .ok (.baload, 1) := by decide +kernel
theorem dX11_misses_21 : decode cX11_misses 21 = .ok (.ifCond .eq 7, 3) := by decide +kernel
theorem dX11_misses_24 : decode cX11_misses 24 = .ok (.iconst 1, 1) := by decide +kernel
theorem dX11_misses_25 : decode cX11_misses 25 = .ok (.goto 4, 3) := by decide +kernel
theorem dX11_misses_28 : decode cX11_misses 28 = .ok (.iconst 0, 1) := by decide +kernel
theorem dX11_misses_29 : decode cX11_misses 29 = .ok (.ireturn, 1) := by decide +kernel
theorem dX11_byteAt_0 : decode cX11_byteAt 0 = .ok (.aload_n 0, 1) := by decide +kernel
theorem dX11_byteAt_1 : decode cX11_byteAt 1 = .ok (.getfield 49, 3) := by decide +kernel
theorem dX11_byteAt_4 : decode cX11_byteAt 4 = .ok (.bipush 24, 2) := by decide +kernel
theorem dX11_byteAt_6 : decode cX11_byteAt 6 = .ok (.bipush 100, 2) := by decide +kernel
theorem dX11_byteAt_8 : decode cX11_byteAt 8 = .ok (.iload_n 1, 1) := by decide +kernel
theorem dX11_byteAt_9 : decode cX11_byteAt 9 = .ok (.imul, 1) := by decide +kernel
theorem dX11_byteAt_10 : decode cX11_byteAt 10 = .ok (.iload_n 2, 1) := by decide +kernel
theorem dX11_byteAt_11 : decode cX11_byteAt 11 = .ok (.iadd, 1) := by decide +kernel
theorem dX11_byteAt_12 : decode cX11_byteAt 12 = .ok (.imul, 1) := by decide +kernel
theorem dX11_byteAt_13 : decode cX11_byteAt 13 = .ok (.iload_n 3, 1) := by decide +kernel
theorem dX11_byteAt_14 : decode cX11_byteAt 14 = .ok (.iadd, 1) := by decide +kernel
theorem dX11_byteAt_15 : decode cX11_byteAt 15 = .ok (.iaload, 1) := by decide +kernel
theorem dX11_byteAt_16 : decode cX11_byteAt 16 = .ok (.ireturn, 1) := by decide +kernel
theorem dX11_order_0 : decode cX11_order 0 = .ok (.aload_n 0, 1) := by decide +kernel
theorem dX11_order_1 : decode cX11_order 1 = .ok (.getfield 46, 3) := by decide +kernel
theorem dX11_order_4 : decode cX11_order 4 = .ok (.bipush 100, 2) := by decide +kernel
theorem dX11_order_6 : decode cX11_order 6 = .ok (.iload_n 1, 1) := by decide +kernel
theorem dX11_order_7 : decode cX11_order 7 = .ok (.imul, 1) := by decide +kernel
theorem dX11_order_8 : decode cX11_order 8 = .ok (.iload_n 2, 1) := by decide +kernel
theorem dX11_order_9 : decode cX11_order 9 = .ok (.iadd, 1) := by decide +kernel
theorem dX11_order_10 : decode cX11_order 10 = .ok (.iaload, 1) := by decide +kernel
theorem dX11_order_11 : decode cX11_order 11 = .ok (.istore_n 3, 1) := by decide +kernel
theorem dX11_order_12 : decode cX11_order 12 = .ok (.iconst 0, 1) := by decide +kernel
theorem dX11_order_13 : decode cX11_order 13 = .ok (.istore 4, 2) := by decide +kernel
theorem dX11_order_15 : decode cX11_order 15 = .ok (.iload 4, 2) := by decide +kernel
theorem dX11_order_17 : decode cX11_order 17 = .ok (.iload_n 3, 1) := by decide +kernel
theorem dX11_order_18 : decode cX11_order 18 = .ok (.if_icmp .ge 53, 3) := by decide +kernel
theorem dX11_order_21 : decode cX11_order 21 = .ok (.iload 4, 2) := by decide +kernel
theorem dX11_order_23 : decode cX11_order 23 = .ok (.aload_n 0, 1) := by decide +kernel
theorem dX11_order_24 : decode cX11_order 24 = .ok (.getfield 59, 3) := by decide +kernel
theorem dX11_order_27 : decode cX11_order 27 = .ok (.if_icmp .ge 44, 3) := by decide +kernel
theorem dX11_order_30 : decode cX11_order 30 = .ok (.aload_n 0, 1) := by decide +kernel
theorem dX11_order_31 : decode cX11_order 31 = .ok (.getfield 56, 3) := by decide +kernel
theorem dX11_order_34 : decode cX11_order 34 = .ok (.iload 4, 2) := by decide +kernel
theorem dX11_order_36 : decode cX11_order 36 = .ok (.iaload, 1) := by decide +kernel
theorem dX11_order_37 : decode cX11_order 37 = .ok (.aload_n 0, 1) := by decide +kernel
theorem dX11_order_38 : decode cX11_order 38 = .ok (.iload_n 1, 1) := by decide +kernel
theorem dX11_order_39 : decode cX11_order 39 = .ok (.iload_n 2, 1) := by decide +kernel
theorem dX11_order_40 : decode cX11_order 40 = .ok (.iload 4, 2) := by decide +kernel
theorem dX11_order_42 : decode cX11_order 42 = .ok (.invokevirtual 111, 3) := by decide +kernel
theorem dX11_order_45 : decode cX11_order 45 = .ok (.if_icmp .eq 20, 3) := by decide +kernel
theorem dX11_order_48 : decode cX11_order 48 = .ok (.aload_n 0, 1) := by decide +kernel
theorem dX11_order_49 : decode cX11_order 49 = .ok (.getfield 56, 3) := by decide +kernel
theorem dX11_order_52 : decode cX11_order 52 = .ok (.iload 4, 2) := by decide +kernel
theorem dX11_order_54 : decode cX11_order 54 = .ok (.iaload, 1) := by decide +kernel
theorem dX11_order_55 : decode cX11_order 55 = .ok (.aload_n 0, 1) := by decide +kernel
theorem dX11_order_56 : decode cX11_order 56 = .ok (.iload_n 1, 1) := by decide +kernel
theorem dX11_order_57 : decode cX11_order 57 = .ok (.iload_n 2, 1) := by decide +kernel
theorem dX11_order_58 : decode cX11_order 58 = .ok (.iload 4, 2) := by decide +kernel
theorem dX11_order_60 : decode cX11_order 60 = .ok (.invokevirtual 111, 3) := by decide +kernel
theorem dX11_order_63 : decode cX11_order 63 = .ok (.isub, 1) := by decide +kernel
theorem dX11_order_64 : decode cX11_order 64 = .ok (.ireturn, 1) := by decide +kernel
theorem dX11_order_65 : decode cX11_order 65 = .ok (.iinc 4 1, 3) := by decide +kernel
theorem dX11_order_68 : decode cX11_order 68 = .ok (.goto (-53), 3) := by decide +kernel
theorem dX11_order_71 : decode cX11_order 71 = .ok (.aload_n 0, 1) := by decide +kernel
theorem dX11_order_72 : decode cX11_order 72 = .ok (.getfield 59, 3) := by decide +kernel
theorem dX11_order_75 : decode cX11_order 75 = .ok (.iload_n 3, 1) := by decide +kernel
theorem dX11_order_76 : decode cX11_order 76 = .ok (.isub, 1) := by decide +kernel
theorem dX11_order_77 : decode cX11_order 77 = .ok (.ireturn, 1) := by decide +kernel
theorem dX11_ahead_0 : decode cX11_ahead 0 = .ok (.iconst 0, 1) := by decide +kernel
theorem dX11_ahead_1 : decode cX11_ahead 1 = .ok (.istore_n 2, 1) := by decide +kernel
theorem dX11_ahead_2 : decode cX11_ahead 2 = .ok (.iload_n 2, 1) := by decide +kernel
theorem dX11_ahead_3 : decode cX11_ahead 3 = .ok (.aload_n 0, 1) := by decide +kernel
theorem dX11_ahead_4 : decode cX11_ahead 4 = .ok (.getfield 23, 3) := by decide +kernel
theorem dX11_ahead_7 : decode cX11_ahead 7 = .ok (.iload_n 1, 1) := by decide +kernel
theorem dX11_ahead_8 : decode cX11_ahead 8 = .ok (.iaload, 1) := by decide +kernel
theorem dX11_ahead_9 : decode cX11_ahead 9 = .ok (.if_icmp .ge 18, 3) := by decide +kernel
theorem dX11_ahead_12 : decode cX11_ahead 12 = .ok (.aload_n 0, 1) := by decide +kernel
theorem dX11_ahead_13 : decode cX11_ahead 13 = .ok (.iload_n 1, 1) := by decide +kernel
theorem dX11_ahead_14 : decode cX11_ahead 14 = .ok (.iload_n 2, 1) := by decide +kernel
theorem dX11_ahead_15 : decode cX11_ahead 15 = .ok (.invokevirtual 115, 3) := by decide +kernel
theorem dX11_ahead_18 : decode cX11_ahead 18 = .ok (.ifCond .le 9, 3) := by decide +kernel
theorem dX11_ahead_21 : decode cX11_ahead 21 = .ok (.iinc 2 1, 3) := by decide +kernel
theorem dX11_ahead_24 : decode cX11_ahead 24 = .ok (.goto (-22), 3) := by decide +kernel
theorem dX11_ahead_27 : decode cX11_ahead 27 = .ok (.iload_n 2, 1) := by decide +kernel
theorem dX11_ahead_28 : decode cX11_ahead 28 = .ok (.ireturn, 1) := by decide +kernel
theorem dX11_isAt_0 : decode cX11_isAt 0 = .ok (.iload_n 2, 1) := by decide +kernel
theorem dX11_isAt_1 : decode cX11_isAt 1 = .ok (.aload_n 0, 1) := by decide +kernel
theorem dX11_isAt_2 : decode cX11_isAt 2 = .ok (.getfield 23, 3) := by decide +kernel
theorem dX11_isAt_5 : decode cX11_isAt 5 = .ok (.iload_n 1, 1) := by decide +kernel
theorem dX11_isAt_6 : decode cX11_isAt 6 = .ok (.iaload, 1) := by decide +kernel
theorem dX11_isAt_7 : decode cX11_isAt 7 = .ok (.if_icmp .ge 16, 3) := by decide +kernel
theorem dX11_isAt_10 : decode cX11_isAt 10 = .ok (.aload_n 0, 1) := by decide +kernel
theorem dX11_isAt_11 : decode cX11_isAt 11 = .ok (.iload_n 1, 1) := by decide +kernel
theorem dX11_isAt_12 : decode cX11_isAt 12 = .ok (.iload_n 2, 1) := by decide +kernel
theorem dX11_isAt_13 : decode cX11_isAt 13 = .ok (.invokevirtual 115, 3) := by decide +kernel
theorem dX11_isAt_16 : decode cX11_isAt 16 = .ok (.ifCond .ne 7, 3) := by decide +kernel
theorem dX11_isAt_19 : decode cX11_isAt 19 = .ok (.iconst 1, 1) := by decide +kernel
theorem dX11_isAt_20 : decode cX11_isAt 20 = .ok (.goto 4, 3) := by decide +kernel
theorem dX11_isAt_23 : decode cX11_isAt 23 = .ok (.iconst 0, 1) := by decide +kernel
theorem dX11_isAt_24 : decode cX11_isAt 24 = .ok (.ireturn, 1) := by decide +kernel
theorem dX11_alike_0 : decode cX11_alike 0 = .ok (.iconst 0, 1) := by decide +kernel
theorem dX11_alike_1 : decode cX11_alike 1 = .ok (.istore_n 3, 1) := by decide +kernel
theorem dX11_alike_2 : decode cX11_alike 2 = .ok (.iload_n 3, 1) := by decide +kernel
theorem dX11_alike_3 : decode cX11_alike 3 = .ok (.aload_n 0, 1) := by decide +kernel
theorem dX11_alike_4 : decode cX11_alike 4 = .ok (.getfield 59, 3) := by decide +kernel
theorem dX11_alike_7 : decode cX11_alike 7 = .ok (.if_icmp .ge 40, 3) := by decide +kernel
theorem dX11_alike_10 : decode cX11_alike 10 = .ok (.iload_n 3, 1) := by decide +kernel
theorem dX11_alike_11 : decode cX11_alike 11 = .ok (.aload_n 0, 1) := by decide +kernel
theorem dX11_alike_12 : decode cX11_alike 12 = .ok (.getfield 46, 3) := by decide +kernel
theorem dX11_alike_15 : decode cX11_alike 15 = .ok (.bipush 100, 2) := by decide +kernel
theorem dX11_alike_17 : decode cX11_alike 17 = .ok (.iload_n 1, 1) := by decide +kernel
theorem dX11_alike_18 : decode cX11_alike 18 = .ok (.imul, 1) := by decide +kernel
theorem dX11_alike_19 : decode cX11_alike 19 = .ok (.iload_n 2, 1) := by decide +kernel
theorem dX11_alike_20 : decode cX11_alike 20 = .ok (.iadd, 1) := by decide +kernel
theorem dX11_alike_21 : decode cX11_alike 21 = .ok (.iaload, 1) := by decide +kernel
theorem dX11_alike_22 : decode cX11_alike 22 = .ok (.if_icmp .ge 25, 3) := by decide +kernel
theorem dX11_alike_25 : decode cX11_alike 25 = .ok (.aload_n 0, 1) := by decide +kernel
theorem dX11_alike_26 : decode cX11_alike 26 = .ok (.getfield 56, 3) := by decide +kernel
theorem dX11_alike_29 : decode cX11_alike 29 = .ok (.iload_n 3, 1) := by decide +kernel
theorem dX11_alike_30 : decode cX11_alike 30 = .ok (.iaload, 1) := by decide +kernel
theorem dX11_alike_31 : decode cX11_alike 31 = .ok (.aload_n 0, 1) := by decide +kernel
theorem dX11_alike_32 : decode cX11_alike 32 = .ok (.iload_n 1, 1) := by decide +kernel
theorem dX11_alike_33 : decode cX11_alike 33 = .ok (.iload_n 2, 1) := by decide +kernel
theorem dX11_alike_34 : decode cX11_alike 34 = .ok (.iload_n 3, 1) := by decide +kernel
theorem dX11_alike_35 : decode cX11_alike 35 = .ok (.invokevirtual 111, 3) := by decide +kernel
theorem dX11_alike_38 : decode cX11_alike 38 = .ok (.if_icmp .ne 9, 3) := by decide +kernel
theorem dX11_alike_41 : decode cX11_alike 41 = .ok (.iinc 3 1, 3) := by decide +kernel
theorem dX11_alike_44 : decode cX11_alike 44 = .ok (.goto (-42), 3) := by decide +kernel
theorem dX11_alike_47 : decode cX11_alike 47 = .ok (.iload_n 3, 1) := by decide +kernel
theorem dX11_alike_48 : decode cX11_alike 48 = .ok (.ireturn, 1) := by decide +kernel
theorem dX11_copy_0 : decode cX11_copy 0 = .ok (.aload_n 0, 1) := by decide +kernel
theorem dX11_copy_1 : decode cX11_copy 1 = .ok (.getfield 46, 3) := by decide +kernel
theorem dX11_copy_4 : decode cX11_copy 4 = .ok (.bipush 100, 2) := by decide +kernel
theorem dX11_copy_6 : decode cX11_copy 6 = .ok (.iload_n 3, 1) := by decide +kernel
theorem dX11_copy_7 : decode cX11_copy 7 = .ok (.imul, 1) := by decide +kernel
theorem dX11_copy_8 : decode cX11_copy 8 = .ok (.iload 4, 2) := by decide +kernel
theorem dX11_copy_10 : decode cX11_copy 10 = .ok (.iadd, 1) := by decide +kernel
theorem dX11_copy_11 : decode cX11_copy 11 = .ok (.aload_n 0, 1) := by decide +kernel
theorem dX11_copy_12 : decode cX11_copy 12 = .ok (.getfield 46, 3) := by decide +kernel
theorem dX11_copy_15 : decode cX11_copy 15 = .ok (.bipush 100, 2) := by decide +kernel
theorem dX11_copy_17 : decode cX11_copy 17 = .ok (.iload_n 1, 1) := by decide +kernel
theorem dX11_copy_18 : decode cX11_copy 18 = .ok (.imul, 1) := by decide +kernel
theorem dX11_copy_19 : decode cX11_copy 19 = .ok (.iload_n 2, 1) := by decide +kernel
theorem dX11_copy_20 : decode cX11_copy 20 = .ok (.iadd, 1) := by decide +kernel
theorem dX11_copy_21 : decode cX11_copy 21 = .ok (.iaload, 1) := by decide +kernel
theorem dX11_copy_22 : decode cX11_copy 22 = .ok (.iastore, 1) := by decide +kernel
theorem dX11_copy_23 : decode cX11_copy 23 = .ok (.iconst 0, 1) := by decide +kernel
theorem dX11_copy_24 : decode cX11_copy 24 = .ok (.istore 5, 2) := by decide +kernel
theorem dX11_copy_26 : decode cX11_copy 26 = .ok (.iload 5, 2) := by decide +kernel
theorem dX11_copy_28 : decode cX11_copy 28 = .ok (.bipush 24, 2) := by decide +kernel
theorem dX11_copy_30 : decode cX11_copy 30 = .ok (.if_icmp .ge 44, 3) := by decide +kernel
theorem dX11_copy_33 : decode cX11_copy 33 = .ok (.aload_n 0, 1) := by decide +kernel
theorem dX11_copy_34 : decode cX11_copy 34 = .ok (.getfield 49, 3) := by decide +kernel
theorem dX11_copy_37 : decode cX11_copy 37 = .ok (.bipush 24, 2) := by decide +kernel
theorem dX11_copy_39 : decode cX11_copy 39 = .ok (.bipush 100, 2) := by decide +kernel
theorem dX11_copy_41 : decode cX11_copy 41 = .ok (.iload_n 3, 1) := by decide +kernel
theorem dX11_copy_42 : decode cX11_copy 42 = .ok (.imul, 1) := by decide +kernel
theorem dX11_copy_43 : decode cX11_copy 43 = .ok (.iload 4, 2) := by decide +kernel
theorem dX11_copy_45 : decode cX11_copy 45 = .ok (.iadd, 1) := by decide +kernel
theorem dX11_copy_46 : decode cX11_copy 46 = .ok (.imul, 1) := by decide +kernel
theorem dX11_copy_47 : decode cX11_copy 47 = .ok (.iload 5, 2) := by decide +kernel
theorem dX11_copy_49 : decode cX11_copy 49 = .ok (.iadd, 1) := by decide +kernel
theorem dX11_copy_50 : decode cX11_copy 50 = .ok (.aload_n 0, 1) := by decide +kernel
theorem dX11_copy_51 : decode cX11_copy 51 = .ok (.getfield 49, 3) := by decide +kernel
theorem dX11_copy_54 : decode cX11_copy 54 = .ok (.bipush 24, 2) := by decide +kernel
theorem dX11_copy_56 : decode cX11_copy 56 = .ok (.bipush 100, 2) := by decide +kernel
theorem dX11_copy_58 : decode cX11_copy 58 = .ok (.iload_n 1, 1) := by decide +kernel
theorem dX11_copy_59 : decode cX11_copy 59 = .ok (.imul, 1) := by decide +kernel
theorem dX11_copy_60 : decode cX11_copy 60 = .ok (.iload_n 2, 1) := by decide +kernel
theorem dX11_copy_61 : decode cX11_copy 61 = .ok (.iadd, 1) := by decide +kernel
theorem dX11_copy_62 : decode cX11_copy 62 = .ok (.imul, 1) := by decide +kernel
theorem dX11_copy_63 : decode cX11_copy 63 = .ok (.iload 5, 2) := by decide +kernel
theorem dX11_copy_65 : decode cX11_copy 65 = .ok (.iadd, 1) := by decide +kernel
theorem dX11_copy_66 : decode cX11_copy 66 = .ok (.iaload, 1) := by decide +kernel
theorem dX11_copy_67 : decode cX11_copy 67 = .ok (.iastore, 1) := by decide +kernel
theorem dX11_copy_68 : decode cX11_copy 68 = .ok (.iinc 5 1, 3) := by decide +kernel
theorem dX11_copy_71 : decode cX11_copy 71 = .ok (.goto (-45), 3) := by decide +kernel
theorem dX11_copy_74 : decode cX11_copy 74 = .ok (.aload_n 0, 1) := by decide +kernel
theorem dX11_copy_75 : decode cX11_copy 75 = .ok (.getfield 52, 3) := by decide +kernel
theorem dX11_copy_78 : decode cX11_copy 78 = .ok (.bipush 100, 2) := by decide +kernel
theorem dX11_copy_80 : decode cX11_copy 80 = .ok (.iload_n 3, 1) := by decide +kernel
theorem dX11_copy_81 : decode cX11_copy 81 = .ok (.imul, 1) := by decide +kernel
theorem dX11_copy_82 : decode cX11_copy 82 = .ok (.iload 4, 2) := by decide +kernel
theorem dX11_copy_84 : decode cX11_copy 84 = .ok (.iadd, 1) := by decide +kernel
theorem dX11_copy_85 : decode cX11_copy 85 = .ok (.aload_n 0, 1) := by decide +kernel
theorem dX11_copy_86 : decode cX11_copy 86 = .ok (.getfield 52, 3) := by decide +kernel
theorem dX11_copy_89 : decode cX11_copy 89 = .ok (.bipush 100, 2) := by decide +kernel
theorem dX11_copy_91 : decode cX11_copy 91 = .ok (.iload_n 1, 1) := by decide +kernel
theorem dX11_copy_92 : decode cX11_copy 92 = .ok (.imul, 1) := by decide +kernel
theorem dX11_copy_93 : decode cX11_copy 93 = .ok (.iload_n 2, 1) := by decide +kernel
theorem dX11_copy_94 : decode cX11_copy 94 = .ok (.iadd, 1) := by decide +kernel
theorem dX11_copy_95 : decode cX11_copy 95 = .ok (.laload, 1) := by decide +kernel
theorem dX11_copy_96 : decode cX11_copy 96 = .ok (.lastore, 1) := by decide +kernel
theorem dX11_copy_97 : decode cX11_copy 97 = .ok (.return_, 1) := by decide +kernel
theorem dX11_insert_0 : decode cX11_insert 0 = .ok (.aload_n 0, 1) := by decide +kernel
theorem dX11_insert_1 : decode cX11_insert 1 = .ok (.getfield 23, 3) := by decide +kernel
theorem dX11_insert_4 : decode cX11_insert 4 = .ok (.iload_n 1, 1) := by decide +kernel
theorem dX11_insert_5 : decode cX11_insert 5 = .ok (.iaload, 1) := by decide +kernel
theorem dX11_insert_6 : decode cX11_insert 6 = .ok (.istore 5, 2) := by decide +kernel
theorem dX11_insert_8 : decode cX11_insert 8 = .ok (.iload 5, 2) := by decide +kernel
theorem dX11_insert_10 : decode cX11_insert 10 = .ok (.iload_n 2, 1) := by decide +kernel
theorem dX11_insert_11 : decode cX11_insert 11 = .ok (.if_icmp .le 21, 3) := by decide +kernel
theorem dX11_insert_14 : decode cX11_insert 14 = .ok (.aload_n 0, 1) := by decide +kernel
theorem dX11_insert_15 : decode cX11_insert 15 = .ok (.iload_n 1, 1) := by decide +kernel
theorem dX11_insert_16 : decode cX11_insert 16 = .ok (.iload 5, 2) := by decide +kernel
theorem dX11_insert_18 : decode cX11_insert 18 = .ok (.iconst 1, 1) := by decide +kernel
theorem dX11_insert_19 : decode cX11_insert 19 = .ok (.isub, 1) := by decide +kernel
theorem dX11_insert_20 : decode cX11_insert 20 = .ok (.iload_n 1, 1) := by decide +kernel
theorem dX11_insert_21 : decode cX11_insert 21 = .ok (.iload 5, 2) := by decide +kernel
theorem dX11_insert_23 : decode cX11_insert 23 = .ok (.invokevirtual 119, 3) := by decide +kernel
theorem dX11_insert_26 : decode cX11_insert 26 = .ok (.iinc 5 (-1), 3) := by decide +kernel
theorem dX11_insert_29 : decode cX11_insert 29 = .ok (.goto (-21), 3) := by decide +kernel
theorem dX11_insert_32 : decode cX11_insert 32 = .ok (.aload_n 0, 1) := by decide +kernel
theorem dX11_insert_33 : decode cX11_insert 33 = .ok (.getfield 46, 3) := by decide +kernel
theorem dX11_insert_36 : decode cX11_insert 36 = .ok (.bipush 100, 2) := by decide +kernel
theorem dX11_insert_38 : decode cX11_insert 38 = .ok (.iload_n 1, 1) := by decide +kernel
theorem dX11_insert_39 : decode cX11_insert 39 = .ok (.imul, 1) := by decide +kernel
theorem dX11_insert_40 : decode cX11_insert 40 = .ok (.iload_n 2, 1) := by decide +kernel
theorem dX11_insert_41 : decode cX11_insert 41 = .ok (.iadd, 1) := by decide +kernel
theorem dX11_insert_42 : decode cX11_insert 42 = .ok (.aload_n 0, 1) := by decide +kernel
theorem dX11_insert_43 : decode cX11_insert 43 = .ok (.getfield 59, 3) := by decide +kernel
theorem dX11_insert_46 : decode cX11_insert 46 = .ok (.iastore, 1) := by decide +kernel
theorem dX11_insert_47 : decode cX11_insert 47 = .ok (.iconst 0, 1) := by decide +kernel
theorem dX11_insert_48 : decode cX11_insert 48 = .ok (.istore 5, 2) := by decide +kernel
theorem dX11_insert_50 : decode cX11_insert 50 = .ok (.iload 5, 2) := by decide +kernel
theorem dX11_insert_52 : decode cX11_insert 52 = .ok (.aload_n 0, 1) := by decide +kernel
theorem dX11_insert_53 : decode cX11_insert 53 = .ok (.getfield 59, 3) := by decide +kernel
theorem dX11_insert_56 : decode cX11_insert 56 = .ok (.if_icmp .ge 33, 3) := by decide +kernel
theorem dX11_insert_59 : decode cX11_insert 59 = .ok (.aload_n 0, 1) := by decide +kernel
theorem dX11_insert_60 : decode cX11_insert 60 = .ok (.getfield 49, 3) := by decide +kernel
theorem dX11_insert_63 : decode cX11_insert 63 = .ok (.bipush 24, 2) := by decide +kernel
theorem dX11_insert_65 : decode cX11_insert 65 = .ok (.bipush 100, 2) := by decide +kernel
theorem dX11_insert_67 : decode cX11_insert 67 = .ok (.iload_n 1, 1) := by decide +kernel
theorem dX11_insert_68 : decode cX11_insert 68 = .ok (.imul, 1) := by decide +kernel
theorem dX11_insert_69 : decode cX11_insert 69 = .ok (.iload_n 2, 1) := by decide +kernel
theorem dX11_insert_70 : decode cX11_insert 70 = .ok (.iadd, 1) := by decide +kernel
theorem dX11_insert_71 : decode cX11_insert 71 = .ok (.imul, 1) := by decide +kernel
theorem dX11_insert_72 : decode cX11_insert 72 = .ok (.iload 5, 2) := by decide +kernel
theorem dX11_insert_74 : decode cX11_insert 74 = .ok (.iadd, 1) := by decide +kernel
theorem dX11_insert_75 : decode cX11_insert 75 = .ok (.aload_n 0, 1) := by decide +kernel
theorem dX11_insert_76 : decode cX11_insert 76 = .ok (.getfield 56, 3) := by decide +kernel
theorem dX11_insert_79 : decode cX11_insert 79 = .ok (.iload 5, 2) := by decide +kernel
theorem dX11_insert_81 : decode cX11_insert 81 = .ok (.iaload, 1) := by decide +kernel
theorem dX11_insert_82 : decode cX11_insert 82 = .ok (.iastore, 1) := by decide +kernel
theorem dX11_insert_83 : decode cX11_insert 83 = .ok (.iinc 5 1, 3) := by decide +kernel
theorem dX11_insert_86 : decode cX11_insert 86 = .ok (.goto (-36), 3) := by decide +kernel
theorem dX11_insert_89 : decode cX11_insert 89 = .ok (.aload_n 0, 1) := by decide +kernel
theorem dX11_insert_90 : decode cX11_insert 90 = .ok (.getfield 52, 3) := by decide +kernel
theorem dX11_insert_93 : decode cX11_insert 93 = .ok (.bipush 100, 2) := by decide +kernel
theorem dX11_insert_95 : decode cX11_insert 95 = .ok (.iload_n 1, 1) := by decide +kernel
theorem dX11_insert_96 : decode cX11_insert 96 = .ok (.imul, 1) := by decide +kernel
theorem dX11_insert_97 : decode cX11_insert 97 = .ok (.iload_n 2, 1) := by decide +kernel
theorem dX11_insert_98 : decode cX11_insert 98 = .ok (.iadd, 1) := by decide +kernel
theorem dX11_insert_99 : decode cX11_insert 99 = .ok (.lload_n 3, 1) := by decide +kernel
theorem dX11_insert_100 : decode cX11_insert 100 = .ok (.lastore, 1) := by decide +kernel
theorem dX11_insert_101 : decode cX11_insert 101 = .ok (.aload_n 0, 1) := by decide +kernel
theorem dX11_insert_102 : decode cX11_insert 102 = .ok (.getfield 23, 3) := by decide +kernel
theorem dX11_insert_105 : decode cX11_insert 105 = .ok (.iload_n 1, 1) := by decide +kernel
theorem dX11_insert_106 : decode cX11_insert 106 = .ok (.dup2, 1) := by decide +kernel
theorem dX11_insert_107 : decode cX11_insert 107 = .ok (.iaload, 1) := by decide +kernel
theorem dX11_insert_108 : decode cX11_insert 108 = .ok (.iconst 1, 1) := by decide +kernel
theorem dX11_insert_109 : decode cX11_insert 109 = .ok (.iadd, 1) := by decide +kernel
theorem dX11_insert_110 : decode cX11_insert 110 = .ok (.iastore, 1) := by decide +kernel
theorem dX11_insert_111 : decode cX11_insert 111 = .ok (.return_, 1) := by decide +kernel
theorem dX11_put_0 : decode cX11_put 0 = .ok (.aload_n 0, 1) := by decide +kernel
theorem dX11_put_1 : decode cX11_put 1 = .ok (.iload_n 1, 1) := by decide +kernel
theorem dX11_put_2 : decode cX11_put 2 = .ok (.invokevirtual 123, 3) := by decide +kernel
theorem dX11_put_5 : decode cX11_put 5 = .ok (.istore 4, 2) := by decide +kernel
theorem dX11_put_7 : decode cX11_put 7 = .ok (.iload 4, 2) := by decide +kernel
theorem dX11_put_9 : decode cX11_put 9 = .ok (.ifCond .ge 6, 3) := by decide +kernel
theorem dX11_put_12 : decode cX11_put 12 = .ok (.iload 4, 2) := by decide +kernel
theorem dX11_put_14 : decode cX11_put 14 = .ok (.ireturn, 1) := by decide +kernel
theorem dX11_put_15 : decode cX11_put 15 = .ok (.aload_n 0, 1) := by decide +kernel
theorem dX11_put_16 : decode cX11_put 16 = .ok (.invokevirtual 126, 3) := by decide +kernel
theorem dX11_put_19 : decode cX11_put 19 = .ok (.ifCond .ne 6, 3) := by decide +kernel
theorem dX11_put_22 : decode cX11_put 22 = .ok (.bipush (-5), 2) := by decide +kernel
theorem dX11_put_24 : decode cX11_put 24 = .ok (.ireturn, 1) := by decide +kernel
theorem dX11_put_25 : decode cX11_put 25 = .ok (.aload_n 0, 1) := by decide +kernel
theorem dX11_put_26 : decode cX11_put 26 = .ok (.iload_n 1, 1) := by decide +kernel
theorem dX11_put_27 : decode cX11_put 27 = .ok (.invokevirtual 108, 3) := by decide +kernel
theorem dX11_put_30 : decode cX11_put 30 = .ok (.istore 5, 2) := by decide +kernel
theorem dX11_put_32 : decode cX11_put 32 = .ok (.aload_n 0, 1) := by decide +kernel
theorem dX11_put_33 : decode cX11_put 33 = .ok (.iload 5, 2) := by decide +kernel
theorem dX11_put_35 : decode cX11_put 35 = .ok (.invokevirtual 130, 3) := by decide +kernel
theorem dX11_put_38 : decode cX11_put 38 = .ok (.istore 6, 2) := by decide +kernel
theorem dX11_put_40 : decode cX11_put 40 = .ok (.aload_n 0, 1) := by decide +kernel
theorem dX11_put_41 : decode cX11_put 41 = .ok (.iload 5, 2) := by decide +kernel
theorem dX11_put_43 : decode cX11_put 43 = .ok (.iload 6, 2) := by decide +kernel
theorem dX11_put_45 : decode cX11_put 45 = .ok (.invokevirtual 133, 3) := by decide +kernel
theorem dX11_put_48 : decode cX11_put 48 = .ok (.ifCond .eq 19, 3) := by decide +kernel
theorem dX11_put_51 : decode cX11_put 51 = .ok (.aload_n 0, 1) := by decide +kernel
theorem dX11_put_52 : decode cX11_put 52 = .ok (.getfield 52, 3) := by decide +kernel
theorem dX11_put_55 : decode cX11_put 55 = .ok (.bipush 100, 2) := by decide +kernel
theorem dX11_put_57 : decode cX11_put 57 = .ok (.iload 5, 2) := by decide +kernel
theorem dX11_put_59 : decode cX11_put 59 = .ok (.imul, 1) := by decide +kernel
theorem dX11_put_60 : decode cX11_put 60 = .ok (.iload 6, 2) := by decide +kernel
theorem dX11_put_62 : decode cX11_put 62 = .ok (.iadd, 1) := by decide +kernel
theorem dX11_put_63 : decode cX11_put 63 = .ok (.lload_n 2, 1) := by decide +kernel
theorem dX11_put_64 : decode cX11_put 64 = .ok (.lastore, 1) := by decide +kernel
theorem dX11_put_65 : decode cX11_put 65 = .ok (.iconst 0, 1) := by decide +kernel
theorem dX11_put_66 : decode cX11_put 66 = .ok (.ireturn, 1) := by decide +kernel
theorem dX11_put_67 : decode cX11_put 67 = .ok (.aload_n 0, 1) := by decide +kernel
theorem dX11_put_68 : decode cX11_put 68 = .ok (.getfield 23, 3) := by decide +kernel
theorem dX11_put_71 : decode cX11_put 71 = .ok (.iload 5, 2) := by decide +kernel
theorem dX11_put_73 : decode cX11_put 73 = .ok (.iaload, 1) := by decide +kernel
theorem dX11_put_74 : decode cX11_put 74 = .ok (.bipush 100, 2) := by decide +kernel
theorem dX11_put_76 : decode cX11_put 76 = .ok (.if_icmp .ne 6, 3) := by decide +kernel
theorem dX11_put_79 : decode cX11_put 79 = .ok (.bipush (-7), 2) := by decide +kernel
theorem dX11_put_81 : decode cX11_put 81 = .ok (.ireturn, 1) := by decide +kernel
theorem dX11_put_82 : decode cX11_put 82 = .ok (.aload_n 0, 1) := by decide +kernel
theorem dX11_put_83 : decode cX11_put 83 = .ok (.iload 5, 2) := by decide +kernel
theorem dX11_put_85 : decode cX11_put 85 = .ok (.iload 6, 2) := by decide +kernel
theorem dX11_put_87 : decode cX11_put 87 = .ok (.lload_n 2, 1) := by decide +kernel
theorem dX11_put_88 : decode cX11_put 88 = .ok (.invokevirtual 137, 3) := by decide +kernel
theorem dX11_put_91 : decode cX11_put 91 = .ok (.iconst 1, 1) := by decide +kernel
theorem dX11_put_92 : decode cX11_put 92 = .ok (.ireturn, 1) := by decide +kernel
theorem dX11_unput_0 : decode cX11_unput 0 = .ok (.aload_n 0, 1) := by decide +kernel
theorem dX11_unput_1 : decode cX11_unput 1 = .ok (.iload_n 1, 1) := by decide +kernel
theorem dX11_unput_2 : decode cX11_unput 2 = .ok (.invokevirtual 123, 3) := by decide +kernel
theorem dX11_unput_5 : decode cX11_unput 5 = .ok (.istore_n 2, 1) := by decide +kernel
theorem dX11_unput_6 : decode cX11_unput 6 = .ok (.iload_n 2, 1) := by decide +kernel
theorem dX11_unput_7 : decode cX11_unput 7 = .ok (.ifCond .ge 5, 3) := by decide +kernel
theorem dX11_unput_10 : decode cX11_unput 10 = .ok (.iload_n 2, 1) := by decide +kernel
theorem dX11_unput_11 : decode cX11_unput 11 = .ok (.ireturn, 1) := by decide +kernel
theorem dX11_unput_12 : decode cX11_unput 12 = .ok (.aload_n 0, 1) := by decide +kernel
theorem dX11_unput_13 : decode cX11_unput 13 = .ok (.invokevirtual 126, 3) := by decide +kernel
theorem dX11_unput_16 : decode cX11_unput 16 = .ok (.ifCond .ne 6, 3) := by decide +kernel
theorem dX11_unput_19 : decode cX11_unput 19 = .ok (.bipush (-5), 2) := by decide +kernel
theorem dX11_unput_21 : decode cX11_unput 21 = .ok (.ireturn, 1) := by decide +kernel
theorem dX11_unput_22 : decode cX11_unput 22 = .ok (.aload_n 0, 1) := by decide +kernel
theorem dX11_unput_23 : decode cX11_unput 23 = .ok (.iload_n 1, 1) := by decide +kernel
theorem dX11_unput_24 : decode cX11_unput 24 = .ok (.invokevirtual 108, 3) := by decide +kernel
theorem dX11_unput_27 : decode cX11_unput 27 = .ok (.istore_n 3, 1) := by decide +kernel
theorem dX11_unput_28 : decode cX11_unput 28 = .ok (.aload_n 0, 1) := by decide +kernel
theorem dX11_unput_29 : decode cX11_unput 29 = .ok (.iload_n 3, 1) := by decide +kernel
theorem dX11_unput_30 : decode cX11_unput 30 = .ok (.invokevirtual 130, 3) := by decide +kernel
theorem dX11_unput_33 : decode cX11_unput 33 = .ok (.istore 4, 2) := by decide +kernel
theorem dX11_unput_35 : decode cX11_unput 35 = .ok (.aload_n 0, 1) := by decide +kernel
theorem dX11_unput_36 : decode cX11_unput 36 = .ok (.iload_n 3, 1) := by decide +kernel
theorem dX11_unput_37 : decode cX11_unput 37 = .ok (.iload 4, 2) := by decide +kernel
theorem dX11_unput_39 : decode cX11_unput 39 = .ok (.invokevirtual 133, 3) := by decide +kernel
theorem dX11_unput_42 : decode cX11_unput 42 = .ok (.ifCond .ne 5, 3) := by decide +kernel
theorem dX11_unput_45 : decode cX11_unput 45 = .ok (.iconst 0, 1) := by decide +kernel
theorem dX11_unput_46 : decode cX11_unput 46 = .ok (.ireturn, 1) := by decide +kernel
theorem dX11_unput_47 : decode cX11_unput 47 = .ok (.aload_n 0, 1) := by decide +kernel
theorem dX11_unput_48 : decode cX11_unput 48 = .ok (.getfield 23, 3) := by decide +kernel
theorem dX11_unput_51 : decode cX11_unput 51 = .ok (.iload_n 3, 1) := by decide +kernel
theorem dX11_unput_52 : decode cX11_unput 52 = .ok (.dup2, 1) := by decide +kernel
theorem dX11_unput_53 : decode cX11_unput 53 = .ok (.iaload, 1) := by decide +kernel
theorem dX11_unput_54 : decode cX11_unput 54 = .ok (.iconst 1, 1) := by decide +kernel
theorem dX11_unput_55 : decode cX11_unput 55 = .ok (.isub, 1) := by decide +kernel
theorem dX11_unput_56 : decode cX11_unput 56 = .ok (.iastore, 1) := by decide +kernel
theorem dX11_unput_57 : decode cX11_unput 57 = .ok (.iload 4, 2) := by decide +kernel
theorem dX11_unput_59 : decode cX11_unput 59 = .ok (.istore 5, 2) := by decide +kernel
theorem dX11_unput_61 : decode cX11_unput 61 = .ok (.iload 5, 2) := by decide +kernel
theorem dX11_unput_63 : decode cX11_unput 63 = .ok (.aload_n 0, 1) := by decide +kernel
theorem dX11_unput_64 : decode cX11_unput 64 = .ok (.getfield 23, 3) := by decide +kernel
theorem dX11_unput_67 : decode cX11_unput 67 = .ok (.iload_n 3, 1) := by decide +kernel
theorem dX11_unput_68 : decode cX11_unput 68 = .ok (.iaload, 1) := by decide +kernel
theorem dX11_unput_69 : decode cX11_unput 69 = .ok (.if_icmp .ge 21, 3) := by decide +kernel
theorem dX11_unput_72 : decode cX11_unput 72 = .ok (.aload_n 0, 1) := by decide +kernel
theorem dX11_unput_73 : decode cX11_unput 73 = .ok (.iload_n 3, 1) := by decide +kernel
theorem dX11_unput_74 : decode cX11_unput 74 = .ok (.iload 5, 2) := by decide +kernel
theorem dX11_unput_76 : decode cX11_unput 76 = .ok (.iconst 1, 1) := by decide +kernel
theorem dX11_unput_77 : decode cX11_unput 77 = .ok (.iadd, 1) := by decide +kernel
theorem dX11_unput_78 : decode cX11_unput 78 = .ok (.iload_n 3, 1) := by decide +kernel
theorem dX11_unput_79 : decode cX11_unput 79 = .ok (.iload 5, 2) := by decide +kernel
theorem dX11_unput_81 : decode cX11_unput 81 = .ok (.invokevirtual 119, 3) := by decide +kernel
theorem dX11_unput_84 : decode cX11_unput 84 = .ok (.iinc 5 1, 3) := by decide +kernel
theorem dX11_unput_87 : decode cX11_unput 87 = .ok (.goto (-26), 3) := by decide +kernel
theorem dX11_unput_90 : decode cX11_unput 90 = .ok (.iconst 1, 1) := by decide +kernel
theorem dX11_unput_91 : decode cX11_unput 91 = .ok (.ireturn, 1) := by decide +kernel
theorem dX11_fits_0 : decode cX11_fits 0 = .ok (.aload_n 0, 1) := by decide +kernel
theorem dX11_fits_1 : decode cX11_fits 1 = .ok (.getfield 23, 3) := by decide +kernel
theorem dX11_fits_4 : decode cX11_fits 4 = .ok (.iload_n 1, 1) := by decide +kernel
theorem dX11_fits_5 : decode cX11_fits 5 = .ok (.iaload, 1) := by decide +kernel
theorem dX11_fits_6 : decode cX11_fits 6 = .ok (.ifCond .le 7, 3) := by decide +kernel
theorem dX11_fits_9 : decode cX11_fits 9 = .ok (.iconst 1, 1) := by decide +kernel
theorem dX11_fits_10 : decode cX11_fits 10 = .ok (.goto 4, 3) := by decide +kernel
theorem dX11_fits_13 : decode cX11_fits 13 = .ok (.iconst 0, 1) := by decide +kernel
theorem dX11_fits_14 : decode cX11_fits 14 = .ok (.istore_n 3, 1) := by decide +kernel
theorem dX11_fits_15 : decode cX11_fits 15 = .ok (.iconst 0, 1) := by decide +kernel
theorem dX11_fits_16 : decode cX11_fits 16 = .ok (.istore 4, 2) := by decide +kernel
theorem dX11_fits_18 : decode cX11_fits 18 = .ok (.iload 4, 2) := by decide +kernel
theorem dX11_fits_20 : decode cX11_fits 20 = .ok (.aload_n 0, 1) := by decide +kernel
theorem dX11_fits_21 : decode cX11_fits 21 = .ok (.getfield 23, 3) := by decide +kernel
theorem dX11_fits_24 : decode cX11_fits 24 = .ok (.iload_n 1, 1) := by decide +kernel
theorem dX11_fits_25 : decode cX11_fits 25 = .ok (.iaload, 1) := by decide +kernel
theorem dX11_fits_26 : decode cX11_fits 26 = .ok (.if_icmp .ge 41, 3) := by decide +kernel
theorem dX11_fits_29 : decode cX11_fits 29 = .ok (.iload_n 2, 1) := by decide +kernel
theorem dX11_fits_30 : decode cX11_fits 30 = .ok (.iconst 5, 1) := by decide +kernel
theorem dX11_fits_31 : decode cX11_fits 31 = .ok (.if_icmp .ne 36, 3) := by decide +kernel
theorem dX11_fits_34 : decode cX11_fits 34 = .ok (.iload_n 3, 1) := by decide +kernel
theorem dX11_fits_35 : decode cX11_fits 35 = .ok (.ifCond .eq 24, 3) := by decide +kernel
theorem dX11_fits_38 : decode cX11_fits 38 = .ok (.aload_n 0, 1) := by decide +kernel
theorem dX11_fits_39 : decode cX11_fits 39 = .ok (.getfield 46, 3) := by decide +kernel
theorem dX11_fits_42 : decode cX11_fits 42 = .ok (.bipush 100, 2) := by decide +kernel
theorem dX11_fits_44 : decode cX11_fits 44 = .ok (.iload_n 1, 1) := by decide +kernel
theorem dX11_fits_45 : decode cX11_fits 45 = .ok (.imul, 1) := by decide +kernel
theorem dX11_fits_46 : decode cX11_fits 46 = .ok (.iload 4, 2) := by decide +kernel
theorem dX11_fits_48 : decode cX11_fits 48 = .ok (.iadd, 1) := by decide +kernel
theorem dX11_fits_49 : decode cX11_fits 49 = .ok (.iaload, 1) := by decide +kernel
theorem dX11_fits_50 : decode cX11_fits 50 = .ok (.bipush 8, 2) := by decide +kernel
theorem dX11_fits_52 : decode cX11_fits 52 = .ok (.if_icmp .ne 7, 3) := by decide +kernel
theorem dX11_fits_55 : decode cX11_fits 55 = .ok (.iconst 1, 1) := by decide +kernel
theorem dX11_fits_56 : decode cX11_fits 56 = .ok (.goto 4, 3) := by decide +kernel
theorem dX11_fits_59 : decode cX11_fits 59 = .ok (.iconst 0, 1) := by decide +kernel
theorem dX11_fits_60 : decode cX11_fits 60 = .ok (.istore_n 3, 1) := by decide +kernel
theorem dX11_fits_61 : decode cX11_fits 61 = .ok (.iinc 4 1, 3) := by decide +kernel
theorem dX11_fits_64 : decode cX11_fits 64 = .ok (.goto (-46), 3) := by decide +kernel
theorem dX11_fits_67 : decode cX11_fits 67 = .ok (.iload_n 3, 1) := by decide +kernel
theorem dX11_fits_68 : decode cX11_fits 68 = .ok (.ireturn, 1) := by decide +kernel
theorem dX11_groupEnd_0 : decode cX11_groupEnd 0 = .ok (.iload_n 2, 1) := by decide +kernel
theorem dX11_groupEnd_1 : decode cX11_groupEnd 1 = .ok (.iconst 1, 1) := by decide +kernel
theorem dX11_groupEnd_2 : decode cX11_groupEnd 2 = .ok (.iadd, 1) := by decide +kernel
theorem dX11_groupEnd_3 : decode cX11_groupEnd 3 = .ok (.istore 5, 2) := by decide +kernel
theorem dX11_groupEnd_5 : decode cX11_groupEnd 5 = .ok (.iload 5, 2) := by decide +kernel
theorem dX11_groupEnd_7 : decode cX11_groupEnd 7 = .ok (.iload_n 3, 1) := by decide +kernel
theorem dX11_groupEnd_8 : decode cX11_groupEnd 8 = .ok (.if_icmp .ge 29, 3) := by decide +kernel
theorem dX11_groupEnd_11 : decode cX11_groupEnd 11 = .ok (.aload_n 0, 1) := by decide +kernel
theorem dX11_groupEnd_12 : decode cX11_groupEnd 12 = .ok (.iload_n 1, 1) := by decide +kernel
theorem dX11_groupEnd_13 : decode cX11_groupEnd 13 = .ok (.iload 5, 2) := by decide +kernel
theorem dX11_groupEnd_15 : decode cX11_groupEnd 15 = .ok (.iload 4, 2) := by decide +kernel
theorem dX11_groupEnd_17 : decode cX11_groupEnd 17 = .ok (.invokevirtual 111, 3) := by decide +kernel
theorem dX11_groupEnd_20 : decode cX11_groupEnd 20 = .ok (.aload_n 0, 1) := by decide +kernel
theorem dX11_groupEnd_21 : decode cX11_groupEnd 21 = .ok (.iload_n 1, 1) := by decide +kernel
theorem dX11_groupEnd_22 : decode cX11_groupEnd 22 = .ok (.iload_n 2, 1) := by decide +kernel
theorem dX11_groupEnd_23 : decode cX11_groupEnd 23 = .ok (.iload 4, 2) := by decide +kernel
theorem dX11_groupEnd_25 : decode cX11_groupEnd 25 = .ok (.invokevirtual 111, 3) := by decide +kernel
theorem dX11_groupEnd_28 : decode cX11_groupEnd 28 = .ok (.if_icmp .ne 9, 3) := by decide +kernel
theorem dX11_groupEnd_31 : decode cX11_groupEnd 31 = .ok (.iinc 5 1, 3) := by decide +kernel
theorem dX11_groupEnd_34 : decode cX11_groupEnd 34 = .ok (.goto (-29), 3) := by decide +kernel
theorem dX11_groupEnd_37 : decode cX11_groupEnd 37 = .ok (.iload 5, 2) := by decide +kernel
theorem dX11_groupEnd_39 : decode cX11_groupEnd 39 = .ok (.ireturn, 1) := by decide +kernel
theorem dX11_addNode_0 : decode cX11_addNode 0 = .ok (.aload_n 0, 1) := by decide +kernel
theorem dX11_addNode_1 : decode cX11_addNode 1 = .ok (.getfield 62, 3) := by decide +kernel
theorem dX11_addNode_4 : decode cX11_addNode 4 = .ok (.aload_n 0, 1) := by decide +kernel
theorem dX11_addNode_5 : decode cX11_addNode 5 = .ok (.getfield 77, 3) := by decide +kernel
theorem dX11_addNode_8 : decode cX11_addNode 8 = .ok (.iload_n 1, 1) := by decide +kernel
theorem dX11_addNode_9 : decode cX11_addNode 9 = .ok (.iastore, 1) := by decide +kernel
theorem dX11_addNode_10 : decode cX11_addNode 10 = .ok (.aload_n 0, 1) := by decide +kernel
theorem dX11_addNode_11 : decode cX11_addNode 11 = .ok (.getfield 65, 3) := by decide +kernel
theorem dX11_addNode_14 : decode cX11_addNode 14 = .ok (.aload_n 0, 1) := by decide +kernel
theorem dX11_addNode_15 : decode cX11_addNode 15 = .ok (.getfield 77, 3) := by decide +kernel
theorem dX11_addNode_18 : decode cX11_addNode 18 = .ok (.iload_n 2, 1) := by decide +kernel
theorem dX11_addNode_19 : decode cX11_addNode 19 = .ok (.iastore, 1) := by decide +kernel
theorem dX11_addNode_20 : decode cX11_addNode 20 = .ok (.aload_n 0, 1) := by decide +kernel
theorem dX11_addNode_21 : decode cX11_addNode 21 = .ok (.getfield 68, 3) := by decide +kernel
theorem dX11_addNode_24 : decode cX11_addNode 24 = .ok (.aload_n 0, 1) := by decide +kernel
theorem dX11_addNode_25 : decode cX11_addNode 25 = .ok (.getfield 77, 3) := by decide +kernel
theorem dX11_addNode_28 : decode cX11_addNode 28 = .ok (.iload_n 3, 1) := by decide +kernel
theorem dX11_addNode_29 : decode cX11_addNode 29 = .ok (.iastore, 1) := by decide +kernel
theorem dX11_addNode_30 : decode cX11_addNode 30 = .ok (.aload_n 0, 1) := by decide +kernel
theorem dX11_addNode_31 : decode cX11_addNode 31 = .ok (.getfield 74, 3) := by decide +kernel
theorem dX11_addNode_34 : decode cX11_addNode 34 = .ok (.aload_n 0, 1) := by decide +kernel
theorem dX11_addNode_35 : decode cX11_addNode 35 = .ok (.getfield 77, 3) := by decide +kernel
theorem dX11_addNode_38 : decode cX11_addNode 38 = .ok (.iload 4, 2) := by decide +kernel
theorem dX11_addNode_40 : decode cX11_addNode 40 = .ok (.iastore, 1) := by decide +kernel
theorem dX11_addNode_41 : decode cX11_addNode 41 = .ok (.aload_n 0, 1) := by decide +kernel
theorem dX11_addNode_42 : decode cX11_addNode 42 = .ok (.dup, 1) := by decide +kernel
theorem dX11_addNode_43 : decode cX11_addNode 43 = .ok (.getfield 77, 3) := by decide +kernel
theorem dX11_addNode_46 : decode cX11_addNode 46 = .ok (.iconst 1, 1) := by decide +kernel
theorem dX11_addNode_47 : decode cX11_addNode 47 = .ok (.iadd, 1) := by decide +kernel
theorem dX11_addNode_48 : decode cX11_addNode 48 = .ok (.putfield 77, 3) := by decide +kernel
theorem dX11_addNode_51 : decode cX11_addNode 51 = .ok (.return_, 1) := by decide +kernel
theorem dX11_tree_0 : decode cX11_tree 0 = .ok (.aload_n 0, 1) := by decide +kernel
theorem dX11_tree_1 : decode cX11_tree 1 = .ok (.iconst 0, 1) := by decide +kernel
theorem dX11_tree_2 : decode cX11_tree 2 = .ok (.putfield 77, 3) := by decide +kernel
theorem dX11_tree_5 : decode cX11_tree 5 = .ok (.aload_n 0, 1) := by decide +kernel
theorem dX11_tree_6 : decode cX11_tree 6 = .ok (.iconst 0, 1) := by decide +kernel
theorem dX11_tree_7 : decode cX11_tree 7 = .ok (.aload_n 0, 1) := by decide +kernel
theorem dX11_tree_8 : decode cX11_tree 8 = .ok (.getfield 23, 3) := by decide +kernel
theorem dX11_tree_11 : decode cX11_tree 11 = .ok (.iload_n 1, 1) := by decide +kernel
theorem dX11_tree_12 : decode cX11_tree 12 = .ok (.iaload, 1) := by decide +kernel
theorem dX11_tree_13 : decode cX11_tree 13 = .ok (.iconst 0, 1) := by decide +kernel
theorem dX11_tree_14 : decode cX11_tree 14 = .ok (.iconst 0, 1) := by decide +kernel
theorem dX11_tree_15 : decode cX11_tree 15 = .ok (.invokevirtual 141, 3) := by decide +kernel
theorem dX11_tree_18 : decode cX11_tree 18 = .ok (.iconst 0, 1) := by decide +kernel
theorem dX11_tree_19 : decode cX11_tree 19 = .ok (.istore_n 3, 1) := by decide +kernel
theorem dX11_tree_20 : decode cX11_tree 20 = .ok (.iconst 0, 1) := by decide +kernel
theorem dX11_tree_21 : decode cX11_tree 21 = .ok (.istore 4, 2) := by decide +kernel
theorem dX11_tree_23 : decode cX11_tree 23 = .ok (.iload 4, 2) := by decide +kernel
theorem dX11_tree_25 : decode cX11_tree 25 = .ok (.aload_n 0, 1) := by decide +kernel
theorem dX11_tree_26 : decode cX11_tree 26 = .ok (.getfield 77, 3) := by decide +kernel
theorem dX11_tree_29 : decode cX11_tree 29 = .ok (.if_icmp .ge 156, 3) := by decide +kernel
theorem dX11_tree_32 : decode cX11_tree 32 = .ok (.aload_n 0, 1) := by decide +kernel
theorem dX11_tree_33 : decode cX11_tree 33 = .ok (.getfield 71, 3) := by decide +kernel
theorem dX11_tree_36 : decode cX11_tree 36 = .ok (.iload 4, 2) := by decide +kernel
theorem dX11_tree_38 : decode cX11_tree 38 = .ok (.iload_n 3, 1) := by decide +kernel
theorem dX11_tree_39 : decode cX11_tree 39 = .ok (.iastore, 1) := by decide +kernel
theorem dX11_tree_40 : decode cX11_tree 40 = .ok (.aload_n 0, 1) := by decide +kernel
theorem dX11_tree_41 : decode cX11_tree 41 = .ok (.getfield 68, 3) := by decide +kernel
theorem dX11_tree_44 : decode cX11_tree 44 = .ok (.iload 4, 2) := by decide +kernel
theorem dX11_tree_46 : decode cX11_tree 46 = .ok (.iaload, 1) := by decide +kernel
theorem dX11_tree_47 : decode cX11_tree 47 = .ok (.istore 5, 2) := by decide +kernel
theorem dX11_tree_49 : decode cX11_tree 49 = .ok (.aload_n 0, 1) := by decide +kernel
theorem dX11_tree_50 : decode cX11_tree 50 = .ok (.getfield 62, 3) := by decide +kernel
theorem dX11_tree_53 : decode cX11_tree 53 = .ok (.iload 4, 2) := by decide +kernel
theorem dX11_tree_55 : decode cX11_tree 55 = .ok (.iaload, 1) := by decide +kernel
theorem dX11_tree_56 : decode cX11_tree 56 = .ok (.istore 6, 2) := by decide +kernel
theorem dX11_tree_58 : decode cX11_tree 58 = .ok (.aload_n 0, 1) := by decide +kernel
theorem dX11_tree_59 : decode cX11_tree 59 = .ok (.getfield 46, 3) := by decide +kernel
theorem dX11_tree_62 : decode cX11_tree 62 = .ok (.bipush 100, 2) := by decide +kernel
theorem dX11_tree_64 : decode cX11_tree 64 = .ok (.iload_n 1, 1) := by decide +kernel
theorem dX11_tree_65 : decode cX11_tree 65 = .ok (.imul, 1) := by decide +kernel
theorem dX11_tree_66 : decode cX11_tree 66 = .ok (.iload 6, 2) := by decide +kernel
theorem dX11_tree_68 : decode cX11_tree 68 = .ok (.iadd, 1) := by decide +kernel
theorem dX11_tree_69 : decode cX11_tree 69 = .ok (.iaload, 1) := by decide +kernel
theorem dX11_tree_70 : decode cX11_tree 70 = .ok (.iload 5, 2) := by decide +kernel
theorem dX11_tree_72 : decode cX11_tree 72 = .ok (.if_icmp .ne 6, 3) := by decide +kernel
theorem dX11_tree_75 : decode cX11_tree 75 = .ok (.iinc 6 1, 3) := by decide +kernel
theorem dX11_tree_78 : decode cX11_tree 78 = .ok (.iload 6, 2) := by decide +kernel
theorem dX11_tree_80 : decode cX11_tree 80 = .ok (.aload_n 0, 1) := by decide +kernel
theorem dX11_tree_81 : decode cX11_tree 81 = .ok (.getfield 65, 3) := by decide +kernel
theorem dX11_tree_84 : decode cX11_tree 84 = .ok (.iload 4, 2) := by decide +kernel
theorem dX11_tree_86 : decode cX11_tree 86 = .ok (.iaload, 1) := by decide +kernel
theorem dX11_tree_87 : decode cX11_tree 87 = .ok (.if_icmp .ge 92, 3) := by decide +kernel
theorem dX11_tree_90 : decode cX11_tree 90 = .ok (.aload_n 0, 1) := by decide +kernel
theorem dX11_tree_91 : decode cX11_tree 91 = .ok (.iload_n 1, 1) := by decide +kernel
theorem dX11_tree_92 : decode cX11_tree 92 = .ok (.iload 6, 2) := by decide +kernel
theorem dX11_tree_94 : decode cX11_tree 94 = .ok (.aload_n 0, 1) := by decide +kernel
theorem dX11_tree_95 : decode cX11_tree 95 = .ok (.getfield 65, 3) := by decide +kernel
theorem dX11_tree_98 : decode cX11_tree 98 = .ok (.iload 4, 2) := by decide +kernel
theorem dX11_tree_100 : decode cX11_tree 100 = .ok (.iaload, 1) := by decide +kernel
theorem dX11_tree_101 : decode cX11_tree 101 = .ok (.iload 5, 2) := by decide +kernel
theorem dX11_tree_103 : decode cX11_tree 103 = .ok (.invokevirtual 144, 3) := by decide +kernel
theorem dX11_tree_106 : decode cX11_tree 106 = .ok (.istore 7, 2) := by decide +kernel
theorem dX11_tree_108 : decode cX11_tree 108 = .ok (.iload 5, 2) := by decide +kernel
theorem dX11_tree_110 : decode cX11_tree 110 = .ok (.iconst 1, 1) := by decide +kernel
theorem dX11_tree_111 : decode cX11_tree 111 = .ok (.iadd, 1) := by decide +kernel
theorem dX11_tree_112 : decode cX11_tree 112 = .ok (.istore 8, 2) := by decide +kernel
theorem dX11_tree_114 : decode cX11_tree 114 = .ok (.iload_n 2, 1) := by decide +kernel
theorem dX11_tree_115 : decode cX11_tree 115 = .ok (.ifCond .eq 42, 3) := by decide +kernel
theorem dX11_tree_118 : decode cX11_tree 118 = .ok (.iload 8, 2) := by decide +kernel
theorem dX11_tree_120 : decode cX11_tree 120 = .ok (.aload_n 0, 1) := by decide +kernel
theorem dX11_tree_121 : decode cX11_tree 121 = .ok (.getfield 46, 3) := by decide +kernel
theorem dX11_tree_124 : decode cX11_tree 124 = .ok (.bipush 100, 2) := by decide +kernel
theorem dX11_tree_126 : decode cX11_tree 126 = .ok (.iload_n 1, 1) := by decide +kernel
theorem dX11_tree_127 : decode cX11_tree 127 = .ok (.imul, 1) := by decide +kernel
theorem dX11_tree_128 : decode cX11_tree 128 = .ok (.iload 6, 2) := by decide +kernel
theorem dX11_tree_130 : decode cX11_tree 130 = .ok (.iadd, 1) := by decide +kernel
theorem dX11_tree_131 : decode cX11_tree 131 = .ok (.iaload, 1) := by decide +kernel
theorem dX11_tree_132 : decode cX11_tree 132 = .ok (.if_icmp .ge 25, 3) := by decide +kernel
theorem dX11_tree_135 : decode cX11_tree 135 = .ok (.aload_n 0, 1) := by decide +kernel
theorem dX11_tree_136 : decode cX11_tree 136 = .ok (.iload_n 1, 1) := by decide +kernel
theorem dX11_tree_137 : decode cX11_tree 137 = .ok (.iload 6, 2) := by decide +kernel
theorem dX11_tree_139 : decode cX11_tree 139 = .ok (.iload 7, 2) := by decide +kernel
theorem dX11_tree_141 : decode cX11_tree 141 = .ok (.iload 8, 2) := by decide +kernel
theorem dX11_tree_143 : decode cX11_tree 143 = .ok (.invokevirtual 144, 3) := by decide +kernel
theorem dX11_tree_146 : decode cX11_tree 146 = .ok (.iload 7, 2) := by decide +kernel
theorem dX11_tree_148 : decode cX11_tree 148 = .ok (.if_icmp .ne 9, 3) := by decide +kernel
theorem dX11_tree_151 : decode cX11_tree 151 = .ok (.iinc 8 1, 3) := by decide +kernel
theorem dX11_tree_154 : decode cX11_tree 154 = .ok (.goto (-40), 3) := by decide +kernel
theorem dX11_tree_157 : decode cX11_tree 157 = .ok (.aload_n 0, 1) := by decide +kernel
theorem dX11_tree_158 : decode cX11_tree 158 = .ok (.iload 6, 2) := by decide +kernel
theorem dX11_tree_160 : decode cX11_tree 160 = .ok (.iload 7, 2) := by decide +kernel
theorem dX11_tree_162 : decode cX11_tree 162 = .ok (.iload 8, 2) := by decide +kernel
theorem dX11_tree_164 : decode cX11_tree 164 = .ok (.iload 5, 2) := by decide +kernel
theorem dX11_tree_166 : decode cX11_tree 166 = .ok (.invokevirtual 141, 3) := by decide +kernel
theorem dX11_tree_169 : decode cX11_tree 169 = .ok (.iinc 3 1, 3) := by decide +kernel
theorem dX11_tree_172 : decode cX11_tree 172 = .ok (.iload 7, 2) := by decide +kernel
theorem dX11_tree_174 : decode cX11_tree 174 = .ok (.istore 6, 2) := by decide +kernel
theorem dX11_tree_176 : decode cX11_tree 176 = .ok (.goto (-98), 3) := by decide +kernel
theorem dX11_tree_179 : decode cX11_tree 179 = .ok (.iinc 4 1, 3) := by decide +kernel
theorem dX11_tree_182 : decode cX11_tree 182 = .ok (.goto (-159), 3) := by decide +kernel
theorem dX11_tree_185 : decode cX11_tree 185 = .ok (.aload_n 0, 1) := by decide +kernel
theorem dX11_tree_186 : decode cX11_tree 186 = .ok (.getfield 71, 3) := by decide +kernel
theorem dX11_tree_189 : decode cX11_tree 189 = .ok (.aload_n 0, 1) := by decide +kernel
theorem dX11_tree_190 : decode cX11_tree 190 = .ok (.getfield 77, 3) := by decide +kernel
theorem dX11_tree_193 : decode cX11_tree 193 = .ok (.iload_n 3, 1) := by decide +kernel
theorem dX11_tree_194 : decode cX11_tree 194 = .ok (.iastore, 1) := by decide +kernel
theorem dX11_tree_195 : decode cX11_tree 195 = .ok (.return_, 1) := by decide +kernel
theorem dX11_isEnd_0 : decode cX11_isEnd 0 = .ok (.aload_n 0, 1) := by decide +kernel
theorem dX11_isEnd_1 : decode cX11_isEnd 1 = .ok (.getfield 46, 3) := by decide +kernel
theorem dX11_isEnd_4 : decode cX11_isEnd 4 = .ok (.bipush 100, 2) := by decide +kernel
theorem dX11_isEnd_6 : decode cX11_isEnd 6 = .ok (.iload_n 1, 1) := by decide +kernel
theorem dX11_isEnd_7 : decode cX11_isEnd 7 = .ok (.imul, 1) := by decide +kernel
theorem dX11_isEnd_8 : decode cX11_isEnd 8 = .ok (.aload_n 0, 1) := by decide +kernel
theorem dX11_isEnd_9 : decode cX11_isEnd 9 = .ok (.getfield 62, 3) := by decide +kernel
theorem dX11_isEnd_12 : decode cX11_isEnd 12 = .ok (.iload_n 2, 1) := by decide +kernel
theorem dX11_isEnd_13 : decode cX11_isEnd 13 = .ok (.iaload, 1) := by decide +kernel
theorem dX11_isEnd_14 : decode cX11_isEnd 14 = .ok (.iadd, 1) := by decide +kernel
theorem dX11_isEnd_15 : decode cX11_isEnd 15 = .ok (.iaload, 1) := by decide +kernel
theorem dX11_isEnd_16 : decode cX11_isEnd 16 = .ok (.aload_n 0, 1) := by decide +kernel
theorem dX11_isEnd_17 : decode cX11_isEnd 17 = .ok (.getfield 68, 3) := by decide +kernel
theorem dX11_isEnd_20 : decode cX11_isEnd 20 = .ok (.iload_n 2, 1) := by decide +kernel
theorem dX11_isEnd_21 : decode cX11_isEnd 21 = .ok (.iaload, 1) := by decide +kernel
theorem dX11_isEnd_22 : decode cX11_isEnd 22 = .ok (.if_icmp .ne 7, 3) := by decide +kernel
theorem dX11_isEnd_25 : decode cX11_isEnd 25 = .ok (.iconst 1, 1) := by decide +kernel
theorem dX11_isEnd_26 : decode cX11_isEnd 26 = .ok (.goto 4, 3) := by decide +kernel
theorem dX11_isEnd_29 : decode cX11_isEnd 29 = .ok (.iconst 0, 1) := by decide +kernel
theorem dX11_isEnd_30 : decode cX11_isEnd 30 = .ok (.ireturn, 1) := by decide +kernel
theorem dX11_isAgain_0 : decode cX11_isAgain 0 = .ok (.iconst 1, 1) := by decide +kernel
theorem dX11_isAgain_1 : decode cX11_isAgain 1 = .ok (.istore_n 3, 1) := by decide +kernel
theorem dX11_isAgain_2 : decode cX11_isAgain 2 = .ok (.iload_n 3, 1) := by decide +kernel
theorem dX11_isAgain_3 : decode cX11_isAgain 3 = .ok (.iload_n 2, 1) := by decide +kernel
theorem dX11_isAgain_4 : decode cX11_isAgain 4 = .ok (.if_icmp .ge 134, 3) := by decide +kernel
theorem dX11_isAgain_7 : decode cX11_isAgain 7 = .ok (.aload_n 0, 1) := by decide +kernel
theorem dX11_isAgain_8 : decode cX11_isAgain 8 = .ok (.getfield 68, 3) := by decide +kernel
theorem dX11_isAgain_11 : decode cX11_isAgain 11 = .ok (.iload_n 3, 1) := by decide +kernel
theorem dX11_isAgain_12 : decode cX11_isAgain 12 = .ok (.iaload, 1) := by decide +kernel
theorem dX11_isAgain_13 : decode cX11_isAgain 13 = .ok (.aload_n 0, 1) := by decide +kernel
theorem dX11_isAgain_14 : decode cX11_isAgain 14 = .ok (.getfield 74, 3) := by decide +kernel
theorem dX11_isAgain_17 : decode cX11_isAgain 17 = .ok (.iload_n 3, 1) := by decide +kernel
theorem dX11_isAgain_18 : decode cX11_isAgain 18 = .ok (.iaload, 1) := by decide +kernel
theorem dX11_isAgain_19 : decode cX11_isAgain 19 = .ok (.isub, 1) := by decide +kernel
theorem dX11_isAgain_20 : decode cX11_isAgain 20 = .ok (.aload_n 0, 1) := by decide +kernel
theorem dX11_isAgain_21 : decode cX11_isAgain 21 = .ok (.getfield 68, 3) := by decide +kernel
theorem dX11_isAgain_24 : decode cX11_isAgain 24 = .ok (.iload_n 2, 1) := by decide +kernel
theorem dX11_isAgain_25 : decode cX11_isAgain 25 = .ok (.iaload, 1) := by decide +kernel
theorem dX11_isAgain_26 : decode cX11_isAgain 26 = .ok (.aload_n 0, 1) := by decide +kernel
theorem dX11_isAgain_27 : decode cX11_isAgain 27 = .ok (.getfield 74, 3) := by decide +kernel
theorem dX11_isAgain_30 : decode cX11_isAgain 30 = .ok (.iload_n 2, 1) := by decide +kernel
theorem dX11_isAgain_31 : decode cX11_isAgain 31 = .ok (.iaload, 1) := by decide +kernel
theorem dX11_isAgain_32 : decode cX11_isAgain 32 = .ok (.isub, 1) := by decide +kernel
theorem dX11_isAgain_33 : decode cX11_isAgain 33 = .ok (.if_icmp .ne 7, 3) := by decide +kernel
theorem dX11_isAgain_36 : decode cX11_isAgain 36 = .ok (.iconst 1, 1) := by decide +kernel
theorem dX11_isAgain_37 : decode cX11_isAgain 37 = .ok (.goto 4, 3) := by decide +kernel
theorem dX11_isAgain_40 : decode cX11_isAgain 40 = .ok (.iconst 0, 1) := by decide +kernel
theorem dX11_isAgain_41 : decode cX11_isAgain 41 = .ok (.istore 4, 2) := by decide +kernel
theorem dX11_isAgain_43 : decode cX11_isAgain 43 = .ok (.iconst 0, 1) := by decide +kernel
theorem dX11_isAgain_44 : decode cX11_isAgain 44 = .ok (.istore 5, 2) := by decide +kernel
theorem dX11_isAgain_46 : decode cX11_isAgain 46 = .ok (.iload 5, 2) := by decide +kernel
theorem dX11_isAgain_48 : decode cX11_isAgain 48 = .ok (.aload_n 0, 1) := by decide +kernel
theorem dX11_isAgain_49 : decode cX11_isAgain 49 = .ok (.getfield 68, 3) := by decide +kernel
theorem dX11_isAgain_52 : decode cX11_isAgain 52 = .ok (.iload_n 2, 1) := by decide +kernel
theorem dX11_isAgain_53 : decode cX11_isAgain 53 = .ok (.iaload, 1) := by decide +kernel
theorem dX11_isAgain_54 : decode cX11_isAgain 54 = .ok (.aload_n 0, 1) := by decide +kernel
theorem dX11_isAgain_55 : decode cX11_isAgain 55 = .ok (.getfield 74, 3) := by decide +kernel
theorem dX11_isAgain_58 : decode cX11_isAgain 58 = .ok (.iload_n 2, 1) := by decide +kernel
theorem dX11_isAgain_59 : decode cX11_isAgain 59 = .ok (.iaload, 1) := by decide +kernel
theorem dX11_isAgain_60 : decode cX11_isAgain 60 = .ok (.isub, 1) := by decide +kernel
theorem dX11_isAgain_61 : decode cX11_isAgain 61 = .ok (.if_icmp .ge 64, 3) := by decide +kernel
theorem dX11_isAgain_64 : decode cX11_isAgain 64 = .ok (.iload 4, 2) := by decide +kernel
theorem dX11_isAgain_66 : decode cX11_isAgain 66 = .ok (.ifCond .eq 59, 3) := by decide +kernel
theorem dX11_isAgain_69 : decode cX11_isAgain 69 = .ok (.aload_n 0, 1) := by decide +kernel
theorem dX11_isAgain_70 : decode cX11_isAgain 70 = .ok (.iload_n 1, 1) := by decide +kernel
theorem dX11_isAgain_71 : decode cX11_isAgain 71 = .ok (.aload_n 0, 1) := by decide +kernel
theorem dX11_isAgain_72 : decode cX11_isAgain 72 = .ok (.getfield 62, 3) := by decide +kernel
theorem dX11_isAgain_75 : decode cX11_isAgain 75 = .ok (.iload_n 3, 1) := by decide +kernel
theorem dX11_isAgain_76 : decode cX11_isAgain 76 = .ok (.iaload, 1) := by decide +kernel
theorem dX11_isAgain_77 : decode cX11_isAgain 77 = .ok (.aload_n 0, 1) := by decide +kernel
theorem dX11_isAgain_78 : decode cX11_isAgain 78 = .ok (.getfield 74, 3) := by decide +kernel
theorem dX11_isAgain_81 : decode cX11_isAgain 81 = .ok (.iload_n 3, 1) := by decide +kernel
theorem dX11_isAgain_82 : decode cX11_isAgain 82 = .ok (.iaload, 1) := by decide +kernel
theorem dX11_isAgain_83 : decode cX11_isAgain 83 = .ok (.iload 5, 2) := by decide +kernel
theorem dX11_isAgain_85 : decode cX11_isAgain 85 = .ok (.iadd, 1) := by decide +kernel
theorem dX11_isAgain_86 : decode cX11_isAgain 86 = .ok (.invokevirtual 111, 3) := by decide +kernel
theorem dX11_isAgain_89 : decode cX11_isAgain 89 = .ok (.aload_n 0, 1) := by decide +kernel
theorem dX11_isAgain_90 : decode cX11_isAgain 90 = .ok (.iload_n 1, 1) := by decide +kernel
theorem dX11_isAgain_91 : decode cX11_isAgain 91 = .ok (.aload_n 0, 1) := by decide +kernel
theorem dX11_isAgain_92 : decode cX11_isAgain 92 = .ok (.getfield 62, 3) := by decide +kernel
theorem dX11_isAgain_95 : decode cX11_isAgain 95 = .ok (.iload_n 2, 1) := by decide +kernel
theorem dX11_isAgain_96 : decode cX11_isAgain 96 = .ok (.iaload, 1) := by decide +kernel
theorem dX11_isAgain_97 : decode cX11_isAgain 97 = .ok (.aload_n 0, 1) := by decide +kernel
theorem dX11_isAgain_98 : decode cX11_isAgain 98 = .ok (.getfield 74, 3) := by decide +kernel
theorem dX11_isAgain_101 : decode cX11_isAgain 101 = .ok (.iload_n 2, 1) := by decide +kernel
theorem dX11_isAgain_102 : decode cX11_isAgain 102 = .ok (.iaload, 1) := by decide +kernel
theorem dX11_isAgain_103 : decode cX11_isAgain 103 = .ok (.iload 5, 2) := by decide +kernel
theorem dX11_isAgain_105 : decode cX11_isAgain 105 = .ok (.iadd, 1) := by decide +kernel
theorem dX11_isAgain_106 : decode cX11_isAgain 106 = .ok (.invokevirtual 111, 3) := by decide +kernel
theorem dX11_isAgain_109 : decode cX11_isAgain 109 = .ok (.if_icmp .ne 7, 3) := by decide +kernel
theorem dX11_isAgain_112 : decode cX11_isAgain 112 = .ok (.iconst 1, 1) := by decide +kernel
theorem dX11_isAgain_113 : decode cX11_isAgain 113 = .ok (.goto 4, 3) := by decide +kernel
theorem dX11_isAgain_116 : decode cX11_isAgain 116 = .ok (.iconst 0, 1) := by decide +kernel
theorem dX11_isAgain_117 : decode cX11_isAgain 117 = .ok (.istore 4, 2) := by decide +kernel
theorem dX11_isAgain_119 : decode cX11_isAgain 119 = .ok (.iinc 5 1, 3) := by decide +kernel
theorem dX11_isAgain_122 : decode cX11_isAgain 122 = .ok (.goto (-76), 3) := by decide +kernel
theorem dX11_isAgain_125 : decode cX11_isAgain 125 = .ok (.iload 4, 2) := by decide +kernel
theorem dX11_isAgain_127 : decode cX11_isAgain 127 = .ok (.ifCond .eq 5, 3) := by decide +kernel
theorem dX11_isAgain_130 : decode cX11_isAgain 130 = .ok (.iconst 1, 1) := by decide +kernel
theorem dX11_isAgain_131 : decode cX11_isAgain 131 = .ok (.ireturn, 1) := by decide +kernel
theorem dX11_isAgain_132 : decode cX11_isAgain 132 = .ok (.iinc 3 1, 3) := by decide +kernel
theorem dX11_isAgain_135 : decode cX11_isAgain 135 = .ok (.goto (-133), 3) := by decide +kernel
theorem dX11_isAgain_138 : decode cX11_isAgain 138 = .ok (.iconst 0, 1) := by decide +kernel
theorem dX11_isAgain_139 : decode cX11_isAgain 139 = .ok (.ireturn, 1) := by decide +kernel
theorem dX11_sealed_0 : decode cX11_sealed 0 = .ok (.aload_n 0, 1) := by decide +kernel
theorem dX11_sealed_1 : decode cX11_sealed 1 = .ok (.getfield 20, 3) := by decide +kernel
theorem dX11_sealed_4 : decode cX11_sealed 4 = .ok (.iload_n 1, 1) := by decide +kernel
theorem dX11_sealed_5 : decode cX11_sealed 5 = .ok (.iload_n 2, 1) := by decide +kernel
theorem dX11_sealed_6 : decode cX11_sealed 6 = .ok (.iastore, 1) := by decide +kernel
theorem dX11_sealed_7 : decode cX11_sealed 7 = .ok (.iload_n 2, 1) := by decide +kernel
theorem dX11_sealed_8 : decode cX11_sealed 8 = .ok (.iconst 1, 1) := by decide +kernel
theorem dX11_sealed_9 : decode cX11_sealed 9 = .ok (.if_icmp .ne 44, 3) := by decide +kernel
theorem dX11_sealed_12 : decode cX11_sealed 12 = .ok (.iconst 0, 1) := by decide +kernel
theorem dX11_sealed_13 : decode cX11_sealed 13 = .ok (.istore_n 3, 1) := by decide +kernel
theorem dX11_sealed_14 : decode cX11_sealed 14 = .ok (.iload_n 3, 1) := by decide +kernel
theorem dX11_sealed_15 : decode cX11_sealed 15 = .ok (.aload_n 0, 1) := by decide +kernel
theorem dX11_sealed_16 : decode cX11_sealed 16 = .ok (.getfield 23, 3) := by decide +kernel
theorem dX11_sealed_19 : decode cX11_sealed 19 = .ok (.iload_n 1, 1) := by decide +kernel
theorem dX11_sealed_20 : decode cX11_sealed 20 = .ok (.iaload, 1) := by decide +kernel
theorem dX11_sealed_21 : decode cX11_sealed 21 = .ok (.if_icmp .ge 29, 3) := by decide +kernel
theorem dX11_sealed_24 : decode cX11_sealed 24 = .ok (.aload_n 0, 1) := by decide +kernel
theorem dX11_sealed_25 : decode cX11_sealed 25 = .ok (.getfield 32, 3) := by decide +kernel
theorem dX11_sealed_28 : decode cX11_sealed 28 = .ok (.iload_n 1, 1) := by decide +kernel
theorem dX11_sealed_29 : decode cX11_sealed 29 = .ok (.dup2, 1) := by decide +kernel
theorem dX11_sealed_30 : decode cX11_sealed 30 = .ok (.iaload, 1) := by decide +kernel
theorem dX11_sealed_31 : decode cX11_sealed 31 = .ok (.aload_n 0, 1) := by decide +kernel
theorem dX11_sealed_32 : decode cX11_sealed 32 = .ok (.getfield 46, 3) := by decide +kernel
theorem dX11_sealed_35 : decode cX11_sealed 35 = .ok (.bipush 100, 2) := by decide +kernel
theorem dX11_sealed_37 : decode cX11_sealed 37 = .ok (.iload_n 1, 1) := by decide +kernel
theorem dX11_sealed_38 : decode cX11_sealed 38 = .ok (.imul, 1) := by decide +kernel
theorem dX11_sealed_39 : decode cX11_sealed 39 = .ok (.iload_n 3, 1) := by decide +kernel
theorem dX11_sealed_40 : decode cX11_sealed 40 = .ok (.iadd, 1) := by decide +kernel
theorem dX11_sealed_41 : decode cX11_sealed 41 = .ok (.iaload, 1) := by decide +kernel
theorem dX11_sealed_42 : decode cX11_sealed 42 = .ok (.iadd, 1) := by decide +kernel
theorem dX11_sealed_43 : decode cX11_sealed 43 = .ok (.iastore, 1) := by decide +kernel
theorem dX11_sealed_44 : decode cX11_sealed 44 = .ok (.iinc 3 1, 3) := by decide +kernel
theorem dX11_sealed_47 : decode cX11_sealed 47 = .ok (.goto (-33), 3) := by decide +kernel
theorem dX11_sealed_50 : decode cX11_sealed 50 = .ok (.goto 161, 3) := by decide +kernel
theorem dX11_sealed_53 : decode cX11_sealed 53 = .ok (.iload_n 2, 1) := by decide +kernel
theorem dX11_sealed_54 : decode cX11_sealed 54 = .ok (.iconst 5, 1) := by decide +kernel
theorem dX11_sealed_55 : decode cX11_sealed 55 = .ok (.if_icmp .ne 11, 3) := by decide +kernel
theorem dX11_sealed_58 : decode cX11_sealed 58 = .ok (.aload_n 0, 1) := by decide +kernel
theorem dX11_sealed_59 : decode cX11_sealed 59 = .ok (.iload_n 1, 1) := by decide +kernel
theorem dX11_sealed_60 : decode cX11_sealed 60 = .ok (.invokevirtual 148, 3) := by decide +kernel
theorem dX11_sealed_63 : decode cX11_sealed 63 = .ok (.goto 148, 3) := by decide +kernel
theorem dX11_sealed_66 : decode cX11_sealed 66 = .ok (.aload_n 0, 1) := by decide +kernel
theorem dX11_sealed_67 : decode cX11_sealed 67 = .ok (.iload_n 1, 1) := by decide +kernel
theorem dX11_sealed_68 : decode cX11_sealed 68 = .ok (.iload_n 2, 1) := by decide +kernel
theorem dX11_sealed_69 : decode cX11_sealed 69 = .ok (.iconst 2, 1) := by decide +kernel
theorem dX11_sealed_70 : decode cX11_sealed 70 = .ok (.if_icmp .eq 7, 3) := by decide +kernel
theorem dX11_sealed_73 : decode cX11_sealed 73 = .ok (.iconst 1, 1) := by decide +kernel
theorem dX11_sealed_74 : decode cX11_sealed 74 = .ok (.goto 4, 3) := by decide +kernel
theorem dX11_sealed_77 : decode cX11_sealed 77 = .ok (.iconst 0, 1) := by decide +kernel
theorem dX11_sealed_78 : decode cX11_sealed 78 = .ok (.invokevirtual 152, 3) := by decide +kernel
theorem dX11_sealed_81 : decode cX11_sealed 81 = .ok (.aload_n 0, 1) := by decide +kernel
theorem dX11_sealed_82 : decode cX11_sealed 82 = .ok (.getfield 29, 3) := by decide +kernel
theorem dX11_sealed_85 : decode cX11_sealed 85 = .ok (.iload_n 1, 1) := by decide +kernel
theorem dX11_sealed_86 : decode cX11_sealed 86 = .ok (.aload_n 0, 1) := by decide +kernel
theorem dX11_sealed_87 : decode cX11_sealed 87 = .ok (.getfield 77, 3) := by decide +kernel
theorem dX11_sealed_90 : decode cX11_sealed 90 = .ok (.iconst 1, 1) := by decide +kernel
theorem dX11_sealed_91 : decode cX11_sealed 91 = .ok (.isub, 1) := by decide +kernel
theorem dX11_sealed_92 : decode cX11_sealed 92 = .ok (.iastore, 1) := by decide +kernel
theorem dX11_sealed_93 : decode cX11_sealed 93 = .ok (.iconst 0, 1) := by decide +kernel
theorem dX11_sealed_94 : decode cX11_sealed 94 = .ok (.istore_n 3, 1) := by decide +kernel
theorem dX11_sealed_95 : decode cX11_sealed 95 = .ok (.iload_n 3, 1) := by decide +kernel
theorem dX11_sealed_96 : decode cX11_sealed 96 = .ok (.aload_n 0, 1) := by decide +kernel
theorem dX11_sealed_97 : decode cX11_sealed 97 = .ok (.getfield 77, 3) := by decide +kernel
theorem dX11_sealed_100 : decode cX11_sealed 100 = .ok (.if_icmp .ge 111, 3) := by decide +kernel
theorem dX11_sealed_103 : decode cX11_sealed 103 = .ok (.aload_n 0, 1) := by decide +kernel
theorem dX11_sealed_104 : decode cX11_sealed 104 = .ok (.getfield 35, 3) := by decide +kernel
theorem dX11_sealed_107 : decode cX11_sealed 107 = .ok (.iload_n 1, 1) := by decide +kernel
theorem dX11_sealed_108 : decode cX11_sealed 108 = .ok (.dup2, 1) := by decide +kernel
theorem dX11_sealed_109 : decode cX11_sealed 109 = .ok (.iaload, 1) := by decide +kernel
theorem dX11_sealed_110 : decode cX11_sealed 110 = .ok (.aload_n 0, 1) := by decide +kernel
theorem dX11_sealed_111 : decode cX11_sealed 111 = .ok (.iload_n 1, 1) := by decide +kernel
theorem dX11_sealed_112 : decode cX11_sealed 112 = .ok (.iload_n 3, 1) := by decide +kernel
theorem dX11_sealed_113 : decode cX11_sealed 113 = .ok (.invokevirtual 156, 3) := by decide +kernel
theorem dX11_sealed_116 : decode cX11_sealed 116 = .ok (.ifCond .eq 7, 3) := by decide +kernel
theorem dX11_sealed_119 : decode cX11_sealed 119 = .ok (.iconst 1, 1) := by decide +kernel
theorem dX11_sealed_120 : decode cX11_sealed 120 = .ok (.goto 4, 3) := by decide +kernel
theorem dX11_sealed_123 : decode cX11_sealed 123 = .ok (.iconst 0, 1) := by decide +kernel
theorem dX11_sealed_124 : decode cX11_sealed 124 = .ok (.iadd, 1) := by decide +kernel
theorem dX11_sealed_125 : decode cX11_sealed 125 = .ok (.iastore, 1) := by decide +kernel
theorem dX11_sealed_126 : decode cX11_sealed 126 = .ok (.iload_n 3, 1) := by decide +kernel
theorem dX11_sealed_127 : decode cX11_sealed 127 = .ok (.ifCond .le 39, 3) := by decide +kernel
theorem dX11_sealed_130 : decode cX11_sealed 130 = .ok (.iload_n 2, 1) := by decide +kernel
theorem dX11_sealed_131 : decode cX11_sealed 131 = .ok (.iconst 4, 1) := by decide +kernel
theorem dX11_sealed_132 : decode cX11_sealed 132 = .ok (.if_icmp .ne 12, 3) := by decide +kernel
theorem dX11_sealed_135 : decode cX11_sealed 135 = .ok (.aload_n 0, 1) := by decide +kernel
theorem dX11_sealed_136 : decode cX11_sealed 136 = .ok (.iload_n 1, 1) := by decide +kernel
theorem dX11_sealed_137 : decode cX11_sealed 137 = .ok (.iload_n 3, 1) := by decide +kernel
theorem dX11_sealed_138 : decode cX11_sealed 138 = .ok (.invokevirtual 159, 3) := by decide +kernel
theorem dX11_sealed_141 : decode cX11_sealed 141 = .ok (.ifCond .ne 25, 3) := by decide +kernel
theorem dX11_sealed_144 : decode cX11_sealed 144 = .ok (.aload_n 0, 1) := by decide +kernel
theorem dX11_sealed_145 : decode cX11_sealed 145 = .ok (.getfield 32, 3) := by decide +kernel
theorem dX11_sealed_148 : decode cX11_sealed 148 = .ok (.iload_n 1, 1) := by decide +kernel
theorem dX11_sealed_149 : decode cX11_sealed 149 = .ok (.dup2, 1) := by decide +kernel
theorem dX11_sealed_150 : decode cX11_sealed 150 = .ok (.iaload, 1) := by decide +kernel
theorem dX11_sealed_151 : decode cX11_sealed 151 = .ok (.aload_n 0, 1) := by decide +kernel
theorem dX11_sealed_152 : decode cX11_sealed 152 = .ok (.getfield 68, 3) := by decide +kernel
theorem dX11_sealed_155 : decode cX11_sealed 155 = .ok (.iload_n 3, 1) := by decide +kernel
theorem dX11_sealed_156 : decode cX11_sealed 156 = .ok (.iaload, 1) := by decide +kernel
theorem dX11_sealed_157 : decode cX11_sealed 157 = .ok (.aload_n 0, 1) := by decide +kernel
theorem dX11_sealed_158 : decode cX11_sealed 158 = .ok (.getfield 74, 3) := by decide +kernel
theorem dX11_sealed_161 : decode cX11_sealed 161 = .ok (.iload_n 3, 1) := by decide +kernel
theorem dX11_sealed_162 : decode cX11_sealed 162 = .ok (.iaload, 1) := by decide +kernel
theorem dX11_sealed_163 : decode cX11_sealed 163 = .ok (.isub, 1) := by decide +kernel
theorem dX11_sealed_164 : decode cX11_sealed 164 = .ok (.iadd, 1) := by decide +kernel
theorem dX11_sealed_165 : decode cX11_sealed 165 = .ok (.iastore, 1) := by decide +kernel
theorem dX11_sealed_166 : decode cX11_sealed 166 = .ok (.aload_n 0, 1) := by decide +kernel
theorem dX11_sealed_167 : decode cX11_sealed 167 = .ok (.getfield 71, 3) := by decide +kernel
theorem dX11_sealed_170 : decode cX11_sealed 170 = .ok (.iload_n 3, 1) := by decide +kernel
theorem dX11_sealed_171 : decode cX11_sealed 171 = .ok (.iaload, 1) := by decide +kernel
theorem dX11_sealed_172 : decode cX11_sealed 172 = .ok (.istore 4, 2) := by decide +kernel
theorem dX11_sealed_174 : decode cX11_sealed 174 = .ok (.iload 4, 2) := by decide +kernel
theorem dX11_sealed_176 : decode cX11_sealed 176 = .ok (.aload_n 0, 1) := by decide +kernel
theorem dX11_sealed_177 : decode cX11_sealed 177 = .ok (.getfield 71, 3) := by decide +kernel
theorem dX11_sealed_180 : decode cX11_sealed 180 = .ok (.iload_n 3, 1) := by decide +kernel
theorem dX11_sealed_181 : decode cX11_sealed 181 = .ok (.iconst 1, 1) := by decide +kernel
theorem dX11_sealed_182 : decode cX11_sealed 182 = .ok (.iadd, 1) := by decide +kernel
theorem dX11_sealed_183 : decode cX11_sealed 183 = .ok (.iaload, 1) := by decide +kernel
theorem dX11_sealed_184 : decode cX11_sealed 184 = .ok (.if_icmp .ge 15, 3) := by decide +kernel
theorem dX11_sealed_187 : decode cX11_sealed 187 = .ok (.aload_n 0, 1) := by decide +kernel
theorem dX11_sealed_188 : decode cX11_sealed 188 = .ok (.iload_n 1, 1) := by decide +kernel
theorem dX11_sealed_189 : decode cX11_sealed 189 = .ok (.iconst 1, 1) := by decide +kernel
theorem dX11_sealed_190 : decode cX11_sealed 190 = .ok (.invokevirtual 162, 3) := by decide +kernel
theorem dX11_sealed_193 : decode cX11_sealed 193 = .ok (.iinc 4 1, 3) := by decide +kernel
theorem dX11_sealed_196 : decode cX11_sealed 196 = .ok (.goto (-22), 3) := by decide +kernel
theorem dX11_sealed_199 : decode cX11_sealed 199 = .ok (.aload_n 0, 1) := by decide +kernel
theorem dX11_sealed_200 : decode cX11_sealed 200 = .ok (.iload_n 1, 1) := by decide +kernel
theorem dX11_sealed_201 : decode cX11_sealed 201 = .ok (.iconst 0, 1) := by decide +kernel
theorem dX11_sealed_202 : decode cX11_sealed 202 = .ok (.invokevirtual 162, 3) := by decide +kernel
theorem dX11_sealed_205 : decode cX11_sealed 205 = .ok (.iinc 3 1, 3) := by decide +kernel
theorem dX11_sealed_208 : decode cX11_sealed 208 = .ok (.goto (-113), 3) := by decide +kernel
theorem dX11_sealed_211 : decode cX11_sealed 211 = .ok (.return_, 1) := by decide +kernel
theorem dX11_addBit_0 : decode cX11_addBit 0 = .ok (.aload_n 0, 1) := by decide +kernel
theorem dX11_addBit_1 : decode cX11_addBit 1 = .ok (.getfield 43, 3) := by decide +kernel
theorem dX11_addBit_4 : decode cX11_addBit 4 = .ok (.sipush 4900, 3) := by decide +kernel
theorem dX11_addBit_7 : decode cX11_addBit 7 = .ok (.iload_n 1, 1) := by decide +kernel
theorem dX11_addBit_8 : decode cX11_addBit 8 = .ok (.imul, 1) := by decide +kernel
theorem dX11_addBit_9 : decode cX11_addBit 9 = .ok (.aload_n 0, 1) := by decide +kernel
theorem dX11_addBit_10 : decode cX11_addBit 10 = .ok (.getfield 26, 3) := by decide +kernel
theorem dX11_addBit_13 : decode cX11_addBit 13 = .ok (.iload_n 1, 1) := by decide +kernel
theorem dX11_addBit_14 : decode cX11_addBit 14 = .ok (.iaload, 1) := by decide +kernel
theorem dX11_addBit_15 : decode cX11_addBit 15 = .ok (.iadd, 1) := by decide +kernel
theorem dX11_addBit_16 : decode cX11_addBit 16 = .ok (.iload_n 2, 1) := by decide +kernel
theorem dX11_addBit_17 : decode cX11_addBit 17 = .ok (.iastore, 1) := by decide +kernel
theorem dX11_addBit_18 : decode cX11_addBit 18 = .ok (.aload_n 0, 1) := by decide +kernel
theorem dX11_addBit_19 : decode cX11_addBit 19 = .ok (.getfield 26, 3) := by decide +kernel
theorem dX11_addBit_22 : decode cX11_addBit 22 = .ok (.iload_n 1, 1) := by decide +kernel
theorem dX11_addBit_23 : decode cX11_addBit 23 = .ok (.dup2, 1) := by decide +kernel
theorem dX11_addBit_24 : decode cX11_addBit 24 = .ok (.iaload, 1) := by decide +kernel
theorem dX11_addBit_25 : decode cX11_addBit 25 = .ok (.iconst 1, 1) := by decide +kernel
theorem dX11_addBit_26 : decode cX11_addBit 26 = .ok (.iadd, 1) := by decide +kernel
theorem dX11_addBit_27 : decode cX11_addBit 27 = .ok (.iastore, 1) := by decide +kernel
theorem dX11_addBit_28 : decode cX11_addBit 28 = .ok (.return_, 1) := by decide +kernel
theorem dX11_highBits_0 : decode cX11_highBits 0 = .ok (.iconst 0, 1) := by decide +kernel
theorem dX11_highBits_1 : decode cX11_highBits 1 = .ok (.istore_n 2, 1) := by decide +kernel
theorem dX11_highBits_2 : decode cX11_highBits 2 = .ok (.iconst 1, 1) := by decide +kernel
theorem dX11_highBits_3 : decode cX11_highBits 3 = .ok (.iload_n 2, 1) := by decide +kernel
theorem dX11_highBits_4 : decode cX11_highBits 4 = .ok (.ishl, 1) := by decide +kernel
theorem dX11_highBits_5 : decode cX11_highBits 5 = .ok (.aload_n 0, 1) := by decide +kernel
theorem dX11_highBits_6 : decode cX11_highBits 6 = .ok (.getfield 23, 3) := by decide +kernel
theorem dX11_highBits_9 : decode cX11_highBits 9 = .ok (.iload_n 1, 1) := by decide +kernel
theorem dX11_highBits_10 : decode cX11_highBits 10 = .ok (.iaload, 1) := by decide +kernel
theorem dX11_highBits_11 : decode cX11_highBits 11 = .ok (.if_icmp .gt 9, 3) := by decide +kernel
theorem dX11_highBits_14 : decode cX11_highBits 14 = .ok (.iinc 2 1, 3) := by decide +kernel
theorem dX11_highBits_17 : decode cX11_highBits 17 = .ok (.goto (-15), 3) := by decide +kernel
theorem dX11_highBits_20 : decode cX11_highBits 20 = .ok (.iload_n 2, 1) := by decide +kernel
theorem dX11_highBits_21 : decode cX11_highBits 21 = .ok (.ireturn, 1) := by decide +kernel
theorem dX11_split_0 : decode cX11_split 0 = .ok (.aload_n 0, 1) := by decide +kernel
theorem dX11_split_1 : decode cX11_split 1 = .ok (.iload_n 1, 1) := by decide +kernel
theorem dX11_split_2 : decode cX11_split 2 = .ok (.invokevirtual 166, 3) := by decide +kernel
theorem dX11_split_5 : decode cX11_split 5 = .ok (.istore_n 2, 1) := by decide +kernel
theorem dX11_split_6 : decode cX11_split 6 = .ok (.iconst 0, 1) := by decide +kernel
theorem dX11_split_7 : decode cX11_split 7 = .ok (.istore_n 3, 1) := by decide +kernel
theorem dX11_split_8 : decode cX11_split 8 = .ok (.iload_n 3, 1) := by decide +kernel
theorem dX11_split_9 : decode cX11_split 9 = .ok (.iconst 1, 1) := by decide +kernel
theorem dX11_split_10 : decode cX11_split 10 = .ok (.iload_n 2, 1) := by decide +kernel
theorem dX11_split_11 : decode cX11_split 11 = .ok (.ishl, 1) := by decide +kernel
theorem dX11_split_12 : decode cX11_split 12 = .ok (.if_icmp .ge 58, 3) := by decide +kernel
theorem dX11_split_15 : decode cX11_split 15 = .ok (.iconst 0, 1) := by decide +kernel
theorem dX11_split_16 : decode cX11_split 16 = .ok (.istore 4, 2) := by decide +kernel
theorem dX11_split_18 : decode cX11_split 18 = .ok (.iload 4, 2) := by decide +kernel
theorem dX11_split_20 : decode cX11_split 20 = .ok (.aload_n 0, 1) := by decide +kernel
theorem dX11_split_21 : decode cX11_split 21 = .ok (.getfield 23, 3) := by decide +kernel
theorem dX11_split_24 : decode cX11_split 24 = .ok (.iload_n 1, 1) := by decide +kernel
theorem dX11_split_25 : decode cX11_split 25 = .ok (.iaload, 1) := by decide +kernel
theorem dX11_split_26 : decode cX11_split 26 = .ok (.if_icmp .ge 32, 3) := by decide +kernel
theorem dX11_split_29 : decode cX11_split 29 = .ok (.aload_n 0, 1) := by decide +kernel
theorem dX11_split_30 : decode cX11_split 30 = .ok (.iload_n 1, 1) := by decide +kernel
theorem dX11_split_31 : decode cX11_split 31 = .ok (.iload 4, 2) := by decide +kernel
theorem dX11_split_33 : decode cX11_split 33 = .ok (.iconst 0, 1) := by decide +kernel
theorem dX11_split_34 : decode cX11_split 34 = .ok (.invokevirtual 111, 3) := by decide +kernel
theorem dX11_split_37 : decode cX11_split 37 = .ok (.bipush 8, 2) := by decide +kernel
theorem dX11_split_39 : decode cX11_split 39 = .ok (.iload_n 2, 1) := by decide +kernel
theorem dX11_split_40 : decode cX11_split 40 = .ok (.isub, 1) := by decide +kernel
theorem dX11_split_41 : decode cX11_split 41 = .ok (.ishr, 1) := by decide +kernel
theorem dX11_split_42 : decode cX11_split 42 = .ok (.iload_n 3, 1) := by decide +kernel
theorem dX11_split_43 : decode cX11_split 43 = .ok (.if_icmp .ne 9, 3) := by decide +kernel
theorem dX11_split_46 : decode cX11_split 46 = .ok (.aload_n 0, 1) := by decide +kernel
theorem dX11_split_47 : decode cX11_split 47 = .ok (.iload_n 1, 1) := by decide +kernel
theorem dX11_split_48 : decode cX11_split 48 = .ok (.iconst 1, 1) := by decide +kernel
theorem dX11_split_49 : decode cX11_split 49 = .ok (.invokevirtual 162, 3) := by decide +kernel
theorem dX11_split_52 : decode cX11_split 52 = .ok (.iinc 4 1, 3) := by decide +kernel
theorem dX11_split_55 : decode cX11_split 55 = .ok (.goto (-37), 3) := by decide +kernel
theorem dX11_split_58 : decode cX11_split 58 = .ok (.aload_n 0, 1) := by decide +kernel
theorem dX11_split_59 : decode cX11_split 59 = .ok (.iload_n 1, 1) := by decide +kernel
theorem dX11_split_60 : decode cX11_split 60 = .ok (.iconst 0, 1) := by decide +kernel
theorem dX11_split_61 : decode cX11_split 61 = .ok (.invokevirtual 162, 3) := by decide +kernel
theorem dX11_split_64 : decode cX11_split 64 = .ok (.iinc 3 1, 3) := by decide +kernel
theorem dX11_split_67 : decode cX11_split 67 = .ok (.goto (-59), 3) := by decide +kernel
theorem dX11_split_70 : decode cX11_split 70 = .ok (.return_, 1) := by decide +kernel
theorem dX11_seal_0 : decode cX11_seal 0 = .ok (.aload_n 0, 1) := by decide +kernel
theorem dX11_seal_1 : decode cX11_seal 1 = .ok (.iload_n 1, 1) := by decide +kernel
theorem dX11_seal_2 : decode cX11_seal 2 = .ok (.invokevirtual 97, 3) := by decide +kernel
theorem dX11_seal_5 : decode cX11_seal 5 = .ok (.ifCond .eq 11, 3) := by decide +kernel
theorem dX11_seal_8 : decode cX11_seal 8 = .ok (.aload_n 0, 1) := by decide +kernel
theorem dX11_seal_9 : decode cX11_seal 9 = .ok (.iload_n 2, 1) := by decide +kernel
theorem dX11_seal_10 : decode cX11_seal 10 = .ok (.invokevirtual 97, 3) := by decide +kernel
theorem dX11_seal_13 : decode cX11_seal 13 = .ok (.ifCond .ne 6, 3) := by decide +kernel
theorem dX11_seal_16 : decode cX11_seal 16 = .ok (.bipush (-2), 2) := by decide +kernel
theorem dX11_seal_18 : decode cX11_seal 18 = .ok (.ireturn, 1) := by decide +kernel
theorem dX11_seal_19 : decode cX11_seal 19 = .ok (.aload_n 0, 1) := by decide +kernel
theorem dX11_seal_20 : decode cX11_seal 20 = .ok (.iload_n 1, 1) := by decide +kernel
theorem dX11_seal_21 : decode cX11_seal 21 = .ok (.invokevirtual 123, 3) := by decide +kernel
theorem dX11_seal_24 : decode cX11_seal 24 = .ok (.istore 4, 2) := by decide +kernel
theorem dX11_seal_26 : decode cX11_seal 26 = .ok (.iload 4, 2) := by decide +kernel
theorem dX11_seal_28 : decode cX11_seal 28 = .ok (.ifCond .ge 6, 3) := by decide +kernel
theorem dX11_seal_31 : decode cX11_seal 31 = .ok (.iload 4, 2) := by decide +kernel
theorem dX11_seal_33 : decode cX11_seal 33 = .ok (.ireturn, 1) := by decide +kernel
theorem dX11_seal_34 : decode cX11_seal 34 = .ok (.aload_n 0, 1) := by decide +kernel
theorem dX11_seal_35 : decode cX11_seal 35 = .ok (.iload_n 1, 1) := by decide +kernel
theorem dX11_seal_36 : decode cX11_seal 36 = .ok (.invokevirtual 108, 3) := by decide +kernel
theorem dX11_seal_39 : decode cX11_seal 39 = .ok (.istore 5, 2) := by decide +kernel
theorem dX11_seal_41 : decode cX11_seal 41 = .ok (.iload_n 3, 1) := by decide +kernel
theorem dX11_seal_42 : decode cX11_seal 42 = .ok (.iconst 1, 1) := by decide +kernel
theorem dX11_seal_43 : decode cX11_seal 43 = .ok (.if_icmp .lt 18, 3) := by decide +kernel
theorem dX11_seal_46 : decode cX11_seal 46 = .ok (.iload_n 3, 1) := by decide +kernel
theorem dX11_seal_47 : decode cX11_seal 47 = .ok (.iconst 5, 1) := by decide +kernel
theorem dX11_seal_48 : decode cX11_seal 48 = .ok (.if_icmp .gt 13, 3) := by decide +kernel
theorem dX11_seal_51 : decode cX11_seal 51 = .ok (.aload_n 0, 1) := by decide +kernel
theorem dX11_seal_52 : decode cX11_seal 52 = .ok (.iload 5, 2) := by decide +kernel
theorem dX11_seal_54 : decode cX11_seal 54 = .ok (.iload_n 3, 1) := by decide +kernel
theorem dX11_seal_55 : decode cX11_seal 55 = .ok (.invokevirtual 169, 3) := by decide +kernel
theorem dX11_seal_58 : decode cX11_seal 58 = .ok (.ifCond .ne 6, 3) := by decide +kernel
theorem dX11_seal_61 : decode cX11_seal 61 = .ok (.bipush (-5), 2) := by decide +kernel
theorem dX11_seal_63 : decode cX11_seal 63 = .ok (.ireturn, 1) := by decide +kernel
theorem dX11_seal_64 : decode cX11_seal 64 = .ok (.aload_n 0, 1) := by decide +kernel
theorem dX11_seal_65 : decode cX11_seal 65 = .ok (.iload_n 3, 1) := by decide +kernel
theorem dX11_seal_66 : decode cX11_seal 66 = .ok (.invokevirtual 101, 3) := by decide +kernel
theorem dX11_seal_69 : decode cX11_seal 69 = .ok (.istore 6, 2) := by decide +kernel
theorem dX11_seal_71 : decode cX11_seal 71 = .ok (.iconst 0, 1) := by decide +kernel
theorem dX11_seal_72 : decode cX11_seal 72 = .ok (.istore 7, 2) := by decide +kernel
theorem dX11_seal_74 : decode cX11_seal 74 = .ok (.iload 7, 2) := by decide +kernel
theorem dX11_seal_76 : decode cX11_seal 76 = .ok (.aload_n 0, 1) := by decide +kernel
theorem dX11_seal_77 : decode cX11_seal 77 = .ok (.getfield 23, 3) := by decide +kernel
theorem dX11_seal_80 : decode cX11_seal 80 = .ok (.iload 5, 2) := by decide +kernel
theorem dX11_seal_82 : decode cX11_seal 82 = .ok (.iaload, 1) := by decide +kernel
theorem dX11_seal_83 : decode cX11_seal 83 = .ok (.if_icmp .ge 21, 3) := by decide +kernel
theorem dX11_seal_86 : decode cX11_seal 86 = .ok (.aload_n 0, 1) := by decide +kernel
theorem dX11_seal_87 : decode cX11_seal 87 = .ok (.iload 5, 2) := by decide +kernel
theorem dX11_seal_89 : decode cX11_seal 89 = .ok (.iload 7, 2) := by decide +kernel
theorem dX11_seal_91 : decode cX11_seal 91 = .ok (.iload 6, 2) := by decide +kernel
theorem dX11_seal_93 : decode cX11_seal 93 = .ok (.iload 7, 2) := by decide +kernel
theorem dX11_seal_95 : decode cX11_seal 95 = .ok (.invokevirtual 119, 3) := by decide +kernel
theorem dX11_seal_98 : decode cX11_seal 98 = .ok (.iinc 7 1, 3) := by decide +kernel
theorem dX11_seal_101 : decode cX11_seal 101 = .ok (.goto (-27), 3) := by decide +kernel
theorem dX11_seal_104 : decode cX11_seal 104 = .ok (.aload_n 0, 1) := by decide +kernel
theorem dX11_seal_105 : decode cX11_seal 105 = .ok (.getfield 23, 3) := by decide +kernel
theorem dX11_seal_108 : decode cX11_seal 108 = .ok (.iload 6, 2) := by decide +kernel
theorem dX11_seal_110 : decode cX11_seal 110 = .ok (.aload_n 0, 1) := by decide +kernel
theorem dX11_seal_111 : decode cX11_seal 111 = .ok (.getfield 23, 3) := by decide +kernel
theorem dX11_seal_114 : decode cX11_seal 114 = .ok (.iload 5, 2) := by decide +kernel
theorem dX11_seal_116 : decode cX11_seal 116 = .ok (.iaload, 1) := by decide +kernel
theorem dX11_seal_117 : decode cX11_seal 117 = .ok (.iastore, 1) := by decide +kernel
theorem dX11_seal_118 : decode cX11_seal 118 = .ok (.aload_n 0, 1) := by decide +kernel
theorem dX11_seal_119 : decode cX11_seal 119 = .ok (.iload 6, 2) := by decide +kernel
theorem dX11_seal_121 : decode cX11_seal 121 = .ok (.iload_n 3, 1) := by decide +kernel
theorem dX11_seal_122 : decode cX11_seal 122 = .ok (.invokevirtual 172, 3) := by decide +kernel
theorem dX11_seal_125 : decode cX11_seal 125 = .ok (.aload_n 0, 1) := by decide +kernel
theorem dX11_seal_126 : decode cX11_seal 126 = .ok (.getfield 17, 3) := by decide +kernel
theorem dX11_seal_129 : decode cX11_seal 129 = .ok (.iload_n 2, 1) := by decide +kernel
theorem dX11_seal_130 : decode cX11_seal 130 = .ok (.iload 6, 2) := by decide +kernel
theorem dX11_seal_132 : decode cX11_seal 132 = .ok (.iconst 1, 1) := by decide +kernel
theorem dX11_seal_133 : decode cX11_seal 133 = .ok (.iadd, 1) := by decide +kernel
theorem dX11_seal_134 : decode cX11_seal 134 = .ok (.iastore, 1) := by decide +kernel
theorem dX11_seal_135 : decode cX11_seal 135 = .ok (.aload_n 0, 1) := by decide +kernel
theorem dX11_seal_136 : decode cX11_seal 136 = .ok (.getfield 23, 3) := by decide +kernel
theorem dX11_seal_139 : decode cX11_seal 139 = .ok (.iload 6, 2) := by decide +kernel
theorem dX11_seal_141 : decode cX11_seal 141 = .ok (.iaload, 1) := by decide +kernel
theorem dX11_seal_142 : decode cX11_seal 142 = .ok (.ireturn, 1) := by decide +kernel
theorem dX11_unseal_0 : decode cX11_unseal 0 = .ok (.aload_n 0, 1) := by decide +kernel
theorem dX11_unseal_1 : decode cX11_unseal 1 = .ok (.iload_n 1, 1) := by decide +kernel
theorem dX11_unseal_2 : decode cX11_unseal 2 = .ok (.invokevirtual 97, 3) := by decide +kernel
theorem dX11_unseal_5 : decode cX11_unseal 5 = .ok (.ifCond .eq 11, 3) := by decide +kernel
theorem dX11_unseal_8 : decode cX11_unseal 8 = .ok (.aload_n 0, 1) := by decide +kernel
theorem dX11_unseal_9 : decode cX11_unseal 9 = .ok (.iload_n 2, 1) := by decide +kernel
theorem dX11_unseal_10 : decode cX11_unseal 10 = .ok (.invokevirtual 97, 3) := by decide +kernel
theorem dX11_unseal_13 : decode cX11_unseal 13 = .ok (.ifCond .ne 6, 3) := by decide +kernel
theorem dX11_unseal_16 : decode cX11_unseal 16 = .ok (.bipush (-2), 2) := by decide +kernel
theorem dX11_unseal_18 : decode cX11_unseal 18 = .ok (.ireturn, 1) := by decide +kernel
theorem dX11_unseal_19 : decode cX11_unseal 19 = .ok (.aload_n 0, 1) := by decide +kernel
theorem dX11_unseal_20 : decode cX11_unseal 20 = .ok (.iload_n 1, 1) := by decide +kernel
theorem dX11_unseal_21 : decode cX11_unseal 21 = .ok (.invokevirtual 175, 3) := by decide +kernel
theorem dX11_unseal_24 : decode cX11_unseal 24 = .ok (.istore_n 3, 1) := by decide +kernel
theorem dX11_unseal_25 : decode cX11_unseal 25 = .ok (.iload_n 3, 1) := by decide +kernel
theorem dX11_unseal_26 : decode cX11_unseal 26 = .ok (.ifCond .ge 5, 3) := by decide +kernel
theorem dX11_unseal_29 : decode cX11_unseal 29 = .ok (.iload_n 3, 1) := by decide +kernel
theorem dX11_unseal_30 : decode cX11_unseal 30 = .ok (.ireturn, 1) := by decide +kernel
theorem dX11_unseal_31 : decode cX11_unseal 31 = .ok (.aload_n 0, 1) := by decide +kernel
theorem dX11_unseal_32 : decode cX11_unseal 32 = .ok (.iload_n 1, 1) := by decide +kernel
theorem dX11_unseal_33 : decode cX11_unseal 33 = .ok (.invokevirtual 108, 3) := by decide +kernel
theorem dX11_unseal_36 : decode cX11_unseal 36 = .ok (.istore 4, 2) := by decide +kernel
theorem dX11_unseal_38 : decode cX11_unseal 38 = .ok (.aload_n 0, 1) := by decide +kernel
theorem dX11_unseal_39 : decode cX11_unseal 39 = .ok (.iload 4, 2) := by decide +kernel
theorem dX11_unseal_41 : decode cX11_unseal 41 = .ok (.invokevirtual 178, 3) := by decide +kernel
theorem dX11_unseal_44 : decode cX11_unseal 44 = .ok (.ifCond .eq 6, 3) := by decide +kernel
theorem dX11_unseal_47 : decode cX11_unseal 47 = .ok (.bipush (-6), 2) := by decide +kernel
theorem dX11_unseal_49 : decode cX11_unseal 49 = .ok (.ireturn, 1) := by decide +kernel
theorem dX11_unseal_50 : decode cX11_unseal 50 = .ok (.aload_n 0, 1) := by decide +kernel
theorem dX11_unseal_51 : decode cX11_unseal 51 = .ok (.bipush 6, 2) := by decide +kernel
theorem dX11_unseal_53 : decode cX11_unseal 53 = .ok (.invokevirtual 101, 3) := by decide +kernel
theorem dX11_unseal_56 : decode cX11_unseal 56 = .ok (.istore 5, 2) := by decide +kernel
theorem dX11_unseal_58 : decode cX11_unseal 58 = .ok (.iconst 0, 1) := by decide +kernel
theorem dX11_unseal_59 : decode cX11_unseal 59 = .ok (.istore 6, 2) := by decide +kernel
theorem dX11_unseal_61 : decode cX11_unseal 61 = .ok (.iload 6, 2) := by decide +kernel
theorem dX11_unseal_63 : decode cX11_unseal 63 = .ok (.aload_n 0, 1) := by decide +kernel
theorem dX11_unseal_64 : decode cX11_unseal 64 = .ok (.getfield 23, 3) := by decide +kernel
theorem dX11_unseal_67 : decode cX11_unseal 67 = .ok (.iload 4, 2) := by decide +kernel
theorem dX11_unseal_69 : decode cX11_unseal 69 = .ok (.iaload, 1) := by decide +kernel
theorem dX11_unseal_70 : decode cX11_unseal 70 = .ok (.if_icmp .ge 21, 3) := by decide +kernel
theorem dX11_unseal_73 : decode cX11_unseal 73 = .ok (.aload_n 0, 1) := by decide +kernel
theorem dX11_unseal_74 : decode cX11_unseal 74 = .ok (.iload 4, 2) := by decide +kernel
theorem dX11_unseal_76 : decode cX11_unseal 76 = .ok (.iload 6, 2) := by decide +kernel
theorem dX11_unseal_78 : decode cX11_unseal 78 = .ok (.iload 5, 2) := by decide +kernel
theorem dX11_unseal_80 : decode cX11_unseal 80 = .ok (.iload 6, 2) := by decide +kernel
theorem dX11_unseal_82 : decode cX11_unseal 82 = .ok (.invokevirtual 119, 3) := by decide +kernel
theorem dX11_unseal_85 : decode cX11_unseal 85 = .ok (.iinc 6 1, 3) := by decide +kernel
theorem dX11_unseal_88 : decode cX11_unseal 88 = .ok (.goto (-27), 3) := by decide +kernel
theorem dX11_unseal_91 : decode cX11_unseal 91 = .ok (.aload_n 0, 1) := by decide +kernel
theorem dX11_unseal_92 : decode cX11_unseal 92 = .ok (.getfield 23, 3) := by decide +kernel
theorem dX11_unseal_95 : decode cX11_unseal 95 = .ok (.iload 5, 2) := by decide +kernel
theorem dX11_unseal_97 : decode cX11_unseal 97 = .ok (.aload_n 0, 1) := by decide +kernel
theorem dX11_unseal_98 : decode cX11_unseal 98 = .ok (.getfield 23, 3) := by decide +kernel
theorem dX11_unseal_101 : decode cX11_unseal 101 = .ok (.iload 4, 2) := by decide +kernel
theorem dX11_unseal_103 : decode cX11_unseal 103 = .ok (.iaload, 1) := by decide +kernel
theorem dX11_unseal_104 : decode cX11_unseal 104 = .ok (.iastore, 1) := by decide +kernel
theorem dX11_unseal_105 : decode cX11_unseal 105 = .ok (.aload_n 0, 1) := by decide +kernel
theorem dX11_unseal_106 : decode cX11_unseal 106 = .ok (.getfield 17, 3) := by decide +kernel
theorem dX11_unseal_109 : decode cX11_unseal 109 = .ok (.iload_n 2, 1) := by decide +kernel
theorem dX11_unseal_110 : decode cX11_unseal 110 = .ok (.iload 5, 2) := by decide +kernel
theorem dX11_unseal_112 : decode cX11_unseal 112 = .ok (.iconst 1, 1) := by decide +kernel
theorem dX11_unseal_113 : decode cX11_unseal 113 = .ok (.iadd, 1) := by decide +kernel
theorem dX11_unseal_114 : decode cX11_unseal 114 = .ok (.iastore, 1) := by decide +kernel
theorem dX11_unseal_115 : decode cX11_unseal 115 = .ok (.aload_n 0, 1) := by decide +kernel
theorem dX11_unseal_116 : decode cX11_unseal 116 = .ok (.getfield 23, 3) := by decide +kernel
theorem dX11_unseal_119 : decode cX11_unseal 119 = .ok (.iload 5, 2) := by decide +kernel
theorem dX11_unseal_121 : decode cX11_unseal 121 = .ok (.iaload, 1) := by decide +kernel
theorem dX11_unseal_122 : decode cX11_unseal 122 = .ok (.ireturn, 1) := by decide +kernel
theorem dX11_lay_0 : decode cX11_lay 0 = .ok (.aload_n 0, 1) := by decide +kernel
theorem dX11_lay_1 : decode cX11_lay 1 = .ok (.aload_n 0, 1) := by decide +kernel
theorem dX11_lay_2 : decode cX11_lay 2 = .ok (.getfield 46, 3) := by decide +kernel
theorem dX11_lay_5 : decode cX11_lay 5 = .ok (.bipush 100, 2) := by decide +kernel
theorem dX11_lay_7 : decode cX11_lay 7 = .ok (.iload_n 1, 1) := by decide +kernel
theorem dX11_lay_8 : decode cX11_lay 8 = .ok (.imul, 1) := by decide +kernel
theorem dX11_lay_9 : decode cX11_lay 9 = .ok (.iload_n 2, 1) := by decide +kernel
theorem dX11_lay_10 : decode cX11_lay 10 = .ok (.iadd, 1) := by decide +kernel
theorem dX11_lay_11 : decode cX11_lay 11 = .ok (.iaload, 1) := by decide +kernel
theorem dX11_lay_12 : decode cX11_lay 12 = .ok (.putfield 59, 3) := by decide +kernel
theorem dX11_lay_15 : decode cX11_lay 15 = .ok (.iconst 0, 1) := by decide +kernel
theorem dX11_lay_16 : decode cX11_lay 16 = .ok (.istore_n 3, 1) := by decide +kernel
theorem dX11_lay_17 : decode cX11_lay 17 = .ok (.iload_n 3, 1) := by decide +kernel
theorem dX11_lay_18 : decode cX11_lay 18 = .ok (.aload_n 0, 1) := by decide +kernel
theorem dX11_lay_19 : decode cX11_lay 19 = .ok (.getfield 59, 3) := by decide +kernel
theorem dX11_lay_22 : decode cX11_lay 22 = .ok (.if_icmp .ge 22, 3) := by decide +kernel
theorem dX11_lay_25 : decode cX11_lay 25 = .ok (.aload_n 0, 1) := by decide +kernel
theorem dX11_lay_26 : decode cX11_lay 26 = .ok (.getfield 56, 3) := by decide +kernel
theorem dX11_lay_29 : decode cX11_lay 29 = .ok (.iload_n 3, 1) := by decide +kernel
theorem dX11_lay_30 : decode cX11_lay 30 = .ok (.aload_n 0, 1) := by decide +kernel
theorem dX11_lay_31 : decode cX11_lay 31 = .ok (.iload_n 1, 1) := by decide +kernel
theorem dX11_lay_32 : decode cX11_lay 32 = .ok (.iload_n 2, 1) := by decide +kernel
theorem dX11_lay_33 : decode cX11_lay 33 = .ok (.iload_n 3, 1) := by decide +kernel
theorem dX11_lay_34 : decode cX11_lay 34 = .ok (.invokevirtual 111, 3) := by decide +kernel
theorem dX11_lay_37 : decode cX11_lay 37 = .ok (.iastore, 1) := by decide +kernel
theorem dX11_lay_38 : decode cX11_lay 38 = .ok (.iinc 3 1, 3) := by decide +kernel
theorem dX11_lay_41 : decode cX11_lay 41 = .ok (.goto (-24), 3) := by decide +kernel
theorem dX11_lay_44 : decode cX11_lay 44 = .ok (.return_, 1) := by decide +kernel
theorem dX11_merge_0 : decode cX11_merge 0 = .ok (.aload_n 0, 1) := by decide +kernel
theorem dX11_merge_1 : decode cX11_merge 1 = .ok (.iload_n 1, 1) := by decide +kernel
theorem dX11_merge_2 : decode cX11_merge 2 = .ok (.invokevirtual 97, 3) := by decide +kernel
theorem dX11_merge_5 : decode cX11_merge 5 = .ok (.ifCond .eq 19, 3) := by decide +kernel
theorem dX11_merge_8 : decode cX11_merge 8 = .ok (.aload_n 0, 1) := by decide +kernel
theorem dX11_merge_9 : decode cX11_merge 9 = .ok (.iload_n 2, 1) := by decide +kernel
theorem dX11_merge_10 : decode cX11_merge 10 = .ok (.invokevirtual 97, 3) := by decide +kernel
theorem dX11_merge_13 : decode cX11_merge 13 = .ok (.ifCond .eq 11, 3) := by decide +kernel
theorem dX11_merge_16 : decode cX11_merge 16 = .ok (.aload_n 0, 1) := by decide +kernel
theorem dX11_merge_17 : decode cX11_merge 17 = .ok (.iload_n 3, 1) := by decide +kernel
theorem dX11_merge_18 : decode cX11_merge 18 = .ok (.invokevirtual 97, 3) := by decide +kernel
theorem dX11_merge_21 : decode cX11_merge 21 = .ok (.ifCond .ne 6, 3) := by decide +kernel
theorem dX11_merge_24 : decode cX11_merge 24 = .ok (.bipush (-2), 2) := by decide +kernel
theorem dX11_merge_26 : decode cX11_merge 26 = .ok (.ireturn, 1) := by decide +kernel
theorem dX11_merge_27 : decode cX11_merge 27 = .ok (.aload_n 0, 1) := by decide +kernel
theorem dX11_merge_28 : decode cX11_merge 28 = .ok (.getfield 17, 3) := by decide +kernel
theorem dX11_merge_31 : decode cX11_merge 31 = .ok (.iload_n 1, 1) := by decide +kernel
theorem dX11_merge_32 : decode cX11_merge 32 = .ok (.iaload, 1) := by decide +kernel
theorem dX11_merge_33 : decode cX11_merge 33 = .ok (.ifCond .eq 12, 3) := by decide +kernel
theorem dX11_merge_36 : decode cX11_merge 36 = .ok (.aload_n 0, 1) := by decide +kernel
theorem dX11_merge_37 : decode cX11_merge 37 = .ok (.getfield 17, 3) := by decide +kernel
theorem dX11_merge_40 : decode cX11_merge 40 = .ok (.iload_n 2, 1) := by decide +kernel
theorem dX11_merge_41 : decode cX11_merge 41 = .ok (.iaload, 1) := by decide +kernel
theorem dX11_merge_42 : decode cX11_merge 42 = .ok (.ifCond .ne 6, 3) := by decide +kernel
theorem dX11_merge_45 : decode cX11_merge 45 = .ok (.bipush (-3), 2) := by decide +kernel
theorem dX11_merge_47 : decode cX11_merge 47 = .ok (.ireturn, 1) := by decide +kernel
theorem dX11_merge_48 : decode cX11_merge 48 = .ok (.aload_n 0, 1) := by decide +kernel
theorem dX11_merge_49 : decode cX11_merge 49 = .ok (.iload_n 1, 1) := by decide +kernel
theorem dX11_merge_50 : decode cX11_merge 50 = .ok (.invokevirtual 175, 3) := by decide +kernel
theorem dX11_merge_53 : decode cX11_merge 53 = .ok (.ifCond .lt 11, 3) := by decide +kernel
theorem dX11_merge_56 : decode cX11_merge 56 = .ok (.aload_n 0, 1) := by decide +kernel
theorem dX11_merge_57 : decode cX11_merge 57 = .ok (.iload_n 2, 1) := by decide +kernel
theorem dX11_merge_58 : decode cX11_merge 58 = .ok (.invokevirtual 175, 3) := by decide +kernel
theorem dX11_merge_61 : decode cX11_merge 61 = .ok (.ifCond .ge 6, 3) := by decide +kernel
theorem dX11_merge_64 : decode cX11_merge 64 = .ok (.bipush (-4), 2) := by decide +kernel
theorem dX11_merge_66 : decode cX11_merge 66 = .ok (.ireturn, 1) := by decide +kernel
theorem dX11_merge_67 : decode cX11_merge 67 = .ok (.iload 4, 2) := by decide +kernel
theorem dX11_merge_69 : decode cX11_merge 69 = .ok (.ifCond .lt 21, 3) := by decide +kernel
theorem dX11_merge_72 : decode cX11_merge 72 = .ok (.iload 4, 2) := by decide +kernel
theorem dX11_merge_74 : decode cX11_merge 74 = .ok (.iconst 2, 1) := by decide +kernel
theorem dX11_merge_75 : decode cX11_merge 75 = .ok (.if_icmp .gt 15, 3) := by decide +kernel
theorem dX11_merge_78 : decode cX11_merge 78 = .ok (.iload 5, 2) := by decide +kernel
theorem dX11_merge_80 : decode cX11_merge 80 = .ok (.iconst 1, 1) := by decide +kernel
theorem dX11_merge_81 : decode cX11_merge 81 = .ok (.if_icmp .lt 9, 3) := by decide +kernel
theorem dX11_merge_84 : decode cX11_merge 84 = .ok (.iload 5, 2) := by decide +kernel
theorem dX11_merge_86 : decode cX11_merge 86 = .ok (.iconst 5, 1) := by decide +kernel
theorem dX11_merge_87 : decode cX11_merge 87 = .ok (.if_icmp .le 6, 3) := by decide +kernel
theorem dX11_merge_90 : decode cX11_merge 90 = .ok (.bipush (-5), 2) := by decide +kernel
theorem dX11_merge_92 : decode cX11_merge 92 = .ok (.ireturn, 1) := by decide +kernel
theorem dX11_merge_93 : decode cX11_merge 93 = .ok (.aload_n 0, 1) := by decide +kernel
theorem dX11_merge_94 : decode cX11_merge 94 = .ok (.iload_n 1, 1) := by decide +kernel
theorem dX11_merge_95 : decode cX11_merge 95 = .ok (.invokevirtual 108, 3) := by decide +kernel
theorem dX11_merge_98 : decode cX11_merge 98 = .ok (.istore 6, 2) := by decide +kernel
theorem dX11_merge_100 : decode cX11_merge 100 = .ok (.aload_n 0, 1) := by decide +kernel
theorem dX11_merge_101 : decode cX11_merge 101 = .ok (.iload_n 2, 1) := by decide +kernel
theorem dX11_merge_102 : decode cX11_merge 102 = .ok (.invokevirtual 108, 3) := by decide +kernel
theorem dX11_merge_105 : decode cX11_merge 105 = .ok (.istore 7, 2) := by decide +kernel
theorem dX11_merge_107 : decode cX11_merge 107 = .ok (.aload_n 0, 1) := by decide +kernel
theorem dX11_merge_108 : decode cX11_merge 108 = .ok (.iload 6, 2) := by decide +kernel
theorem dX11_merge_110 : decode cX11_merge 110 = .ok (.invokevirtual 178, 3) := by decide +kernel
theorem dX11_merge_113 : decode cX11_merge 113 = .ok (.ifCond .ne 12, 3) := by decide +kernel
theorem dX11_merge_116 : decode cX11_merge 116 = .ok (.aload_n 0, 1) := by decide +kernel
theorem dX11_merge_117 : decode cX11_merge 117 = .ok (.iload 7, 2) := by decide +kernel
theorem dX11_merge_119 : decode cX11_merge 119 = .ok (.invokevirtual 178, 3) := by decide +kernel
theorem dX11_merge_122 : decode cX11_merge 122 = .ok (.ifCond .eq 6, 3) := by decide +kernel
theorem dX11_merge_125 : decode cX11_merge 125 = .ok (.bipush (-6), 2) := by decide +kernel
theorem dX11_merge_127 : decode cX11_merge 127 = .ok (.ireturn, 1) := by decide +kernel
theorem dX11_merge_128 : decode cX11_merge 128 = .ok (.iconst 0, 1) := by decide +kernel
theorem dX11_merge_129 : decode cX11_merge 129 = .ok (.istore 8, 2) := by decide +kernel
theorem dX11_merge_131 : decode cX11_merge 131 = .ok (.iconst 0, 1) := by decide +kernel
theorem dX11_merge_132 : decode cX11_merge 132 = .ok (.istore 9, 2) := by decide +kernel
theorem dX11_merge_134 : decode cX11_merge 134 = .ok (.iload 9, 2) := by decide +kernel
theorem dX11_merge_136 : decode cX11_merge 136 = .ok (.aload_n 0, 1) := by decide +kernel
theorem dX11_merge_137 : decode cX11_merge 137 = .ok (.getfield 23, 3) := by decide +kernel
theorem dX11_merge_140 : decode cX11_merge 140 = .ok (.iload 6, 2) := by decide +kernel
theorem dX11_merge_142 : decode cX11_merge 142 = .ok (.iaload, 1) := by decide +kernel
theorem dX11_merge_143 : decode cX11_merge 143 = .ok (.if_icmp .ge 34, 3) := by decide +kernel
theorem dX11_merge_146 : decode cX11_merge 146 = .ok (.iload 8, 2) := by decide +kernel
theorem dX11_merge_148 : decode cX11_merge 148 = .ok (.aload_n 0, 1) := by decide +kernel
theorem dX11_merge_149 : decode cX11_merge 149 = .ok (.iload 6, 2) := by decide +kernel
theorem dX11_merge_151 : decode cX11_merge 151 = .ok (.iload 9, 2) := by decide +kernel
theorem dX11_merge_153 : decode cX11_merge 153 = .ok (.iload 7, 2) := by decide +kernel
theorem dX11_merge_155 : decode cX11_merge 155 = .ok (.iload 4, 2) := by decide +kernel
theorem dX11_merge_157 : decode cX11_merge 157 = .ok (.invokevirtual 181, 3) := by decide +kernel
theorem dX11_merge_160 : decode cX11_merge 160 = .ok (.ifCond .eq 7, 3) := by decide +kernel
theorem dX11_merge_163 : decode cX11_merge 163 = .ok (.iconst 1, 1) := by decide +kernel
theorem dX11_merge_164 : decode cX11_merge 164 = .ok (.goto 4, 3) := by decide +kernel
theorem dX11_merge_167 : decode cX11_merge 167 = .ok (.iconst 0, 1) := by decide +kernel
theorem dX11_merge_168 : decode cX11_merge 168 = .ok (.iadd, 1) := by decide +kernel
theorem dX11_merge_169 : decode cX11_merge 169 = .ok (.istore 8, 2) := by decide +kernel
theorem dX11_merge_171 : decode cX11_merge 171 = .ok (.iinc 9 1, 3) := by decide +kernel
theorem dX11_merge_174 : decode cX11_merge 174 = .ok (.goto (-40), 3) := by decide +kernel
theorem dX11_merge_177 : decode cX11_merge 177 = .ok (.iconst 0, 1) := by decide +kernel
theorem dX11_merge_178 : decode cX11_merge 178 = .ok (.istore 9, 2) := by decide +kernel
theorem dX11_merge_180 : decode cX11_merge 180 = .ok (.iload 9, 2) := by decide +kernel
theorem dX11_merge_182 : decode cX11_merge 182 = .ok (.aload_n 0, 1) := by decide +kernel
theorem dX11_merge_183 : decode cX11_merge 183 = .ok (.getfield 23, 3) := by decide +kernel
theorem dX11_merge_186 : decode cX11_merge 186 = .ok (.iload 7, 2) := by decide +kernel
theorem dX11_merge_188 : decode cX11_merge 188 = .ok (.iaload, 1) := by decide +kernel
theorem dX11_merge_189 : decode cX11_merge 189 = .ok (.if_icmp .ge 37, 3) := by decide +kernel
theorem dX11_merge_192 : decode cX11_merge 192 = .ok (.iload 4, 2) := by decide +kernel
theorem dX11_merge_194 : decode cX11_merge 194 = .ok (.ifCond .ne 32, 3) := by decide +kernel
theorem dX11_merge_197 : decode cX11_merge 197 = .ok (.iload 8, 2) := by decide +kernel
theorem dX11_merge_199 : decode cX11_merge 199 = .ok (.aload_n 0, 1) := by decide +kernel
theorem dX11_merge_200 : decode cX11_merge 200 = .ok (.iload 7, 2) := by decide +kernel
theorem dX11_merge_202 : decode cX11_merge 202 = .ok (.iload 9, 2) := by decide +kernel
theorem dX11_merge_204 : decode cX11_merge 204 = .ok (.iload 6, 2) := by decide +kernel
theorem dX11_merge_206 : decode cX11_merge 206 = .ok (.invokevirtual 185, 3) := by decide +kernel
theorem dX11_merge_209 : decode cX11_merge 209 = .ok (.ifCond .eq 7, 3) := by decide +kernel
theorem dX11_merge_212 : decode cX11_merge 212 = .ok (.iconst 0, 1) := by decide +kernel
theorem dX11_merge_213 : decode cX11_merge 213 = .ok (.goto 4, 3) := by decide +kernel
theorem dX11_merge_216 : decode cX11_merge 216 = .ok (.iconst 1, 1) := by decide +kernel
theorem dX11_merge_217 : decode cX11_merge 217 = .ok (.iadd, 1) := by decide +kernel
theorem dX11_merge_218 : decode cX11_merge 218 = .ok (.istore 8, 2) := by decide +kernel
theorem dX11_merge_220 : decode cX11_merge 220 = .ok (.iinc 9 1, 3) := by decide +kernel
theorem dX11_merge_223 : decode cX11_merge 223 = .ok (.goto (-43), 3) := by decide +kernel
theorem dX11_merge_226 : decode cX11_merge 226 = .ok (.iload 8, 2) := by decide +kernel
theorem dX11_merge_228 : decode cX11_merge 228 = .ok (.bipush 100, 2) := by decide +kernel
theorem dX11_merge_230 : decode cX11_merge 230 = .ok (.if_icmp .le 6, 3) := by decide +kernel
theorem dX11_merge_233 : decode cX11_merge 233 = .ok (.bipush (-7), 2) := by decide +kernel
theorem dX11_merge_235 : decode cX11_merge 235 = .ok (.ireturn, 1) := by decide +kernel
theorem dX11_merge_236 : decode cX11_merge 236 = .ok (.aload_n 0, 1) := by decide +kernel
theorem dX11_merge_237 : decode cX11_merge 237 = .ok (.bipush 6, 2) := by decide +kernel
theorem dX11_merge_239 : decode cX11_merge 239 = .ok (.invokevirtual 101, 3) := by decide +kernel
theorem dX11_merge_242 : decode cX11_merge 242 = .ok (.istore 9, 2) := by decide +kernel
theorem dX11_merge_244 : decode cX11_merge 244 = .ok (.iconst 0, 1) := by decide +kernel
theorem dX11_merge_245 : decode cX11_merge 245 = .ok (.istore 10, 2) := by decide +kernel
theorem dX11_merge_247 : decode cX11_merge 247 = .ok (.iload 10, 2) := by decide +kernel
theorem dX11_merge_249 : decode cX11_merge 249 = .ok (.aload_n 0, 1) := by decide +kernel
theorem dX11_merge_250 : decode cX11_merge 250 = .ok (.getfield 23, 3) := by decide +kernel
theorem dX11_merge_253 : decode cX11_merge 253 = .ok (.iload 6, 2) := by decide +kernel
theorem dX11_merge_255 : decode cX11_merge 255 = .ok (.iaload, 1) := by decide +kernel
theorem dX11_merge_256 : decode cX11_merge 256 = .ok (.if_icmp .ge 34, 3) := by decide +kernel
theorem dX11_merge_259 : decode cX11_merge 259 = .ok (.aload_n 0, 1) := by decide +kernel
theorem dX11_merge_260 : decode cX11_merge 260 = .ok (.iload 6, 2) := by decide +kernel
theorem dX11_merge_262 : decode cX11_merge 262 = .ok (.iload 10, 2) := by decide +kernel
theorem dX11_merge_264 : decode cX11_merge 264 = .ok (.iload 7, 2) := by decide +kernel
theorem dX11_merge_266 : decode cX11_merge 266 = .ok (.iload 4, 2) := by decide +kernel
theorem dX11_merge_268 : decode cX11_merge 268 = .ok (.invokevirtual 181, 3) := by decide +kernel
theorem dX11_merge_271 : decode cX11_merge 271 = .ok (.ifCond .eq 13, 3) := by decide +kernel
theorem dX11_merge_274 : decode cX11_merge 274 = .ok (.aload_n 0, 1) := by decide +kernel
theorem dX11_merge_275 : decode cX11_merge 275 = .ok (.iload 6, 2) := by decide +kernel
theorem dX11_merge_277 : decode cX11_merge 277 = .ok (.iload 10, 2) := by decide +kernel
theorem dX11_merge_279 : decode cX11_merge 279 = .ok (.iload 9, 2) := by decide +kernel
theorem dX11_merge_281 : decode cX11_merge 281 = .ok (.invokevirtual 189, 3) := by decide +kernel
theorem dX11_merge_284 : decode cX11_merge 284 = .ok (.iinc 10 1, 3) := by decide +kernel
theorem dX11_merge_287 : decode cX11_merge 287 = .ok (.goto (-40), 3) := by decide +kernel
theorem dX11_merge_290 : decode cX11_merge 290 = .ok (.iconst 0, 1) := by decide +kernel
theorem dX11_merge_291 : decode cX11_merge 291 = .ok (.istore 10, 2) := by decide +kernel
theorem dX11_merge_293 : decode cX11_merge 293 = .ok (.iload 10, 2) := by decide +kernel
theorem dX11_merge_295 : decode cX11_merge 295 = .ok (.aload_n 0, 1) := by decide +kernel
theorem dX11_merge_296 : decode cX11_merge 296 = .ok (.getfield 23, 3) := by decide +kernel
theorem dX11_merge_299 : decode cX11_merge 299 = .ok (.iload 7, 2) := by decide +kernel
theorem dX11_merge_301 : decode cX11_merge 301 = .ok (.iaload, 1) := by decide +kernel
theorem dX11_merge_302 : decode cX11_merge 302 = .ok (.if_icmp .ge 37, 3) := by decide +kernel
theorem dX11_merge_305 : decode cX11_merge 305 = .ok (.iload 4, 2) := by decide +kernel
theorem dX11_merge_307 : decode cX11_merge 307 = .ok (.ifCond .ne 32, 3) := by decide +kernel
theorem dX11_merge_310 : decode cX11_merge 310 = .ok (.aload_n 0, 1) := by decide +kernel
theorem dX11_merge_311 : decode cX11_merge 311 = .ok (.iload 7, 2) := by decide +kernel
theorem dX11_merge_313 : decode cX11_merge 313 = .ok (.iload 10, 2) := by decide +kernel
theorem dX11_merge_315 : decode cX11_merge 315 = .ok (.iload 6, 2) := by decide +kernel
theorem dX11_merge_317 : decode cX11_merge 317 = .ok (.invokevirtual 185, 3) := by decide +kernel
theorem dX11_merge_320 : decode cX11_merge 320 = .ok (.ifCond .ne 13, 3) := by decide +kernel
theorem dX11_merge_323 : decode cX11_merge 323 = .ok (.aload_n 0, 1) := by decide +kernel
theorem dX11_merge_324 : decode cX11_merge 324 = .ok (.iload 7, 2) := by decide +kernel
theorem dX11_merge_326 : decode cX11_merge 326 = .ok (.iload 10, 2) := by decide +kernel
theorem dX11_merge_328 : decode cX11_merge 328 = .ok (.iload 9, 2) := by decide +kernel
theorem dX11_merge_330 : decode cX11_merge 330 = .ok (.invokevirtual 189, 3) := by decide +kernel
theorem dX11_merge_333 : decode cX11_merge 333 = .ok (.iinc 10 1, 3) := by decide +kernel
theorem dX11_merge_336 : decode cX11_merge 336 = .ok (.goto (-43), 3) := by decide +kernel
theorem dX11_merge_339 : decode cX11_merge 339 = .ok (.aload_n 0, 1) := by decide +kernel
theorem dX11_merge_340 : decode cX11_merge 340 = .ok (.iload 9, 2) := by decide +kernel
theorem dX11_merge_342 : decode cX11_merge 342 = .ok (.iload 5, 2) := by decide +kernel
theorem dX11_merge_344 : decode cX11_merge 344 = .ok (.invokevirtual 169, 3) := by decide +kernel
theorem dX11_merge_347 : decode cX11_merge 347 = .ok (.ifCond .ne 6, 3) := by decide +kernel
theorem dX11_merge_350 : decode cX11_merge 350 = .ok (.bipush (-5), 2) := by decide +kernel
theorem dX11_merge_352 : decode cX11_merge 352 = .ok (.ireturn, 1) := by decide +kernel
theorem dX11_merge_353 : decode cX11_merge 353 = .ok (.aload_n 0, 1) := by decide +kernel
theorem dX11_merge_354 : decode cX11_merge 354 = .ok (.iload 9, 2) := by decide +kernel
theorem dX11_merge_356 : decode cX11_merge 356 = .ok (.iload 5, 2) := by decide +kernel
theorem dX11_merge_358 : decode cX11_merge 358 = .ok (.invokevirtual 172, 3) := by decide +kernel
theorem dX11_merge_361 : decode cX11_merge 361 = .ok (.aload_n 0, 1) := by decide +kernel
theorem dX11_merge_362 : decode cX11_merge 362 = .ok (.getfield 17, 3) := by decide +kernel
theorem dX11_merge_365 : decode cX11_merge 365 = .ok (.iload_n 3, 1) := by decide +kernel
theorem dX11_merge_366 : decode cX11_merge 366 = .ok (.iload 9, 2) := by decide +kernel
theorem dX11_merge_368 : decode cX11_merge 368 = .ok (.iconst 1, 1) := by decide +kernel
theorem dX11_merge_369 : decode cX11_merge 369 = .ok (.iadd, 1) := by decide +kernel
theorem dX11_merge_370 : decode cX11_merge 370 = .ok (.iastore, 1) := by decide +kernel
theorem dX11_merge_371 : decode cX11_merge 371 = .ok (.iload 8, 2) := by decide +kernel
theorem dX11_merge_373 : decode cX11_merge 373 = .ok (.ireturn, 1) := by decide +kernel
theorem dX11_isIn_0 : decode cX11_isIn 0 = .ok (.aload_n 0, 1) := by decide +kernel
theorem dX11_isIn_1 : decode cX11_isIn 1 = .ok (.iload_n 1, 1) := by decide +kernel
theorem dX11_isIn_2 : decode cX11_isIn 2 = .ok (.iload_n 2, 1) := by decide +kernel
theorem dX11_isIn_3 : decode cX11_isIn 3 = .ok (.invokevirtual 193, 3) := by decide +kernel
theorem dX11_isIn_6 : decode cX11_isIn 6 = .ok (.aload_n 0, 1) := by decide +kernel
theorem dX11_isIn_7 : decode cX11_isIn 7 = .ok (.iload_n 3, 1) := by decide +kernel
theorem dX11_isIn_8 : decode cX11_isIn 8 = .ok (.aload_n 0, 1) := by decide +kernel
theorem dX11_isIn_9 : decode cX11_isIn 9 = .ok (.iload_n 3, 1) := by decide +kernel
theorem dX11_isIn_10 : decode cX11_isIn 10 = .ok (.invokevirtual 130, 3) := by decide +kernel
theorem dX11_isIn_13 : decode cX11_isIn 13 = .ok (.invokevirtual 133, 3) := by decide +kernel
theorem dX11_isIn_16 : decode cX11_isIn 16 = .ok (.ireturn, 1) := by decide +kernel
theorem dX11_goes_0 : decode cX11_goes 0 = .ok (.iload 4, 2) := by decide +kernel
theorem dX11_goes_2 : decode cX11_goes 2 = .ok (.ifCond .eq 24, 3) := by decide +kernel
theorem dX11_goes_5 : decode cX11_goes 5 = .ok (.aload_n 0, 1) := by decide +kernel
theorem dX11_goes_6 : decode cX11_goes 6 = .ok (.iload_n 1, 1) := by decide +kernel
theorem dX11_goes_7 : decode cX11_goes 7 = .ok (.iload_n 2, 1) := by decide +kernel
theorem dX11_goes_8 : decode cX11_goes 8 = .ok (.iload_n 3, 1) := by decide +kernel
theorem dX11_goes_9 : decode cX11_goes 9 = .ok (.invokevirtual 185, 3) := by decide +kernel
theorem dX11_goes_12 : decode cX11_goes 12 = .ok (.iload 4, 2) := by decide +kernel
theorem dX11_goes_14 : decode cX11_goes 14 = .ok (.iconst 1, 1) := by decide +kernel
theorem dX11_goes_15 : decode cX11_goes 15 = .ok (.if_icmp .ne 7, 3) := by decide +kernel
theorem dX11_goes_18 : decode cX11_goes 18 = .ok (.iconst 1, 1) := by decide +kernel
theorem dX11_goes_19 : decode cX11_goes 19 = .ok (.goto 4, 3) := by decide +kernel
theorem dX11_goes_22 : decode cX11_goes 22 = .ok (.iconst 0, 1) := by decide +kernel
theorem dX11_goes_23 : decode cX11_goes 23 = .ok (.if_icmp .ne 7, 3) := by decide +kernel
theorem dX11_goes_26 : decode cX11_goes 26 = .ok (.iconst 1, 1) := by decide +kernel
theorem dX11_goes_27 : decode cX11_goes 27 = .ok (.goto 4, 3) := by decide +kernel
theorem dX11_goes_30 : decode cX11_goes 30 = .ok (.iconst 0, 1) := by decide +kernel
theorem dX11_goes_31 : decode cX11_goes 31 = .ok (.ireturn, 1) := by decide +kernel
theorem dX11_take_0 : decode cX11_take 0 = .ok (.aload_n 0, 1) := by decide +kernel
theorem dX11_take_1 : decode cX11_take 1 = .ok (.iload_n 1, 1) := by decide +kernel
theorem dX11_take_2 : decode cX11_take 2 = .ok (.iload_n 2, 1) := by decide +kernel
theorem dX11_take_3 : decode cX11_take 3 = .ok (.invokevirtual 193, 3) := by decide +kernel
theorem dX11_take_6 : decode cX11_take 6 = .ok (.aload_n 0, 1) := by decide +kernel
theorem dX11_take_7 : decode cX11_take 7 = .ok (.iload_n 3, 1) := by decide +kernel
theorem dX11_take_8 : decode cX11_take 8 = .ok (.aload_n 0, 1) := by decide +kernel
theorem dX11_take_9 : decode cX11_take 9 = .ok (.iload_n 3, 1) := by decide +kernel
theorem dX11_take_10 : decode cX11_take 10 = .ok (.invokevirtual 130, 3) := by decide +kernel
theorem dX11_take_13 : decode cX11_take 13 = .ok (.aload_n 0, 1) := by decide +kernel
theorem dX11_take_14 : decode cX11_take 14 = .ok (.getfield 52, 3) := by decide +kernel
theorem dX11_take_17 : decode cX11_take 17 = .ok (.bipush 100, 2) := by decide +kernel
theorem dX11_take_19 : decode cX11_take 19 = .ok (.iload_n 1, 1) := by decide +kernel
theorem dX11_take_20 : decode cX11_take 20 = .ok (.imul, 1) := by decide +kernel
theorem dX11_take_21 : decode cX11_take 21 = .ok (.iload_n 2, 1) := by decide +kernel
theorem dX11_take_22 : decode cX11_take 22 = .ok (.iadd, 1) := by decide +kernel
theorem dX11_take_23 : decode cX11_take 23 = .ok (.laload, 1) := by decide +kernel
theorem dX11_take_24 : decode cX11_take 24 = .ok (.invokevirtual 137, 3) := by decide +kernel
theorem dX11_take_27 : decode cX11_take 27 = .ok (.return_, 1) := by decide +kernel
theorem dX11_count_0 : decode cX11_count 0 = .ok (.aload_n 0, 1) := by decide +kernel
theorem dX11_count_1 : decode cX11_count 1 = .ok (.iload_n 1, 1) := by decide +kernel
theorem dX11_count_2 : decode cX11_count 2 = .ok (.invokevirtual 97, 3) := by decide +kernel
theorem dX11_count_5 : decode cX11_count 5 = .ok (.ifCond .ne 6, 3) := by decide +kernel
theorem dX11_count_8 : decode cX11_count 8 = .ok (.bipush (-2), 2) := by decide +kernel
theorem dX11_count_10 : decode cX11_count 10 = .ok (.ireturn, 1) := by decide +kernel
theorem dX11_count_11 : decode cX11_count 11 = .ok (.aload_n 0, 1) := by decide +kernel
theorem dX11_count_12 : decode cX11_count 12 = .ok (.getfield 17, 3) := by decide +kernel
theorem dX11_count_15 : decode cX11_count 15 = .ok (.iload_n 1, 1) := by decide +kernel
theorem dX11_count_16 : decode cX11_count 16 = .ok (.iaload, 1) := by decide +kernel
theorem dX11_count_17 : decode cX11_count 17 = .ok (.ifCond .ne 6, 3) := by decide +kernel
theorem dX11_count_20 : decode cX11_count 20 = .ok (.bipush (-3), 2) := by decide +kernel
theorem dX11_count_22 : decode cX11_count 22 = .ok (.ireturn, 1) := by decide +kernel
theorem dX11_count_23 : decode cX11_count 23 = .ok (.aload_n 0, 1) := by decide +kernel
theorem dX11_count_24 : decode cX11_count 24 = .ok (.getfield 20, 3) := by decide +kernel
theorem dX11_count_27 : decode cX11_count 27 = .ok (.aload_n 0, 1) := by decide +kernel
theorem dX11_count_28 : decode cX11_count 28 = .ok (.iload_n 1, 1) := by decide +kernel
theorem dX11_count_29 : decode cX11_count 29 = .ok (.invokevirtual 108, 3) := by decide +kernel
theorem dX11_count_32 : decode cX11_count 32 = .ok (.iaload, 1) := by decide +kernel
theorem dX11_count_33 : decode cX11_count 33 = .ok (.bipush 7, 2) := by decide +kernel
theorem dX11_count_35 : decode cX11_count 35 = .ok (.if_icmp .ne 16, 3) := by decide +kernel
theorem dX11_count_38 : decode cX11_count 38 = .ok (.aload_n 0, 1) := by decide +kernel
theorem dX11_count_39 : decode cX11_count 39 = .ok (.getfield 26, 3) := by decide +kernel
theorem dX11_count_42 : decode cX11_count 42 = .ok (.aload_n 0, 1) := by decide +kernel
theorem dX11_count_43 : decode cX11_count 43 = .ok (.iload_n 1, 1) := by decide +kernel
theorem dX11_count_44 : decode cX11_count 44 = .ok (.invokevirtual 108, 3) := by decide +kernel
theorem dX11_count_47 : decode cX11_count 47 = .ok (.iaload, 1) := by decide +kernel
theorem dX11_count_48 : decode cX11_count 48 = .ok (.goto 13, 3) := by decide +kernel
