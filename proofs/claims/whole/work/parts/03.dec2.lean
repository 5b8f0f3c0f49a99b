theorem dX11_count_51 : decode cX11_count 51 = .ok (.aload_n 0, 1) := by decide +kernel
theorem dX11_count_52 : decode cX11_count 52 = .ok (.getfield 23, 3) := by decide +kernel
theorem dX11_count_55 : decode cX11_count 55 = .ok (.aload_n 0, 1) := by decide +kernel
theorem dX11_count_56 : decode cX11_count 56 = .ok (.iload_n 1, 1) := by decide +kernel
theorem dX11_count_57 : decode cX11_count 57 = .ok (.invokevirtual 108, 3) := by decide +kernel
theorem dX11_count_60 : decode cX11_count 60 = .ok (.iaload, 1) := by decide +kernel
theorem dX11_count_61 : decode cX11_count 61 = .ok (.ireturn, 1) := by decide +kernel
theorem dX11_asked_0 : decode cX11_asked 0 = .ok (.aload_n 0, 1) := by decide +kernel
theorem dX11_asked_1 : decode cX11_asked 1 = .ok (.iload_n 1, 1) := by decide +kernel
theorem dX11_asked_2 : decode cX11_asked 2 = .ok (.invokevirtual 175, 3) := by decide +kernel
theorem dX11_asked_5 : decode cX11_asked 5 = .ok (.istore_n 2, 1) := by decide +kernel
theorem dX11_asked_6 : decode cX11_asked 6 = .ok (.iload_n 2, 1) := by decide +kernel
theorem dX11_asked_7 : decode cX11_asked 7 = .ok (.ifCond .ge 5, 3) := by decide +kernel
theorem dX11_asked_10 : decode cX11_asked 10 = .ok (.iload_n 2, 1) := by decide +kernel
theorem dX11_asked_11 : decode cX11_asked 11 = .ok (.ireturn, 1) := by decide +kernel
theorem dX11_asked_12 : decode cX11_asked 12 = .ok (.aload_n 0, 1) := by decide +kernel
theorem dX11_asked_13 : decode cX11_asked 13 = .ok (.invokevirtual 126, 3) := by decide +kernel
theorem dX11_asked_16 : decode cX11_asked 16 = .ok (.ifCond .ne 6, 3) := by decide +kernel
theorem dX11_asked_19 : decode cX11_asked 19 = .ok (.bipush (-5), 2) := by decide +kernel
theorem dX11_asked_21 : decode cX11_asked 21 = .ok (.ireturn, 1) := by decide +kernel
theorem dX11_asked_22 : decode cX11_asked 22 = .ok (.aload_n 0, 1) := by decide +kernel
theorem dX11_asked_23 : decode cX11_asked 23 = .ok (.aload_n 0, 1) := by decide +kernel
theorem dX11_asked_24 : decode cX11_asked 24 = .ok (.iload_n 1, 1) := by decide +kernel
theorem dX11_asked_25 : decode cX11_asked 25 = .ok (.invokevirtual 108, 3) := by decide +kernel
theorem dX11_asked_28 : decode cX11_asked 28 = .ok (.invokevirtual 178, 3) := by decide +kernel
theorem dX11_asked_31 : decode cX11_asked 31 = .ok (.ifCond .eq 8, 3) := by decide +kernel
theorem dX11_asked_34 : decode cX11_asked 34 = .ok (.bipush (-6), 2) := by decide +kernel
theorem dX11_asked_36 : decode cX11_asked 36 = .ok (.goto 4, 3) := by decide +kernel
theorem dX11_asked_39 : decode cX11_asked 39 = .ok (.iconst 0, 1) := by decide +kernel
theorem dX11_asked_40 : decode cX11_asked 40 = .ok (.ireturn, 1) := by decide +kernel
theorem dX11_number_0 : decode cX11_number 0 = .ok (.aload_n 0, 1) := by decide +kernel
theorem dX11_number_1 : decode cX11_number 1 = .ok (.iload_n 1, 1) := by decide +kernel
theorem dX11_number_2 : decode cX11_number 2 = .ok (.invokevirtual 196, 3) := by decide +kernel
theorem dX11_number_5 : decode cX11_number 5 = .ok (.istore_n 2, 1) := by decide +kernel
theorem dX11_number_6 : decode cX11_number 6 = .ok (.iload_n 2, 1) := by decide +kernel
theorem dX11_number_7 : decode cX11_number 7 = .ok (.ifCond .ge 5, 3) := by decide +kernel
theorem dX11_number_10 : decode cX11_number 10 = .ok (.iload_n 2, 1) := by decide +kernel
theorem dX11_number_11 : decode cX11_number 11 = .ok (.ireturn, 1) := by decide +kernel
theorem dX11_number_12 : decode cX11_number 12 = .ok (.aload_n 0, 1) := by decide +kernel
theorem dX11_number_13 : decode cX11_number 13 = .ok (.aload_n 0, 1) := by decide +kernel
theorem dX11_number_14 : decode cX11_number 14 = .ok (.iload_n 1, 1) := by decide +kernel
theorem dX11_number_15 : decode cX11_number 15 = .ok (.invokevirtual 108, 3) := by decide +kernel
theorem dX11_number_18 : decode cX11_number 18 = .ok (.invokevirtual 130, 3) := by decide +kernel
theorem dX11_number_21 : decode cX11_number 21 = .ok (.istore_n 3, 1) := by decide +kernel
theorem dX11_number_22 : decode cX11_number 22 = .ok (.aload_n 0, 1) := by decide +kernel
theorem dX11_number_23 : decode cX11_number 23 = .ok (.aload_n 0, 1) := by decide +kernel
theorem dX11_number_24 : decode cX11_number 24 = .ok (.iload_n 1, 1) := by decide +kernel
theorem dX11_number_25 : decode cX11_number 25 = .ok (.invokevirtual 108, 3) := by decide +kernel
theorem dX11_number_28 : decode cX11_number 28 = .ok (.iload_n 3, 1) := by decide +kernel
theorem dX11_number_29 : decode cX11_number 29 = .ok (.invokevirtual 133, 3) := by decide +kernel
theorem dX11_number_32 : decode cX11_number 32 = .ok (.ifCond .eq 7, 3) := by decide +kernel
theorem dX11_number_35 : decode cX11_number 35 = .ok (.iload_n 3, 1) := by decide +kernel
theorem dX11_number_36 : decode cX11_number 36 = .ok (.goto 4, 3) := by decide +kernel
theorem dX11_number_39 : decode cX11_number 39 = .ok (.iconst (-1), 1) := by decide +kernel
theorem dX11_number_40 : decode cX11_number 40 = .ok (.ireturn, 1) := by decide +kernel
theorem dX11_isName_0 : decode cX11_isName 0 = .ok (.iload_n 2, 1) := by decide +kernel
theorem dX11_isName_1 : decode cX11_isName 1 = .ok (.ifCond .lt 17, 3) := by decide +kernel
theorem dX11_isName_4 : decode cX11_isName 4 = .ok (.iload_n 2, 1) := by decide +kernel
theorem dX11_isName_5 : decode cX11_isName 5 = .ok (.aload_n 0, 1) := by decide +kernel
theorem dX11_isName_6 : decode cX11_isName 6 = .ok (.getfield 23, 3) := by decide +kernel
theorem dX11_isName_9 : decode cX11_isName 9 = .ok (.iload_n 1, 1) := by decide +kernel
theorem dX11_isName_10 : decode cX11_isName 10 = .ok (.iaload, 1) := by decide +kernel
theorem dX11_isName_11 : decode cX11_isName 11 = .ok (.if_icmp .ge 7, 3) := by decide +kernel
theorem dX11_isName_14 : decode cX11_isName 14 = .ok (.iconst 1, 1) := by decide +kernel
theorem dX11_isName_15 : decode cX11_isName 15 = .ok (.goto 4, 3) := by decide +kernel
theorem dX11_isName_18 : decode cX11_isName 18 = .ok (.iconst 0, 1) := by decide +kernel
theorem dX11_isName_19 : decode cX11_isName 19 = .ok (.ireturn, 1) := by decide +kernel
theorem dX11_name_0 : decode cX11_name 0 = .ok (.aload_n 0, 1) := by decide +kernel
theorem dX11_name_1 : decode cX11_name 1 = .ok (.iload_n 1, 1) := by decide +kernel
theorem dX11_name_2 : decode cX11_name 2 = .ok (.invokevirtual 175, 3) := by decide +kernel
theorem dX11_name_5 : decode cX11_name 5 = .ok (.istore_n 3, 1) := by decide +kernel
theorem dX11_name_6 : decode cX11_name 6 = .ok (.iload_n 3, 1) := by decide +kernel
theorem dX11_name_7 : decode cX11_name 7 = .ok (.ifCond .ge 5, 3) := by decide +kernel
theorem dX11_name_10 : decode cX11_name 10 = .ok (.iload_n 3, 1) := by decide +kernel
theorem dX11_name_11 : decode cX11_name 11 = .ok (.ireturn, 1) := by decide +kernel
theorem dX11_name_12 : decode cX11_name 12 = .ok (.aload_n 0, 1) := by decide +kernel
theorem dX11_name_13 : decode cX11_name 13 = .ok (.iload_n 1, 1) := by decide +kernel
theorem dX11_name_14 : decode cX11_name 14 = .ok (.invokevirtual 108, 3) := by decide +kernel
theorem dX11_name_17 : decode cX11_name 17 = .ok (.istore 4, 2) := by decide +kernel
theorem dX11_name_19 : decode cX11_name 19 = .ok (.aload_n 0, 1) := by decide +kernel
theorem dX11_name_20 : decode cX11_name 20 = .ok (.iload 4, 2) := by decide +kernel
theorem dX11_name_22 : decode cX11_name 22 = .ok (.iload_n 2, 1) := by decide +kernel
theorem dX11_name_23 : decode cX11_name 23 = .ok (.invokevirtual 199, 3) := by decide +kernel
theorem dX11_name_26 : decode cX11_name 26 = .ok (.ifCond .ne 6, 3) := by decide +kernel
theorem dX11_name_29 : decode cX11_name 29 = .ok (.bipush (-5), 2) := by decide +kernel
theorem dX11_name_31 : decode cX11_name 31 = .ok (.ireturn, 1) := by decide +kernel
theorem dX11_name_32 : decode cX11_name 32 = .ok (.aload_n 0, 1) := by decide +kernel
theorem dX11_name_33 : decode cX11_name 33 = .ok (.iload 4, 2) := by decide +kernel
theorem dX11_name_35 : decode cX11_name 35 = .ok (.invokevirtual 178, 3) := by decide +kernel
theorem dX11_name_38 : decode cX11_name 38 = .ok (.ifCond .eq 6, 3) := by decide +kernel
theorem dX11_name_41 : decode cX11_name 41 = .ok (.bipush (-6), 2) := by decide +kernel
theorem dX11_name_43 : decode cX11_name 43 = .ok (.ireturn, 1) := by decide +kernel
theorem dX11_name_44 : decode cX11_name 44 = .ok (.aload_n 0, 1) := by decide +kernel
theorem dX11_name_45 : decode cX11_name 45 = .ok (.aload_n 0, 1) := by decide +kernel
theorem dX11_name_46 : decode cX11_name 46 = .ok (.getfield 46, 3) := by decide +kernel
theorem dX11_name_49 : decode cX11_name 49 = .ok (.bipush 100, 2) := by decide +kernel
theorem dX11_name_51 : decode cX11_name 51 = .ok (.iload 4, 2) := by decide +kernel
theorem dX11_name_53 : decode cX11_name 53 = .ok (.imul, 1) := by decide +kernel
theorem dX11_name_54 : decode cX11_name 54 = .ok (.iload_n 2, 1) := by decide +kernel
theorem dX11_name_55 : decode cX11_name 55 = .ok (.iadd, 1) := by decide +kernel
theorem dX11_name_56 : decode cX11_name 56 = .ok (.iaload, 1) := by decide +kernel
theorem dX11_name_57 : decode cX11_name 57 = .ok (.putfield 13, 3) := by decide +kernel
theorem dX11_name_60 : decode cX11_name 60 = .ok (.iconst 0, 1) := by decide +kernel
theorem dX11_name_61 : decode cX11_name 61 = .ok (.istore 5, 2) := by decide +kernel
theorem dX11_name_63 : decode cX11_name 63 = .ok (.iload 5, 2) := by decide +kernel
theorem dX11_name_65 : decode cX11_name 65 = .ok (.aload_n 0, 1) := by decide +kernel
theorem dX11_name_66 : decode cX11_name 66 = .ok (.getfield 13, 3) := by decide +kernel
theorem dX11_name_69 : decode cX11_name 69 = .ok (.if_icmp .ge 25, 3) := by decide +kernel
theorem dX11_name_72 : decode cX11_name 72 = .ok (.aload_n 0, 1) := by decide +kernel
theorem dX11_name_73 : decode cX11_name 73 = .ok (.getfield 7, 3) := by decide +kernel
theorem dX11_name_76 : decode cX11_name 76 = .ok (.iload 5, 2) := by decide +kernel
theorem dX11_name_78 : decode cX11_name 78 = .ok (.aload_n 0, 1) := by decide +kernel
theorem dX11_name_79 : decode cX11_name 79 = .ok (.iload 4, 2) := by decide +kernel
theorem dX11_name_81 : decode cX11_name 81 = .ok (.iload_n 2, 1) := by decide +kernel
theorem dX11_name_82 : decode cX11_name 82 = .ok (.iload 5, 2) := by decide +kernel
theorem dX11_name_84 : decode cX11_name 84 = .ok (.invokevirtual 111, 3) := by decide +kernel
theorem dX11_name_87 : decode cX11_name 87 = .ok (.iastore, 1) := by decide +kernel
theorem dX11_name_88 : decode cX11_name 88 = .ok (.iinc 5 1, 3) := by decide +kernel
theorem dX11_name_91 : decode cX11_name 91 = .ok (.goto (-28), 3) := by decide +kernel
theorem dX11_name_94 : decode cX11_name 94 = .ok (.aload_n 0, 1) := by decide +kernel
theorem dX11_name_95 : decode cX11_name 95 = .ok (.getfield 13, 3) := by decide +kernel
theorem dX11_name_98 : decode cX11_name 98 = .ok (.ireturn, 1) := by decide +kernel
theorem dX11_value_0 : decode cX11_value 0 = .ok (.aload_n 0, 1) := by decide +kernel
theorem dX11_value_1 : decode cX11_value 1 = .ok (.aload_n 0, 1) := by decide +kernel
theorem dX11_value_2 : decode cX11_value 2 = .ok (.iload_n 1, 1) := by decide +kernel
theorem dX11_value_3 : decode cX11_value 3 = .ok (.invokevirtual 175, 3) := by decide +kernel
theorem dX11_value_6 : decode cX11_value 6 = .ok (.putfield 80, 3) := by decide +kernel
theorem dX11_value_9 : decode cX11_value 9 = .ok (.aload_n 0, 1) := by decide +kernel
theorem dX11_value_10 : decode cX11_value 10 = .ok (.getfield 80, 3) := by decide +kernel
theorem dX11_value_13 : decode cX11_value 13 = .ok (.ifCond .ne 22, 3) := by decide +kernel
theorem dX11_value_16 : decode cX11_value 16 = .ok (.aload_n 0, 1) := by decide +kernel
theorem dX11_value_17 : decode cX11_value 17 = .ok (.aload_n 0, 1) := by decide +kernel
theorem dX11_value_18 : decode cX11_value 18 = .ok (.iload_n 1, 1) := by decide +kernel
theorem dX11_value_19 : decode cX11_value 19 = .ok (.invokevirtual 108, 3) := by decide +kernel
theorem dX11_value_22 : decode cX11_value 22 = .ok (.iload_n 2, 1) := by decide +kernel
theorem dX11_value_23 : decode cX11_value 23 = .ok (.invokevirtual 199, 3) := by decide +kernel
theorem dX11_value_26 : decode cX11_value 26 = .ok (.ifCond .ne 9, 3) := by decide +kernel
theorem dX11_value_29 : decode cX11_value 29 = .ok (.aload_n 0, 1) := by decide +kernel
theorem dX11_value_30 : decode cX11_value 30 = .ok (.bipush (-5), 2) := by decide +kernel
theorem dX11_value_32 : decode cX11_value 32 = .ok (.putfield 80, 3) := by decide +kernel
theorem dX11_value_35 : decode cX11_value 35 = .ok (.aload_n 0, 1) := by decide +kernel
theorem dX11_value_36 : decode cX11_value 36 = .ok (.getfield 80, 3) := by decide +kernel
theorem dX11_value_39 : decode cX11_value 39 = .ok (.ifCond .ge 7, 3) := by decide +kernel
theorem dX11_value_42 : decode cX11_value 42 = .ok (.lconst 0, 1) := by decide +kernel
theorem dX11_value_43 : decode cX11_value 43 = .ok (.goto 18, 3) := by decide +kernel
theorem dX11_value_46 : decode cX11_value 46 = .ok (.aload_n 0, 1) := by decide +kernel
theorem dX11_value_47 : decode cX11_value 47 = .ok (.getfield 52, 3) := by decide +kernel
theorem dX11_value_50 : decode cX11_value 50 = .ok (.bipush 100, 2) := by decide +kernel
theorem dX11_value_52 : decode cX11_value 52 = .ok (.aload_n 0, 1) := by decide +kernel
theorem dX11_value_53 : decode cX11_value 53 = .ok (.iload_n 1, 1) := by decide +kernel
theorem dX11_value_54 : decode cX11_value 54 = .ok (.invokevirtual 108, 3) := by decide +kernel
theorem dX11_value_57 : decode cX11_value 57 = .ok (.imul, 1) := by decide +kernel
theorem dX11_value_58 : decode cX11_value 58 = .ok (.iload_n 2, 1) := by decide +kernel
theorem dX11_value_59 : decode cX11_value 59 = .ok (.iadd, 1) := by decide +kernel
theorem dX11_value_60 : decode cX11_value 60 = .ok (.laload, 1) := by decide +kernel
theorem dX11_value_61 : decode cX11_value 61 = .ok (.lreturn, 1) := by decide +kernel
theorem dX11_status_0 : decode cX11_status 0 = .ok (.aload_n 0, 1) := by decide +kernel
theorem dX11_status_1 : decode cX11_status 1 = .ok (.getfield 80, 3) := by decide +kernel
theorem dX11_status_4 : decode cX11_status 4 = .ok (.ireturn, 1) := by decide +kernel
theorem dX11_below_0 : decode cX11_below 0 = .ok (.aload_n 0, 1) := by decide +kernel
theorem dX11_below_1 : decode cX11_below 1 = .ok (.iload_n 1, 1) := by decide +kernel
theorem dX11_below_2 : decode cX11_below 2 = .ok (.invokevirtual 196, 3) := by decide +kernel
theorem dX11_below_5 : decode cX11_below 5 = .ok (.istore_n 2, 1) := by decide +kernel
theorem dX11_below_6 : decode cX11_below 6 = .ok (.iload_n 2, 1) := by decide +kernel
theorem dX11_below_7 : decode cX11_below 7 = .ok (.ifCond .ge 7, 3) := by decide +kernel
theorem dX11_below_10 : decode cX11_below 10 = .ok (.iload_n 2, 1) := by decide +kernel
theorem dX11_below_11 : decode cX11_below 11 = .ok (.goto 12, 3) := by decide +kernel
theorem dX11_below_14 : decode cX11_below 14 = .ok (.aload_n 0, 1) := by decide +kernel
theorem dX11_below_15 : decode cX11_below 15 = .ok (.aload_n 0, 1) := by decide +kernel
theorem dX11_below_16 : decode cX11_below 16 = .ok (.iload_n 1, 1) := by decide +kernel
theorem dX11_below_17 : decode cX11_below 17 = .ok (.invokevirtual 108, 3) := by decide +kernel
theorem dX11_below_20 : decode cX11_below 20 = .ok (.invokevirtual 130, 3) := by decide +kernel
theorem dX11_below_23 : decode cX11_below 23 = .ok (.ireturn, 1) := by decide +kernel
theorem dX11_next_0 : decode cX11_next 0 = .ok (.aload_n 0, 1) := by decide +kernel
theorem dX11_next_1 : decode cX11_next 1 = .ok (.iload_n 1, 1) := by decide +kernel
theorem dX11_next_2 : decode cX11_next 2 = .ok (.invokevirtual 196, 3) := by decide +kernel
theorem dX11_next_5 : decode cX11_next 5 = .ok (.istore_n 2, 1) := by decide +kernel
theorem dX11_next_6 : decode cX11_next 6 = .ok (.iload_n 2, 1) := by decide +kernel
theorem dX11_next_7 : decode cX11_next 7 = .ok (.ifCond .ge 5, 3) := by decide +kernel
theorem dX11_next_10 : decode cX11_next 10 = .ok (.iload_n 2, 1) := by decide +kernel
theorem dX11_next_11 : decode cX11_next 11 = .ok (.ireturn, 1) := by decide +kernel
theorem dX11_next_12 : decode cX11_next 12 = .ok (.aload_n 0, 1) := by decide +kernel
theorem dX11_next_13 : decode cX11_next 13 = .ok (.iload_n 1, 1) := by decide +kernel
theorem dX11_next_14 : decode cX11_next 14 = .ok (.invokevirtual 108, 3) := by decide +kernel
theorem dX11_next_17 : decode cX11_next 17 = .ok (.istore_n 3, 1) := by decide +kernel
theorem dX11_next_18 : decode cX11_next 18 = .ok (.aload_n 0, 1) := by decide +kernel
theorem dX11_next_19 : decode cX11_next 19 = .ok (.iload_n 3, 1) := by decide +kernel
theorem dX11_next_20 : decode cX11_next 20 = .ok (.invokevirtual 130, 3) := by decide +kernel
theorem dX11_next_23 : decode cX11_next 23 = .ok (.istore 4, 2) := by decide +kernel
theorem dX11_next_25 : decode cX11_next 25 = .ok (.iload 4, 2) := by decide +kernel
theorem dX11_next_27 : decode cX11_next 27 = .ok (.aload_n 0, 1) := by decide +kernel
theorem dX11_next_28 : decode cX11_next 28 = .ok (.iload_n 3, 1) := by decide +kernel
theorem dX11_next_29 : decode cX11_next 29 = .ok (.iload 4, 2) := by decide +kernel
theorem dX11_next_31 : decode cX11_next 31 = .ok (.invokevirtual 133, 3) := by decide +kernel
theorem dX11_next_34 : decode cX11_next 34 = .ok (.ifCond .eq 7, 3) := by decide +kernel
theorem dX11_next_37 : decode cX11_next 37 = .ok (.iconst 1, 1) := by decide +kernel
theorem dX11_next_38 : decode cX11_next 38 = .ok (.goto 4, 3) := by decide +kernel
theorem dX11_next_41 : decode cX11_next 41 = .ok (.iconst 0, 1) := by decide +kernel
theorem dX11_next_42 : decode cX11_next 42 = .ok (.iadd, 1) := by decide +kernel
theorem dX11_next_43 : decode cX11_next 43 = .ok (.istore 4, 2) := by decide +kernel
theorem dX11_next_45 : decode cX11_next 45 = .ok (.iload 4, 2) := by decide +kernel
theorem dX11_next_47 : decode cX11_next 47 = .ok (.aload_n 0, 1) := by decide +kernel
theorem dX11_next_48 : decode cX11_next 48 = .ok (.getfield 23, 3) := by decide +kernel
theorem dX11_next_51 : decode cX11_next 51 = .ok (.iload_n 3, 1) := by decide +kernel
theorem dX11_next_52 : decode cX11_next 52 = .ok (.iaload, 1) := by decide +kernel
theorem dX11_next_53 : decode cX11_next 53 = .ok (.if_icmp .ge 8, 3) := by decide +kernel
theorem dX11_next_56 : decode cX11_next 56 = .ok (.iload 4, 2) := by decide +kernel
theorem dX11_next_58 : decode cX11_next 58 = .ok (.goto 4, 3) := by decide +kernel
theorem dX11_next_61 : decode cX11_next 61 = .ok (.iconst (-1), 1) := by decide +kernel
theorem dX11_next_62 : decode cX11_next 62 = .ok (.ireturn, 1) := by decide +kernel
theorem dX11_prior_0 : decode cX11_prior 0 = .ok (.aload_n 0, 1) := by decide +kernel
theorem dX11_prior_1 : decode cX11_prior 1 = .ok (.iload_n 1, 1) := by decide +kernel
theorem dX11_prior_2 : decode cX11_prior 2 = .ok (.invokevirtual 196, 3) := by decide +kernel
theorem dX11_prior_5 : decode cX11_prior 5 = .ok (.istore_n 2, 1) := by decide +kernel
theorem dX11_prior_6 : decode cX11_prior 6 = .ok (.iload_n 2, 1) := by decide +kernel
theorem dX11_prior_7 : decode cX11_prior 7 = .ok (.ifCond .ge 7, 3) := by decide +kernel
theorem dX11_prior_10 : decode cX11_prior 10 = .ok (.iload_n 2, 1) := by decide +kernel
theorem dX11_prior_11 : decode cX11_prior 11 = .ok (.goto 14, 3) := by decide +kernel
theorem dX11_prior_14 : decode cX11_prior 14 = .ok (.aload_n 0, 1) := by decide +kernel
theorem dX11_prior_15 : decode cX11_prior 15 = .ok (.aload_n 0, 1) := by decide +kernel
theorem dX11_prior_16 : decode cX11_prior 16 = .ok (.iload_n 1, 1) := by decide +kernel
theorem dX11_prior_17 : decode cX11_prior 17 = .ok (.invokevirtual 108, 3) := by decide +kernel
theorem dX11_prior_20 : decode cX11_prior 20 = .ok (.invokevirtual 130, 3) := by decide +kernel
theorem dX11_prior_23 : decode cX11_prior 23 = .ok (.iconst 1, 1) := by decide +kernel
theorem dX11_prior_24 : decode cX11_prior 24 = .ok (.isub, 1) := by decide +kernel
theorem dX11_prior_25 : decode cX11_prior 25 = .ok (.ireturn, 1) := by decide +kernel
theorem dX11_prefix_0 : decode cX11_prefix 0 = .ok (.aload_n 0, 1) := by decide +kernel
theorem dX11_prefix_1 : decode cX11_prefix 1 = .ok (.iload_n 1, 1) := by decide +kernel
theorem dX11_prefix_2 : decode cX11_prefix 2 = .ok (.invokevirtual 196, 3) := by decide +kernel
theorem dX11_prefix_5 : decode cX11_prefix 5 = .ok (.istore_n 3, 1) := by decide +kernel
theorem dX11_prefix_6 : decode cX11_prefix 6 = .ok (.iload_n 3, 1) := by decide +kernel
theorem dX11_prefix_7 : decode cX11_prefix 7 = .ok (.ifCond .ge 5, 3) := by decide +kernel
theorem dX11_prefix_10 : decode cX11_prefix 10 = .ok (.iload_n 3, 1) := by decide +kernel
theorem dX11_prefix_11 : decode cX11_prefix 11 = .ok (.ireturn, 1) := by decide +kernel
theorem dX11_prefix_12 : decode cX11_prefix 12 = .ok (.aload_n 0, 1) := by decide +kernel
theorem dX11_prefix_13 : decode cX11_prefix 13 = .ok (.iload_n 1, 1) := by decide +kernel
theorem dX11_prefix_14 : decode cX11_prefix 14 = .ok (.invokevirtual 108, 3) := by decide +kernel
theorem dX11_prefix_17 : decode cX11_prefix 17 = .ok (.istore 4, 2) := by decide +kernel
theorem dX11_prefix_19 : decode cX11_prefix 19 = .ok (.aload_n 0, 1) := by decide +kernel
theorem dX11_prefix_20 : decode cX11_prefix 20 = .ok (.iload 4, 2) := by decide +kernel
theorem dX11_prefix_22 : decode cX11_prefix 22 = .ok (.invokevirtual 130, 3) := by decide +kernel
theorem dX11_prefix_25 : decode cX11_prefix 25 = .ok (.istore 5, 2) := by decide +kernel
theorem dX11_prefix_27 : decode cX11_prefix 27 = .ok (.iload 5, 2) := by decide +kernel
theorem dX11_prefix_29 : decode cX11_prefix 29 = .ok (.istore 6, 2) := by decide +kernel
theorem dX11_prefix_31 : decode cX11_prefix 31 = .ok (.iload 6, 2) := by decide +kernel
theorem dX11_prefix_33 : decode cX11_prefix 33 = .ok (.aload_n 0, 1) := by decide +kernel
theorem dX11_prefix_34 : decode cX11_prefix 34 = .ok (.getfield 23, 3) := by decide +kernel
theorem dX11_prefix_37 : decode cX11_prefix 37 = .ok (.iload 4, 2) := by decide +kernel
theorem dX11_prefix_39 : decode cX11_prefix 39 = .ok (.iaload, 1) := by decide +kernel
theorem dX11_prefix_40 : decode cX11_prefix 40 = .ok (.if_icmp .ge 24, 3) := by decide +kernel
theorem dX11_prefix_43 : decode cX11_prefix 43 = .ok (.aload_n 0, 1) := by decide +kernel
theorem dX11_prefix_44 : decode cX11_prefix 44 = .ok (.iload 4, 2) := by decide +kernel
theorem dX11_prefix_46 : decode cX11_prefix 46 = .ok (.iload 6, 2) := by decide +kernel
theorem dX11_prefix_48 : decode cX11_prefix 48 = .ok (.invokevirtual 202, 3) := by decide +kernel
theorem dX11_prefix_51 : decode cX11_prefix 51 = .ok (.aload_n 0, 1) := by decide +kernel
theorem dX11_prefix_52 : decode cX11_prefix 52 = .ok (.getfield 59, 3) := by decide +kernel
theorem dX11_prefix_55 : decode cX11_prefix 55 = .ok (.if_icmp .ne 9, 3) := by decide +kernel
theorem dX11_prefix_58 : decode cX11_prefix 58 = .ok (.iinc 6 1, 3) := by decide +kernel
theorem dX11_prefix_61 : decode cX11_prefix 61 = .ok (.goto (-30), 3) := by decide +kernel
theorem dX11_prefix_64 : decode cX11_prefix 64 = .ok (.iload 6, 2) := by decide +kernel
theorem dX11_prefix_66 : decode cX11_prefix 66 = .ok (.iload 5, 2) := by decide +kernel
theorem dX11_prefix_68 : decode cX11_prefix 68 = .ok (.if_icmp .ne 9, 3) := by decide +kernel
theorem dX11_prefix_71 : decode cX11_prefix 71 = .ok (.bipush (-10), 2) := by decide +kernel
theorem dX11_prefix_73 : decode cX11_prefix 73 = .ok (.iload 5, 2) := by decide +kernel
theorem dX11_prefix_75 : decode cX11_prefix 75 = .ok (.isub, 1) := by decide +kernel
theorem dX11_prefix_76 : decode cX11_prefix 76 = .ok (.ireturn, 1) := by decide +kernel
theorem dX11_prefix_77 : decode cX11_prefix 77 = .ok (.iload_n 2, 1) := by decide +kernel
theorem dX11_prefix_78 : decode cX11_prefix 78 = .ok (.ifCond .eq 10, 3) := by decide +kernel
theorem dX11_prefix_81 : decode cX11_prefix 81 = .ok (.iload 6, 2) := by decide +kernel
theorem dX11_prefix_83 : decode cX11_prefix 83 = .ok (.iconst 1, 1) := by decide +kernel
theorem dX11_prefix_84 : decode cX11_prefix 84 = .ok (.isub, 1) := by decide +kernel
theorem dX11_prefix_85 : decode cX11_prefix 85 = .ok (.goto 5, 3) := by decide +kernel
theorem dX11_prefix_88 : decode cX11_prefix 88 = .ok (.iload 5, 2) := by decide +kernel
theorem dX11_prefix_90 : decode cX11_prefix 90 = .ok (.ireturn, 1) := by decide +kernel
theorem dX11_longest_0 : decode cX11_longest 0 = .ok (.aload_n 0, 1) := by decide +kernel
theorem dX11_longest_1 : decode cX11_longest 1 = .ok (.iload_n 1, 1) := by decide +kernel
theorem dX11_longest_2 : decode cX11_longest 2 = .ok (.invokevirtual 196, 3) := by decide +kernel
theorem dX11_longest_5 : decode cX11_longest 5 = .ok (.istore_n 2, 1) := by decide +kernel
theorem dX11_longest_6 : decode cX11_longest 6 = .ok (.iload_n 2, 1) := by decide +kernel
theorem dX11_longest_7 : decode cX11_longest 7 = .ok (.ifCond .ge 5, 3) := by decide +kernel
theorem dX11_longest_10 : decode cX11_longest 10 = .ok (.iload_n 2, 1) := by decide +kernel
theorem dX11_longest_11 : decode cX11_longest 11 = .ok (.ireturn, 1) := by decide +kernel
theorem dX11_longest_12 : decode cX11_longest 12 = .ok (.aload_n 0, 1) := by decide +kernel
theorem dX11_longest_13 : decode cX11_longest 13 = .ok (.iload_n 1, 1) := by decide +kernel
theorem dX11_longest_14 : decode cX11_longest 14 = .ok (.invokevirtual 108, 3) := by decide +kernel
theorem dX11_longest_17 : decode cX11_longest 17 = .ok (.istore_n 3, 1) := by decide +kernel
theorem dX11_longest_18 : decode cX11_longest 18 = .ok (.iconst (-1), 1) := by decide +kernel
theorem dX11_longest_19 : decode cX11_longest 19 = .ok (.istore 4, 2) := by decide +kernel
theorem dX11_longest_21 : decode cX11_longest 21 = .ok (.iconst 0, 1) := by decide +kernel
theorem dX11_longest_22 : decode cX11_longest 22 = .ok (.istore 5, 2) := by decide +kernel
theorem dX11_longest_24 : decode cX11_longest 24 = .ok (.iload 5, 2) := by decide +kernel
theorem dX11_longest_26 : decode cX11_longest 26 = .ok (.aload_n 0, 1) := by decide +kernel
theorem dX11_longest_27 : decode cX11_longest 27 = .ok (.getfield 23, 3) := by decide +kernel
theorem dX11_longest_30 : decode cX11_longest 30 = .ok (.iload_n 3, 1) := by decide +kernel
theorem dX11_longest_31 : decode cX11_longest 31 = .ok (.iaload, 1) := by decide +kernel
theorem dX11_longest_32 : decode cX11_longest 32 = .ok (.if_icmp .ge 35, 3) := by decide +kernel
theorem dX11_longest_35 : decode cX11_longest 35 = .ok (.aload_n 0, 1) := by decide +kernel
theorem dX11_longest_36 : decode cX11_longest 36 = .ok (.iload_n 3, 1) := by decide +kernel
theorem dX11_longest_37 : decode cX11_longest 37 = .ok (.iload 5, 2) := by decide +kernel
theorem dX11_longest_39 : decode cX11_longest 39 = .ok (.invokevirtual 202, 3) := by decide +kernel
theorem dX11_longest_42 : decode cX11_longest 42 = .ok (.aload_n 0, 1) := by decide +kernel
theorem dX11_longest_43 : decode cX11_longest 43 = .ok (.getfield 46, 3) := by decide +kernel
theorem dX11_longest_46 : decode cX11_longest 46 = .ok (.bipush 100, 2) := by decide +kernel
theorem dX11_longest_48 : decode cX11_longest 48 = .ok (.iload_n 3, 1) := by decide +kernel
theorem dX11_longest_49 : decode cX11_longest 49 = .ok (.imul, 1) := by decide +kernel
theorem dX11_longest_50 : decode cX11_longest 50 = .ok (.iload 5, 2) := by decide +kernel
theorem dX11_longest_52 : decode cX11_longest 52 = .ok (.iadd, 1) := by decide +kernel
theorem dX11_longest_53 : decode cX11_longest 53 = .ok (.iaload, 1) := by decide +kernel
theorem dX11_longest_54 : decode cX11_longest 54 = .ok (.if_icmp .ne 7, 3) := by decide +kernel
theorem dX11_longest_57 : decode cX11_longest 57 = .ok (.iload 5, 2) := by decide +kernel
theorem dX11_longest_59 : decode cX11_longest 59 = .ok (.istore 4, 2) := by decide +kernel
theorem dX11_longest_61 : decode cX11_longest 61 = .ok (.iinc 5 1, 3) := by decide +kernel
theorem dX11_longest_64 : decode cX11_longest 64 = .ok (.goto (-40), 3) := by decide +kernel
theorem dX11_longest_67 : decode cX11_longest 67 = .ok (.iload 4, 2) := by decide +kernel
theorem dX11_longest_69 : decode cX11_longest 69 = .ok (.ireturn, 1) := by decide +kernel
theorem dX11_common_0 : decode cX11_common 0 = .ok (.aload_n 0, 1) := by decide +kernel
theorem dX11_common_1 : decode cX11_common 1 = .ok (.iload_n 1, 1) := by decide +kernel
theorem dX11_common_2 : decode cX11_common 2 = .ok (.invokevirtual 175, 3) := by decide +kernel
theorem dX11_common_5 : decode cX11_common 5 = .ok (.istore 4, 2) := by decide +kernel
theorem dX11_common_7 : decode cX11_common 7 = .ok (.iload 4, 2) := by decide +kernel
theorem dX11_common_9 : decode cX11_common 9 = .ok (.ifCond .ge 6, 3) := by decide +kernel
theorem dX11_common_12 : decode cX11_common 12 = .ok (.iload 4, 2) := by decide +kernel
theorem dX11_common_14 : decode cX11_common 14 = .ok (.ireturn, 1) := by decide +kernel
theorem dX11_common_15 : decode cX11_common 15 = .ok (.aload_n 0, 1) := by decide +kernel
theorem dX11_common_16 : decode cX11_common 16 = .ok (.iload_n 1, 1) := by decide +kernel
theorem dX11_common_17 : decode cX11_common 17 = .ok (.invokevirtual 108, 3) := by decide +kernel
theorem dX11_common_20 : decode cX11_common 20 = .ok (.istore 5, 2) := by decide +kernel
theorem dX11_common_22 : decode cX11_common 22 = .ok (.aload_n 0, 1) := by decide +kernel
theorem dX11_common_23 : decode cX11_common 23 = .ok (.iload 5, 2) := by decide +kernel
theorem dX11_common_25 : decode cX11_common 25 = .ok (.iload_n 2, 1) := by decide +kernel
theorem dX11_common_26 : decode cX11_common 26 = .ok (.invokevirtual 199, 3) := by decide +kernel
theorem dX11_common_29 : decode cX11_common 29 = .ok (.ifCond .eq 13, 3) := by decide +kernel
theorem dX11_common_32 : decode cX11_common 32 = .ok (.aload_n 0, 1) := by decide +kernel
theorem dX11_common_33 : decode cX11_common 33 = .ok (.iload 5, 2) := by decide +kernel
theorem dX11_common_35 : decode cX11_common 35 = .ok (.iload_n 3, 1) := by decide +kernel
theorem dX11_common_36 : decode cX11_common 36 = .ok (.invokevirtual 199, 3) := by decide +kernel
theorem dX11_common_39 : decode cX11_common 39 = .ok (.ifCond .ne 6, 3) := by decide +kernel
theorem dX11_common_42 : decode cX11_common 42 = .ok (.bipush (-5), 2) := by decide +kernel
theorem dX11_common_44 : decode cX11_common 44 = .ok (.ireturn, 1) := by decide +kernel
theorem dX11_common_45 : decode cX11_common 45 = .ok (.aload_n 0, 1) := by decide +kernel
theorem dX11_common_46 : decode cX11_common 46 = .ok (.iload 5, 2) := by decide +kernel
theorem dX11_common_48 : decode cX11_common 48 = .ok (.invokevirtual 178, 3) := by decide +kernel
theorem dX11_common_51 : decode cX11_common 51 = .ok (.ifCond .eq 6, 3) := by decide +kernel
theorem dX11_common_54 : decode cX11_common 54 = .ok (.bipush (-6), 2) := by decide +kernel
theorem dX11_common_56 : decode cX11_common 56 = .ok (.ireturn, 1) := by decide +kernel
theorem dX11_common_57 : decode cX11_common 57 = .ok (.aload_n 0, 1) := by decide +kernel
theorem dX11_common_58 : decode cX11_common 58 = .ok (.iload 5, 2) := by decide +kernel
theorem dX11_common_60 : decode cX11_common 60 = .ok (.iload_n 2, 1) := by decide +kernel
theorem dX11_common_61 : decode cX11_common 61 = .ok (.invokevirtual 193, 3) := by decide +kernel
theorem dX11_common_64 : decode cX11_common 64 = .ok (.aload_n 0, 1) := by decide +kernel
theorem dX11_common_65 : decode cX11_common 65 = .ok (.iload 5, 2) := by decide +kernel
theorem dX11_common_67 : decode cX11_common 67 = .ok (.iload_n 3, 1) := by decide +kernel
theorem dX11_common_68 : decode cX11_common 68 = .ok (.invokevirtual 202, 3) := by decide +kernel
theorem dX11_common_71 : decode cX11_common 71 = .ok (.ireturn, 1) := by decide +kernel
theorem dX11_ones_0 : decode cX11_ones 0 = .ok (.iconst 0, 1) := by decide +kernel
theorem dX11_ones_1 : decode cX11_ones 1 = .ok (.istore_n 3, 1) := by decide +kernel
theorem dX11_ones_2 : decode cX11_ones 2 = .ok (.iconst 0, 1) := by decide +kernel
theorem dX11_ones_3 : decode cX11_ones 3 = .ok (.istore 4, 2) := by decide +kernel
theorem dX11_ones_5 : decode cX11_ones 5 = .ok (.iload 4, 2) := by decide +kernel
theorem dX11_ones_7 : decode cX11_ones 7 = .ok (.iload_n 2, 1) := by decide +kernel
theorem dX11_ones_8 : decode cX11_ones 8 = .ok (.if_icmp .ge 25, 3) := by decide +kernel
theorem dX11_ones_11 : decode cX11_ones 11 = .ok (.iload_n 3, 1) := by decide +kernel
theorem dX11_ones_12 : decode cX11_ones 12 = .ok (.aload_n 0, 1) := by decide +kernel
theorem dX11_ones_13 : decode cX11_ones 13 = .ok (.getfield 43, 3) := by decide +kernel
theorem dX11_ones_16 : decode cX11_ones 16 = .ok (.sipush 4900, 3) := by decide +kernel
theorem dX11_ones_19 : decode cX11_ones 19 = .ok (.iload_n 1, 1) := by decide +kernel
theorem dX11_ones_20 : decode cX11_ones 20 = .ok (.imul, 1) := by decide +kernel
theorem dX11_ones_21 : decode cX11_ones 21 = .ok (.iload 4, 2) := by decide +kernel
theorem dX11_ones_23 : decode cX11_ones 23 = .ok (.iadd, 1) := by decide +kernel
theorem dX11_ones_24 : decode cX11_ones 24 = .ok (.iaload, 1) := by decide +kernel
theorem dX11_ones_25 : decode cX11_ones 25 = .ok (.iadd, 1) := by decide +kernel
theorem dX11_ones_26 : decode cX11_ones 26 = .ok (.istore_n 3, 1) := by decide +kernel
theorem dX11_ones_27 : decode cX11_ones 27 = .ok (.iinc 4 1, 3) := by decide +kernel
theorem dX11_ones_30 : decode cX11_ones 30 = .ok (.goto (-25), 3) := by decide +kernel
theorem dX11_ones_33 : decode cX11_ones 33 = .ok (.iload_n 3, 1) := by decide +kernel
theorem dX11_ones_34 : decode cX11_ones 34 = .ok (.ireturn, 1) := by decide +kernel
theorem dX11_rank_0 : decode cX11_rank 0 = .ok (.aload_n 0, 1) := by decide +kernel
theorem dX11_rank_1 : decode cX11_rank 1 = .ok (.iload_n 1, 1) := by decide +kernel
theorem dX11_rank_2 : decode cX11_rank 2 = .ok (.invokevirtual 205, 3) := by decide +kernel
theorem dX11_rank_5 : decode cX11_rank 5 = .ok (.istore_n 3, 1) := by decide +kernel
theorem dX11_rank_6 : decode cX11_rank 6 = .ok (.iload_n 3, 1) := by decide +kernel
theorem dX11_rank_7 : decode cX11_rank 7 = .ok (.ifCond .ge 5, 3) := by decide +kernel
theorem dX11_rank_10 : decode cX11_rank 10 = .ok (.iload_n 3, 1) := by decide +kernel
theorem dX11_rank_11 : decode cX11_rank 11 = .ok (.ireturn, 1) := by decide +kernel
theorem dX11_rank_12 : decode cX11_rank 12 = .ok (.aload_n 0, 1) := by decide +kernel
theorem dX11_rank_13 : decode cX11_rank 13 = .ok (.iload_n 1, 1) := by decide +kernel
theorem dX11_rank_14 : decode cX11_rank 14 = .ok (.invokevirtual 108, 3) := by decide +kernel
theorem dX11_rank_17 : decode cX11_rank 17 = .ok (.istore 4, 2) := by decide +kernel
theorem dX11_rank_19 : decode cX11_rank 19 = .ok (.iload_n 2, 1) := by decide +kernel
theorem dX11_rank_20 : decode cX11_rank 20 = .ok (.ifCond .lt 14, 3) := by decide +kernel
theorem dX11_rank_23 : decode cX11_rank 23 = .ok (.iload_n 2, 1) := by decide +kernel
theorem dX11_rank_24 : decode cX11_rank 24 = .ok (.aload_n 0, 1) := by decide +kernel
theorem dX11_rank_25 : decode cX11_rank 25 = .ok (.getfield 26, 3) := by decide +kernel
theorem dX11_rank_28 : decode cX11_rank 28 = .ok (.iload 4, 2) := by decide +kernel
theorem dX11_rank_30 : decode cX11_rank 30 = .ok (.iaload, 1) := by decide +kernel
theorem dX11_rank_31 : decode cX11_rank 31 = .ok (.if_icmp .le 6, 3) := by decide +kernel
theorem dX11_rank_34 : decode cX11_rank 34 = .ok (.bipush (-5), 2) := by decide +kernel
theorem dX11_rank_36 : decode cX11_rank 36 = .ok (.ireturn, 1) := by decide +kernel
theorem dX11_rank_37 : decode cX11_rank 37 = .ok (.aload_n 0, 1) := by decide +kernel
theorem dX11_rank_38 : decode cX11_rank 38 = .ok (.iload 4, 2) := by decide +kernel
theorem dX11_rank_40 : decode cX11_rank 40 = .ok (.invokevirtual 178, 3) := by decide +kernel
theorem dX11_rank_43 : decode cX11_rank 43 = .ok (.ifCond .eq 8, 3) := by decide +kernel
theorem dX11_rank_46 : decode cX11_rank 46 = .ok (.bipush (-6), 2) := by decide +kernel
theorem dX11_rank_48 : decode cX11_rank 48 = .ok (.goto 10, 3) := by decide +kernel
theorem dX11_rank_51 : decode cX11_rank 51 = .ok (.aload_n 0, 1) := by decide +kernel
theorem dX11_rank_52 : decode cX11_rank 52 = .ok (.iload 4, 2) := by decide +kernel
theorem dX11_rank_54 : decode cX11_rank 54 = .ok (.iload_n 2, 1) := by decide +kernel
theorem dX11_rank_55 : decode cX11_rank 55 = .ok (.invokevirtual 208, 3) := by decide +kernel
theorem dX11_rank_58 : decode cX11_rank 58 = .ok (.ireturn, 1) := by decide +kernel
theorem dX11_select_0 : decode cX11_select 0 = .ok (.aload_n 0, 1) := by decide +kernel
theorem dX11_select_1 : decode cX11_select 1 = .ok (.iload_n 1, 1) := by decide +kernel
theorem dX11_select_2 : decode cX11_select 2 = .ok (.invokevirtual 205, 3) := by decide +kernel
theorem dX11_select_5 : decode cX11_select 5 = .ok (.istore_n 3, 1) := by decide +kernel
theorem dX11_select_6 : decode cX11_select 6 = .ok (.iload_n 3, 1) := by decide +kernel
theorem dX11_select_7 : decode cX11_select 7 = .ok (.ifCond .ge 5, 3) := by decide +kernel
theorem dX11_select_10 : decode cX11_select 10 = .ok (.iload_n 3, 1) := by decide +kernel
theorem dX11_select_11 : decode cX11_select 11 = .ok (.ireturn, 1) := by decide +kernel
theorem dX11_select_12 : decode cX11_select 12 = .ok (.aload_n 0, 1) := by decide +kernel
theorem dX11_select_13 : decode cX11_select 13 = .ok (.iload_n 1, 1) := by decide +kernel
theorem dX11_select_14 : decode cX11_select 14 = .ok (.invokevirtual 108, 3) := by decide +kernel
theorem dX11_select_17 : decode cX11_select 17 = .ok (.istore 4, 2) := by decide +kernel
theorem dX11_select_19 : decode cX11_select 19 = .ok (.iload_n 2, 1) := by decide +kernel
theorem dX11_select_20 : decode cX11_select 20 = .ok (.ifCond .lt 20, 3) := by decide +kernel
theorem dX11_select_23 : decode cX11_select 23 = .ok (.iload_n 2, 1) := by decide +kernel
theorem dX11_select_24 : decode cX11_select 24 = .ok (.aload_n 0, 1) := by decide +kernel
theorem dX11_select_25 : decode cX11_select 25 = .ok (.iload 4, 2) := by decide +kernel
theorem dX11_select_27 : decode cX11_select 27 = .ok (.aload_n 0, 1) := by decide +kernel
theorem dX11_select_28 : decode cX11_select 28 = .ok (.getfield 26, 3) := by decide +kernel
theorem dX11_select_31 : decode cX11_select 31 = .ok (.iload 4, 2) := by decide +kernel
theorem dX11_select_33 : decode cX11_select 33 = .ok (.iaload, 1) := by decide +kernel
theorem dX11_select_34 : decode cX11_select 34 = .ok (.invokevirtual 208, 3) := by decide +kernel
theorem dX11_select_37 : decode cX11_select 37 = .ok (.if_icmp .lt 6, 3) := by decide +kernel
theorem dX11_select_40 : decode cX11_select 40 = .ok (.bipush (-5), 2) := by decide +kernel
theorem dX11_select_42 : decode cX11_select 42 = .ok (.ireturn, 1) := by decide +kernel
theorem dX11_select_43 : decode cX11_select 43 = .ok (.aload_n 0, 1) := by decide +kernel
theorem dX11_select_44 : decode cX11_select 44 = .ok (.iload 4, 2) := by decide +kernel
theorem dX11_select_46 : decode cX11_select 46 = .ok (.invokevirtual 178, 3) := by decide +kernel
theorem dX11_select_49 : decode cX11_select 49 = .ok (.ifCond .eq 6, 3) := by decide +kernel
theorem dX11_select_52 : decode cX11_select 52 = .ok (.bipush (-6), 2) := by decide +kernel
theorem dX11_select_54 : decode cX11_select 54 = .ok (.ireturn, 1) := by decide +kernel
theorem dX11_select_55 : decode cX11_select 55 = .ok (.iconst 0, 1) := by decide +kernel
theorem dX11_select_56 : decode cX11_select 56 = .ok (.istore 5, 2) := by decide +kernel
theorem dX11_select_58 : decode cX11_select 58 = .ok (.iload_n 2, 1) := by decide +kernel
theorem dX11_select_59 : decode cX11_select 59 = .ok (.istore 6, 2) := by decide +kernel
theorem dX11_select_61 : decode cX11_select 61 = .ok (.iload 6, 2) := by decide +kernel
theorem dX11_select_63 : decode cX11_select 63 = .ok (.ifCond .gt 20, 3) := by decide +kernel
theorem dX11_select_66 : decode cX11_select 66 = .ok (.aload_n 0, 1) := by decide +kernel
theorem dX11_select_67 : decode cX11_select 67 = .ok (.getfield 43, 3) := by decide +kernel
theorem dX11_select_70 : decode cX11_select 70 = .ok (.sipush 4900, 3) := by decide +kernel
theorem dX11_select_73 : decode cX11_select 73 = .ok (.iload 4, 2) := by decide +kernel
theorem dX11_select_75 : decode cX11_select 75 = .ok (.imul, 1) := by decide +kernel
theorem dX11_select_76 : decode cX11_select 76 = .ok (.iload 5, 2) := by decide +kernel
theorem dX11_select_78 : decode cX11_select 78 = .ok (.iadd, 1) := by decide +kernel
theorem dX11_select_79 : decode cX11_select 79 = .ok (.iaload, 1) := by decide +kernel
theorem dX11_select_80 : decode cX11_select 80 = .ok (.ifCond .ne 28, 3) := by decide +kernel
theorem dX11_select_83 : decode cX11_select 83 = .ok (.iload 6, 2) := by decide +kernel
theorem dX11_select_85 : decode cX11_select 85 = .ok (.aload_n 0, 1) := by decide +kernel
theorem dX11_select_86 : decode cX11_select 86 = .ok (.getfield 43, 3) := by decide +kernel
theorem dX11_select_89 : decode cX11_select 89 = .ok (.sipush 4900, 3) := by decide +kernel
theorem dX11_select_92 : decode cX11_select 92 = .ok (.iload 4, 2) := by decide +kernel
theorem dX11_select_94 : decode cX11_select 94 = .ok (.imul, 1) := by decide +kernel
theorem dX11_select_95 : decode cX11_select 95 = .ok (.iload 5, 2) := by decide +kernel
theorem dX11_select_97 : decode cX11_select 97 = .ok (.iadd, 1) := by decide +kernel
theorem dX11_select_98 : decode cX11_select 98 = .ok (.iaload, 1) := by decide +kernel
theorem dX11_select_99 : decode cX11_select 99 = .ok (.isub, 1) := by decide +kernel
theorem dX11_select_100 : decode cX11_select 100 = .ok (.istore 6, 2) := by decide +kernel
theorem dX11_select_102 : decode cX11_select 102 = .ok (.iinc 5 1, 3) := by decide +kernel
theorem dX11_select_105 : decode cX11_select 105 = .ok (.goto (-44), 3) := by decide +kernel
theorem dX11_select_108 : decode cX11_select 108 = .ok (.iload 5, 2) := by decide +kernel
theorem dX11_select_110 : decode cX11_select 110 = .ok (.ireturn, 1) := by decide +kernel
theorem dX11_bit_0 : decode cX11_bit 0 = .ok (.aload_n 0, 1) := by decide +kernel
theorem dX11_bit_1 : decode cX11_bit 1 = .ok (.iload_n 1, 1) := by decide +kernel
theorem dX11_bit_2 : decode cX11_bit 2 = .ok (.invokevirtual 205, 3) := by decide +kernel
theorem dX11_bit_5 : decode cX11_bit 5 = .ok (.istore_n 3, 1) := by decide +kernel
theorem dX11_bit_6 : decode cX11_bit 6 = .ok (.iload_n 3, 1) := by decide +kernel
theorem dX11_bit_7 : decode cX11_bit 7 = .ok (.ifCond .ge 5, 3) := by decide +kernel
theorem dX11_bit_10 : decode cX11_bit 10 = .ok (.iload_n 3, 1) := by decide +kernel
theorem dX11_bit_11 : decode cX11_bit 11 = .ok (.ireturn, 1) := by decide +kernel
theorem dX11_bit_12 : decode cX11_bit 12 = .ok (.aload_n 0, 1) := by decide +kernel
theorem dX11_bit_13 : decode cX11_bit 13 = .ok (.iload_n 1, 1) := by decide +kernel
theorem dX11_bit_14 : decode cX11_bit 14 = .ok (.invokevirtual 108, 3) := by decide +kernel
theorem dX11_bit_17 : decode cX11_bit 17 = .ok (.istore 4, 2) := by decide +kernel
theorem dX11_bit_19 : decode cX11_bit 19 = .ok (.iload_n 2, 1) := by decide +kernel
theorem dX11_bit_20 : decode cX11_bit 20 = .ok (.ifCond .lt 14, 3) := by decide +kernel
theorem dX11_bit_23 : decode cX11_bit 23 = .ok (.iload_n 2, 1) := by decide +kernel
theorem dX11_bit_24 : decode cX11_bit 24 = .ok (.aload_n 0, 1) := by decide +kernel
theorem dX11_bit_25 : decode cX11_bit 25 = .ok (.getfield 26, 3) := by decide +kernel
theorem dX11_bit_28 : decode cX11_bit 28 = .ok (.iload 4, 2) := by decide +kernel
theorem dX11_bit_30 : decode cX11_bit 30 = .ok (.iaload, 1) := by decide +kernel
theorem dX11_bit_31 : decode cX11_bit 31 = .ok (.if_icmp .lt 8, 3) := by decide +kernel
theorem dX11_bit_34 : decode cX11_bit 34 = .ok (.bipush (-5), 2) := by decide +kernel
theorem dX11_bit_36 : decode cX11_bit 36 = .ok (.goto 16, 3) := by decide +kernel
theorem dX11_bit_39 : decode cX11_bit 39 = .ok (.aload_n 0, 1) := by decide +kernel
theorem dX11_bit_40 : decode cX11_bit 40 = .ok (.getfield 43, 3) := by decide +kernel
theorem dX11_bit_43 : decode cX11_bit 43 = .ok (.sipush 4900, 3) := by decide +kernel
theorem dX11_bit_46 : decode cX11_bit 46 = .ok (.iload 4, 2) := by decide +kernel
theorem dX11_bit_48 : decode cX11_bit 48 = .ok (.imul, 1) := by decide +kernel
theorem dX11_bit_49 : decode cX11_bit 49 = .ok (.iload_n 2, 1) := by decide +kernel
theorem dX11_bit_50 : decode cX11_bit 50 = .ok (.iadd, 1) := by decide +kernel
theorem dX11_bit_51 : decode cX11_bit 51 = .ok (.iaload, 1) := by decide +kernel
theorem dX11_bit_52 : decode cX11_bit 52 = .ok (.ireturn, 1) := by decide +kernel
theorem dX11_flip_0 : decode cX11_flip 0 = .ok (.aload_n 0, 1) := by decide +kernel
theorem dX11_flip_1 : decode cX11_flip 1 = .ok (.iload_n 1, 1) := by decide +kernel
theorem dX11_flip_2 : decode cX11_flip 2 = .ok (.invokevirtual 97, 3) := by decide +kernel
theorem dX11_flip_5 : decode cX11_flip 5 = .ok (.ifCond .ne 6, 3) := by decide +kernel
theorem dX11_flip_8 : decode cX11_flip 8 = .ok (.bipush (-2), 2) := by decide +kernel
theorem dX11_flip_10 : decode cX11_flip 10 = .ok (.ireturn, 1) := by decide +kernel
theorem dX11_flip_11 : decode cX11_flip 11 = .ok (.aload_n 0, 1) := by decide +kernel
theorem dX11_flip_12 : decode cX11_flip 12 = .ok (.getfield 17, 3) := by decide +kernel
theorem dX11_flip_15 : decode cX11_flip 15 = .ok (.iload_n 1, 1) := by decide +kernel
theorem dX11_flip_16 : decode cX11_flip 16 = .ok (.iaload, 1) := by decide +kernel
theorem dX11_flip_17 : decode cX11_flip 17 = .ok (.ifCond .ne 6, 3) := by decide +kernel
theorem dX11_flip_20 : decode cX11_flip 20 = .ok (.bipush (-3), 2) := by decide +kernel
theorem dX11_flip_22 : decode cX11_flip 22 = .ok (.ireturn, 1) := by decide +kernel
theorem dX11_flip_23 : decode cX11_flip 23 = .ok (.aload_n 0, 1) := by decide +kernel
theorem dX11_flip_24 : decode cX11_flip 24 = .ok (.iload_n 1, 1) := by decide +kernel
theorem dX11_flip_25 : decode cX11_flip 25 = .ok (.invokevirtual 108, 3) := by decide +kernel
theorem dX11_flip_28 : decode cX11_flip 28 = .ok (.istore 4, 2) := by decide +kernel
theorem dX11_flip_30 : decode cX11_flip 30 = .ok (.aload_n 0, 1) := by decide +kernel
theorem dX11_flip_31 : decode cX11_flip 31 = .ok (.getfield 20, 3) := by decide +kernel
theorem dX11_flip_34 : decode cX11_flip 34 = .ok (.iload 4, 2) := by decide +kernel
theorem dX11_flip_36 : decode cX11_flip 36 = .ok (.iaload, 1) := by decide +kernel
theorem dX11_flip_37 : decode cX11_flip 37 = .ok (.bipush 7, 2) := by decide +kernel
theorem dX11_flip_39 : decode cX11_flip 39 = .ok (.if_icmp .eq 6, 3) := by decide +kernel
theorem dX11_flip_42 : decode cX11_flip 42 = .ok (.bipush (-4), 2) := by decide +kernel
theorem dX11_flip_44 : decode cX11_flip 44 = .ok (.ireturn, 1) := by decide +kernel
theorem dX11_flip_45 : decode cX11_flip 45 = .ok (.iload_n 2, 1) := by decide +kernel
theorem dX11_flip_46 : decode cX11_flip 46 = .ok (.ifCond .lt 14, 3) := by decide +kernel
theorem dX11_flip_49 : decode cX11_flip 49 = .ok (.iload_n 2, 1) := by decide +kernel
theorem dX11_flip_50 : decode cX11_flip 50 = .ok (.aload_n 0, 1) := by decide +kernel
theorem dX11_flip_51 : decode cX11_flip 51 = .ok (.getfield 26, 3) := by decide +kernel
theorem dX11_flip_54 : decode cX11_flip 54 = .ok (.iload 4, 2) := by decide +kernel
theorem dX11_flip_56 : decode cX11_flip 56 = .ok (.iaload, 1) := by decide +kernel
theorem dX11_flip_57 : decode cX11_flip 57 = .ok (.if_icmp .lt 6, 3) := by decide +kernel
theorem dX11_flip_60 : decode cX11_flip 60 = .ok (.bipush (-5), 2) := by decide +kernel
theorem dX11_flip_62 : decode cX11_flip 62 = .ok (.ireturn, 1) := by decide +kernel
theorem dX11_flip_63 : decode cX11_flip 63 = .ok (.aload_n 0, 1) := by decide +kernel
theorem dX11_flip_64 : decode cX11_flip 64 = .ok (.getfield 43, 3) := by decide +kernel
theorem dX11_flip_67 : decode cX11_flip 67 = .ok (.sipush 4900, 3) := by decide +kernel
theorem dX11_flip_70 : decode cX11_flip 70 = .ok (.iload 4, 2) := by decide +kernel
theorem dX11_flip_72 : decode cX11_flip 72 = .ok (.imul, 1) := by decide +kernel
theorem dX11_flip_73 : decode cX11_flip 73 = .ok (.iload_n 2, 1) := by decide +kernel
theorem dX11_flip_74 : decode cX11_flip 74 = .ok (.iadd, 1) := by decide +kernel
theorem dX11_flip_75 : decode cX11_flip 75 = .ok (.iaload, 1) := by decide +kernel
theorem dX11_flip_76 : decode cX11_flip 76 = .ok (.istore 5, 2) := by decide +kernel
theorem dX11_flip_78 : decode cX11_flip 78 = .ok (.aload_n 0, 1) := by decide +kernel
theorem dX11_flip_79 : decode cX11_flip 79 = .ok (.getfield 43, 3) := by decide +kernel
theorem dX11_flip_82 : decode cX11_flip 82 = .ok (.sipush 4900, 3) := by decide +kernel
theorem dX11_flip_85 : decode cX11_flip 85 = .ok (.iload 4, 2) := by decide +kernel
theorem dX11_flip_87 : decode cX11_flip 87 = .ok (.imul, 1) := by decide +kernel
theorem dX11_flip_88 : decode cX11_flip 88 = .ok (.iload_n 2, 1) := by decide +kernel
theorem dX11_flip_89 : decode cX11_flip 89 = .ok (.iadd, 1) := by decide +kernel
theorem dX11_flip_90 : decode cX11_flip 90 = .ok (.iload_n 3, 1) := by decide +kernel
theorem dX11_flip_91 : decode cX11_flip 91 = .ok (.ifCond .eq 7, 3) := by decide +kernel
theorem dX11_flip_94 : decode cX11_flip 94 = .ok (.iconst 1, 1) := by decide +kernel
theorem dX11_flip_95 : decode cX11_flip 95 = .ok (.goto 4, 3) := by decide +kernel
theorem dX11_flip_98 : decode cX11_flip 98 = .ok (.iconst 0, 1) := by decide +kernel
theorem dX11_flip_99 : decode cX11_flip 99 = .ok (.iastore, 1) := by decide +kernel
theorem dX11_flip_100 : decode cX11_flip 100 = .ok (.iload 5, 2) := by decide +kernel
theorem dX11_flip_102 : decode cX11_flip 102 = .ok (.ireturn, 1) := by decide +kernel
theorem dX11_width_0 : decode cX11_width 0 = .ok (.iconst 1, 1) := by decide +kernel
theorem dX11_width_1 : decode cX11_width 1 = .ok (.istore_n 2, 1) := by decide +kernel
theorem dX11_width_2 : decode cX11_width 2 = .ok (.iconst 0, 1) := by decide +kernel
theorem dX11_width_3 : decode cX11_width 3 = .ok (.istore_n 3, 1) := by decide +kernel
theorem dX11_width_4 : decode cX11_width 4 = .ok (.iload_n 3, 1) := by decide +kernel
theorem dX11_width_5 : decode cX11_width 5 = .ok (.aload_n 0, 1) := by decide +kernel
theorem dX11_width_6 : decode cX11_width 6 = .ok (.getfield 23, 3) := by decide +kernel
theorem dX11_width_9 : decode cX11_width 9 = .ok (.iload_n 1, 1) := by decide +kernel
theorem dX11_width_10 : decode cX11_width 10 = .ok (.iaload, 1) := by decide +kernel
theorem dX11_width_11 : decode cX11_width 11 = .ok (.if_icmp .ge 64, 3) := by decide +kernel
theorem dX11_width_14 : decode cX11_width 14 = .ok (.aload_n 0, 1) := by decide +kernel
theorem dX11_width_15 : decode cX11_width 15 = .ok (.getfield 52, 3) := by decide +kernel
theorem dX11_width_18 : decode cX11_width 18 = .ok (.bipush 100, 2) := by decide +kernel
theorem dX11_width_20 : decode cX11_width 20 = .ok (.iload_n 1, 1) := by decide +kernel
theorem dX11_width_21 : decode cX11_width 21 = .ok (.imul, 1) := by decide +kernel
theorem dX11_width_22 : decode cX11_width 22 = .ok (.iload_n 3, 1) := by decide +kernel
theorem dX11_width_23 : decode cX11_width 23 = .ok (.iadd, 1) := by decide +kernel
theorem dX11_width_24 : decode cX11_width 24 = .ok (.laload, 1) := by decide +kernel
theorem dX11_width_25 : decode cX11_width 25 = .ok (.lstore 4, 2) := by decide +kernel
theorem dX11_width_27 : decode cX11_width 27 = .ok (.iload_n 2, 1) := by decide +kernel
theorem dX11_width_28 : decode cX11_width 28 = .ok (.bipush 8, 2) := by decide +kernel
theorem dX11_width_30 : decode cX11_width 30 = .ok (.if_icmp .ge 39, 3) := by decide +kernel
theorem dX11_width_33 : decode cX11_width 33 = .ok (.lload 4, 2) := by decide +kernel
theorem dX11_width_35 : decode cX11_width 35 = .ok (.lconst 1, 1) := by decide +kernel
theorem dX11_width_36 : decode cX11_width 36 = .ok (.bipush 8, 2) := by decide +kernel
theorem dX11_width_38 : decode cX11_width 38 = .ok (.iload_n 2, 1) := by decide +kernel
theorem dX11_width_39 : decode cX11_width 39 = .ok (.imul, 1) := by decide +kernel
theorem dX11_width_40 : decode cX11_width 40 = .ok (.iconst 1, 1) := by decide +kernel
theorem dX11_width_41 : decode cX11_width 41 = .ok (.isub, 1) := by decide +kernel
theorem dX11_width_42 : decode cX11_width 42 = .ok (.lshl, 1) := by decide +kernel
theorem dX11_width_43 : decode cX11_width 43 = .ok (.lneg, 1) := by decide +kernel
theorem dX11_width_44 : decode cX11_width 44 = .ok (.lcmp, 1) := by decide +kernel
theorem dX11_width_45 : decode cX11_width 45 = .ok (.ifCond .lt 17, 3) := by decide +kernel
theorem dX11_width_48 : decode cX11_width 48 = .ok (.lload 4, 2) := by decide +kernel
theorem dX11_width_50 : decode cX11_width 50 = .ok (.lconst 1, 1) := by decide +kernel
theorem dX11_width_51 : decode cX11_width 51 = .ok (.bipush 8, 2) := by decide +kernel
theorem dX11_width_53 : decode cX11_width 53 = .ok (.iload_n 2, 1) := by decide +kernel
theorem dX11_width_54 : decode cX11_width 54 = .ok (.imul, 1) := by decide +kernel
theorem dX11_width_55 : decode cX11_width 55 = .ok (.iconst 1, 1) := by decide +kernel
theorem dX11_width_56 : decode cX11_width 56 = .ok (.isub, 1) := by decide +kernel
theorem dX11_width_57 : decode cX11_width 57 = .ok (.lshl, 1) := by decide +kernel
theorem dX11_width_58 : decode cX11_width 58 = .ok (.lcmp, 1) := by decide +kernel
theorem dX11_width_59 : decode cX11_width 59 = .ok (.ifCond .lt 10, 3) := by decide +kernel
theorem dX11_width_62 : decode cX11_width 62 = .ok (.iload_n 2, 1) := by decide +kernel
theorem dX11_width_63 : decode cX11_width 63 = .ok (.iconst 2, 1) := by decide +kernel
theorem dX11_width_64 : decode cX11_width 64 = .ok (.imul, 1) := by decide +kernel
theorem dX11_width_65 : decode cX11_width 65 = .ok (.istore_n 2, 1) := by decide +kernel
theorem dX11_width_66 : decode cX11_width 66 = .ok (.goto (-39), 3) := by decide +kernel
theorem dX11_width_69 : decode cX11_width 69 = .ok (.iinc 3 1, 3) := by decide +kernel
theorem dX11_width_72 : decode cX11_width 72 = .ok (.goto (-68), 3) := by decide +kernel
theorem dX11_width_75 : decode cX11_width 75 = .ok (.iload_n 2, 1) := by decide +kernel
theorem dX11_width_76 : decode cX11_width 76 = .ok (.ireturn, 1) := by decide +kernel
theorem dX11_about_0 : decode cX11_about 0 = .ok (.aload_n 0, 1) := by decide +kernel
theorem dX11_about_1 : decode cX11_about 1 = .ok (.iload_n 1, 1) := by decide +kernel
theorem dX11_about_2 : decode cX11_about 2 = .ok (.invokevirtual 175, 3) := by decide +kernel
theorem dX11_about_5 : decode cX11_about 5 = .ok (.istore_n 3, 1) := by decide +kernel
theorem dX11_about_6 : decode cX11_about 6 = .ok (.iload_n 3, 1) := by decide +kernel
theorem dX11_about_7 : decode cX11_about 7 = .ok (.ifCond .ge 5, 3) := by decide +kernel
theorem dX11_about_10 : decode cX11_about 10 = .ok (.iload_n 3, 1) := by decide +kernel
theorem dX11_about_11 : decode cX11_about 11 = .ok (.ireturn, 1) := by decide +kernel
theorem dX11_about_12 : decode cX11_about 12 = .ok (.aload_n 0, 1) := by decide +kernel
theorem dX11_about_13 : decode cX11_about 13 = .ok (.iload_n 1, 1) := by decide +kernel
theorem dX11_about_14 : decode cX11_about 14 = .ok (.invokevirtual 108, 3) := by decide +kernel
theorem dX11_about_17 : decode cX11_about 17 = .ok (.istore 4, 2) := by decide +kernel
theorem dX11_about_19 : decode cX11_about 19 = .ok (.iload_n 2, 1) := by decide +kernel
theorem dX11_about_20 : decode cX11_about 20 = .ok (.tableswitch 204 0 7 #[48, 56, 64, 72, 80, 88, 121, 128], 48) := by decide +kernel
theorem dX11_about_68 : decode cX11_about 68 = .ok (.aload_n 0, 1) := by decide +kernel
theorem dX11_about_69 : decode cX11_about 69 = .ok (.getfield 20, 3) := by decide +kernel
theorem dX11_about_72 : decode cX11_about 72 = .ok (.iload 4, 2) := by decide +kernel
theorem dX11_about_74 : decode cX11_about 74 = .ok (.iaload, 1) := by decide +kernel
theorem dX11_about_75 : decode cX11_about 75 = .ok (.ireturn, 1) := by decide +kernel
theorem dX11_about_76 : decode cX11_about 76 = .ok (.aload_n 0, 1) := by decide +kernel
theorem dX11_about_77 : decode cX11_about 77 = .ok (.getfield 26, 3) := by decide +kernel
theorem dX11_about_80 : decode cX11_about 80 = .ok (.iload 4, 2) := by decide +kernel
theorem dX11_about_82 : decode cX11_about 82 = .ok (.iaload, 1) := by decide +kernel
theorem dX11_about_83 : decode cX11_about 83 = .ok (.ireturn, 1) := by decide +kernel
theorem dX11_about_84 : decode cX11_about 84 = .ok (.aload_n 0, 1) := by decide +kernel
theorem dX11_about_85 : decode cX11_about 85 = .ok (.getfield 29, 3) := by decide +kernel
theorem dX11_about_88 : decode cX11_about 88 = .ok (.iload 4, 2) := by decide +kernel
theorem dX11_about_90 : decode cX11_about 90 = .ok (.iaload, 1) := by decide +kernel
theorem dX11_about_91 : decode cX11_about 91 = .ok (.ireturn, 1) := by decide +kernel
theorem dX11_about_92 : decode cX11_about 92 = .ok (.aload_n 0, 1) := by decide +kernel
theorem dX11_about_93 : decode cX11_about 93 = .ok (.getfield 32, 3) := by decide +kernel
theorem dX11_about_96 : decode cX11_about 96 = .ok (.iload 4, 2) := by decide +kernel
theorem dX11_about_98 : decode cX11_about 98 = .ok (.iaload, 1) := by decide +kernel
theorem dX11_about_99 : decode cX11_about 99 = .ok (.ireturn, 1) := by decide +kernel
theorem dX11_about_100 : decode cX11_about 100 = .ok (.aload_n 0, 1) := by decide +kernel
theorem dX11_about_101 : decode cX11_about 101 = .ok (.getfield 35, 3) := by decide +kernel
theorem dX11_about_104 : decode cX11_about 104 = .ok (.iload 4, 2) := by decide +kernel
theorem dX11_about_106 : decode cX11_about 106 = .ok (.iaload, 1) := by decide +kernel
theorem dX11_about_107 : decode cX11_about 107 = .ok (.ireturn, 1) := by decide +kernel
theorem dX11_about_108 : decode cX11_about 108 = .ok (.aload_n 0, 1) := by decide +kernel
theorem dX11_about_109 : decode cX11_about 109 = .ok (.getfield 20, 3) := by decide +kernel
theorem dX11_about_112 : decode cX11_about 112 = .ok (.iload 4, 2) := by decide +kernel
theorem dX11_about_114 : decode cX11_about 114 = .ok (.iaload, 1) := by decide +kernel
theorem dX11_about_115 : decode cX11_about 115 = .ok (.iconst 5, 1) := by decide +kernel
theorem dX11_about_116 : decode cX11_about 116 = .ok (.if_icmp .ne 23, 3) := by decide +kernel
theorem dX11_about_119 : decode cX11_about 119 = .ok (.aload_n 0, 1) := by decide +kernel
theorem dX11_about_120 : decode cX11_about 120 = .ok (.getfield 23, 3) := by decide +kernel
theorem dX11_about_123 : decode cX11_about 123 = .ok (.iload 4, 2) := by decide +kernel
theorem dX11_about_125 : decode cX11_about 125 = .ok (.iaload, 1) := by decide +kernel
theorem dX11_about_126 : decode cX11_about 126 = .ok (.bipush 64, 2) := by decide +kernel
theorem dX11_about_128 : decode cX11_about 128 = .ok (.aload_n 0, 1) := by decide +kernel
theorem dX11_about_129 : decode cX11_about 129 = .ok (.iload 4, 2) := by decide +kernel
theorem dX11_about_131 : decode cX11_about 131 = .ok (.invokevirtual 166, 3) := by decide +kernel
theorem dX11_about_134 : decode cX11_about 134 = .ok (.isub, 1) := by decide +kernel
theorem dX11_about_135 : decode cX11_about 135 = .ok (.imul, 1) := by decide +kernel
theorem dX11_about_136 : decode cX11_about 136 = .ok (.goto 4, 3) := by decide +kernel
theorem dX11_about_139 : decode cX11_about 139 = .ok (.iconst 0, 1) := by decide +kernel
theorem dX11_about_140 : decode cX11_about 140 = .ok (.ireturn, 1) := by decide +kernel
theorem dX11_about_141 : decode cX11_about 141 = .ok (.aload_n 0, 1) := by decide +kernel
theorem dX11_about_142 : decode cX11_about 142 = .ok (.iload 4, 2) := by decide +kernel
theorem dX11_about_144 : decode cX11_about 144 = .ok (.invokevirtual 211, 3) := by decide +kernel
theorem dX11_about_147 : decode cX11_about 147 = .ok (.ireturn, 1) := by decide +kernel
theorem dX11_about_148 : decode cX11_about 148 = .ok (.aload_n 0, 1) := by decide +kernel
theorem dX11_about_149 : decode cX11_about 149 = .ok (.getfield 20, 3) := by decide +kernel
theorem dX11_about_152 : decode cX11_about 152 = .ok (.iload 4, 2) := by decide +kernel
theorem dX11_about_154 : decode cX11_about 154 = .ok (.iaload, 1) := by decide +kernel
theorem dX11_about_155 : decode cX11_about 155 = .ok (.iconst 1, 1) := by decide +kernel
theorem dX11_about_156 : decode cX11_about 156 = .ok (.if_icmp .ne 7, 3) := by decide +kernel
theorem dX11_about_159 : decode cX11_about 159 = .ok (.iconst 0, 1) := by decide +kernel
theorem dX11_about_160 : decode cX11_about 160 = .ok (.goto 63, 3) := by decide +kernel
theorem dX11_about_163 : decode cX11_about 163 = .ok (.aload_n 0, 1) := by decide +kernel
theorem dX11_about_164 : decode cX11_about 164 = .ok (.getfield 38, 3) := by decide +kernel
theorem dX11_about_167 : decode cX11_about 167 = .ok (.iconst 2, 1) := by decide +kernel
theorem dX11_about_168 : decode cX11_about 168 = .ok (.iload 4, 2) := by decide +kernel
theorem dX11_about_170 : decode cX11_about 170 = .ok (.imul, 1) := by decide +kernel
theorem dX11_about_171 : decode cX11_about 171 = .ok (.baload, 1) := by decide +kernel
theorem dX11_about_172 : decode cX11_about 172 = .ok (.ifCond .eq 7, 3) := by decide +kernel
theorem dX11_about_175 : decode cX11_about 175 = .ok (.iconst 0, 1) := by decide +kernel
theorem dX11_about_176 : decode cX11_about 176 = .ok (.goto 16, 3) := by decide +kernel
theorem dX11_about_179 : decode cX11_about 179 = .ok (.aload_n 0, 1) := by decide +kernel
theorem dX11_about_180 : decode cX11_about 180 = .ok (.getfield 26, 3) := by decide +kernel
theorem dX11_about_183 : decode cX11_about 183 = .ok (.iload 4, 2) := by decide +kernel
theorem dX11_about_185 : decode cX11_about 185 = .ok (.iaload, 1) := by decide +kernel
theorem dX11_about_186 : decode cX11_about 186 = .ok (.sipush 512, 3) := by decide +kernel
theorem dX11_about_189 : decode cX11_about 189 = .ok (.idiv, 1) := by decide +kernel
theorem dX11_about_190 : decode cX11_about 190 = .ok (.iconst 1, 1) := by decide +kernel
theorem dX11_about_191 : decode cX11_about 191 = .ok (.iadd, 1) := by decide +kernel
theorem dX11_about_192 : decode cX11_about 192 = .ok (.aload_n 0, 1) := by decide +kernel
theorem dX11_about_193 : decode cX11_about 193 = .ok (.getfield 38, 3) := by decide +kernel
theorem dX11_about_196 : decode cX11_about 196 = .ok (.iconst 2, 1) := by decide +kernel
theorem dX11_about_197 : decode cX11_about 197 = .ok (.iload 4, 2) := by decide +kernel
theorem dX11_about_199 : decode cX11_about 199 = .ok (.imul, 1) := by decide +kernel
theorem dX11_about_200 : decode cX11_about 200 = .ok (.iconst 1, 1) := by decide +kernel
theorem dX11_about_201 : decode cX11_about 201 = .ok (.iadd, 1) := by decide +kernel
theorem dX11_about_202 : decode cX11_about 202 = .ok (.baload, 1) := by decide +kernel
theorem dX11_about_203 : decode cX11_about 203 = .ok (.ifCond .eq 7, 3) := by decide +kernel
theorem dX11_about_206 : decode cX11_about 206 = .ok (.iconst 0, 1) := by decide +kernel
theorem dX11_about_207 : decode cX11_about 207 = .ok (.goto 15, 3) := by decide +kernel
theorem dX11_about_210 : decode cX11_about 210 = .ok (.aload_n 0, 1) := by decide +kernel
theorem dX11_about_211 : decode cX11_about 211 = .ok (.getfield 26, 3) := by decide +kernel
theorem dX11_about_214 : decode cX11_about 214 = .ok (.iload 4, 2) := by decide +kernel
theorem dX11_about_216 : decode cX11_about 216 = .ok (.iaload, 1) := by decide +kernel
theorem dX11_about_217 : decode cX11_about 217 = .ok (.bipush 64, 2) := by decide +kernel
theorem dX11_about_219 : decode cX11_about 219 = .ok (.idiv, 1) := by decide +kernel
theorem dX11_about_220 : decode cX11_about 220 = .ok (.iconst 1, 1) := by decide +kernel
theorem dX11_about_221 : decode cX11_about 221 = .ok (.iadd, 1) := by decide +kernel
theorem dX11_about_222 : decode cX11_about 222 = .ok (.iadd, 1) := by decide +kernel
theorem dX11_about_223 : decode cX11_about 223 = .ok (.ireturn, 1) := by decide +kernel
theorem dX11_about_224 : decode cX11_about 224 = .ok (.bipush (-5), 2) := by decide +kernel
theorem dX11_about_226 : decode cX11_about 226 = .ok (.ireturn, 1) := by decide +kernel
theorem dX11_lose_0 : decode cX11_lose 0 = .ok (.aload_n 0, 1) := by decide +kernel
theorem dX11_lose_1 : decode cX11_lose 1 = .ok (.iload_n 1, 1) := by decide +kernel
theorem dX11_lose_2 : decode cX11_lose 2 = .ok (.invokevirtual 205, 3) := by decide +kernel
theorem dX11_lose_5 : decode cX11_lose 5 = .ok (.istore_n 3, 1) := by decide +kernel
theorem dX11_lose_6 : decode cX11_lose 6 = .ok (.iload_n 3, 1) := by decide +kernel
theorem dX11_lose_7 : decode cX11_lose 7 = .ok (.ifCond .ge 5, 3) := by decide +kernel
theorem dX11_lose_10 : decode cX11_lose 10 = .ok (.iload_n 3, 1) := by decide +kernel
theorem dX11_lose_11 : decode cX11_lose 11 = .ok (.ireturn, 1) := by decide +kernel
theorem dX11_lose_12 : decode cX11_lose 12 = .ok (.iload_n 2, 1) := by decide +kernel
theorem dX11_lose_13 : decode cX11_lose 13 = .ok (.ifCond .lt 8, 3) := by decide +kernel
theorem dX11_lose_16 : decode cX11_lose 16 = .ok (.iload_n 2, 1) := by decide +kernel
theorem dX11_lose_17 : decode cX11_lose 17 = .ok (.iconst 1, 1) := by decide +kernel
theorem dX11_lose_18 : decode cX11_lose 18 = .ok (.if_icmp .le 6, 3) := by decide +kernel
theorem dX11_lose_21 : decode cX11_lose 21 = .ok (.bipush (-5), 2) := by decide +kernel
theorem dX11_lose_23 : decode cX11_lose 23 = .ok (.ireturn, 1) := by decide +kernel
theorem dX11_lose_24 : decode cX11_lose 24 = .ok (.iconst 2, 1) := by decide +kernel
theorem dX11_lose_25 : decode cX11_lose 25 = .ok (.aload_n 0, 1) := by decide +kernel
theorem dX11_lose_26 : decode cX11_lose 26 = .ok (.iload_n 1, 1) := by decide +kernel
theorem dX11_lose_27 : decode cX11_lose 27 = .ok (.invokevirtual 108, 3) := by decide +kernel
theorem dX11_lose_30 : decode cX11_lose 30 = .ok (.imul, 1) := by decide +kernel
theorem dX11_lose_31 : decode cX11_lose 31 = .ok (.iload_n 2, 1) := by decide +kernel
theorem dX11_lose_32 : decode cX11_lose 32 = .ok (.iadd, 1) := by decide +kernel
theorem dX11_lose_33 : decode cX11_lose 33 = .ok (.istore 4, 2) := by decide +kernel
theorem dX11_lose_35 : decode cX11_lose 35 = .ok (.aload_n 0, 1) := by decide +kernel
theorem dX11_lose_36 : decode cX11_lose 36 = .ok (.getfield 38, 3) := by decide +kernel
theorem dX11_lose_39 : decode cX11_lose 39 = .ok (.iload 4, 2) := by decide +kernel
theorem dX11_lose_41 : decode cX11_lose 41 = .ok (.baload, 1) := by decide +kernel
theorem dX11_lose_42 : decode cX11_lose 42 = .ok (.istore 5, 2) := by decide +kernel
theorem dX11_lose_44 : decode cX11_lose 44 = .ok (.aload_n 0, 1) := by decide +kernel
theorem dX11_lose_45 : decode cX11_lose 45 = .ok (.getfield 38, 3) := by decide +kernel
theorem dX11_lose_48 : decode cX11_lose 48 = .ok (.iload 4, 2) := by decide +kernel
theorem dX11_lose_50 : decode cX11_lose 50 = .ok (.iconst 1, 1) := by decide +kernel
theorem dX11_lose_51 : decode cX11_lose 51 = .ok (.bastore, 1) := by decide +kernel
theorem dX11_lose_52 : decode cX11_lose 52 = .ok (.iload 5, 2) := by decide +kernel
theorem dX11_lose_54 : decode cX11_lose 54 = .ok (.ifCond .eq 7, 3) := by decide +kernel
theorem dX11_lose_57 : decode cX11_lose 57 = .ok (.iconst 0, 1) := by decide +kernel
theorem dX11_lose_58 : decode cX11_lose 58 = .ok (.goto 4, 3) := by decide +kernel
theorem dX11_lose_61 : decode cX11_lose 61 = .ok (.iconst 1, 1) := by decide +kernel
theorem dX11_lose_62 : decode cX11_lose 62 = .ok (.ireturn, 1) := by decide +kernel
theorem dX11_mend_0 : decode cX11_mend 0 = .ok (.aload_n 0, 1) := by decide +kernel
theorem dX11_mend_1 : decode cX11_mend 1 = .ok (.iload_n 1, 1) := by decide +kernel
theorem dX11_mend_2 : decode cX11_mend 2 = .ok (.invokevirtual 205, 3) := by decide +kernel
theorem dX11_mend_5 : decode cX11_mend 5 = .ok (.istore_n 2, 1) := by decide +kernel
theorem dX11_mend_6 : decode cX11_mend 6 = .ok (.iload_n 2, 1) := by decide +kernel
theorem dX11_mend_7 : decode cX11_mend 7 = .ok (.ifCond .ge 5, 3) := by decide +kernel
theorem dX11_mend_10 : decode cX11_mend 10 = .ok (.iload_n 2, 1) := by decide +kernel
theorem dX11_mend_11 : decode cX11_mend 11 = .ok (.ireturn, 1) := by decide +kernel
theorem dX11_mend_12 : decode cX11_mend 12 = .ok (.iconst 0, 1) := by decide +kernel
theorem dX11_mend_13 : decode cX11_mend 13 = .ok (.istore_n 3, 1) := by decide +kernel
theorem dX11_mend_14 : decode cX11_mend 14 = .ok (.iconst 2, 1) := by decide +kernel
theorem dX11_mend_15 : decode cX11_mend 15 = .ok (.aload_n 0, 1) := by decide +kernel
theorem dX11_mend_16 : decode cX11_mend 16 = .ok (.iload_n 1, 1) := by decide +kernel
theorem dX11_mend_17 : decode cX11_mend 17 = .ok (.invokevirtual 108, 3) := by decide +kernel
theorem dX11_mend_20 : decode cX11_mend 20 = .ok (.imul, 1) := by decide +kernel
theorem dX11_mend_21 : decode cX11_mend 21 = .ok (.istore 4, 2) := by decide +kernel
theorem dX11_mend_23 : decode cX11_mend 23 = .ok (.iload 4, 2) := by decide +kernel
theorem dX11_mend_25 : decode cX11_mend 25 = .ok (.iconst 2, 1) := by decide +kernel
theorem dX11_mend_26 : decode cX11_mend 26 = .ok (.aload_n 0, 1) := by decide +kernel
theorem dX11_mend_27 : decode cX11_mend 27 = .ok (.iload_n 1, 1) := by decide +kernel
theorem dX11_mend_28 : decode cX11_mend 28 = .ok (.invokevirtual 108, 3) := by decide +kernel
theorem dX11_mend_31 : decode cX11_mend 31 = .ok (.imul, 1) := by decide +kernel
theorem dX11_mend_32 : decode cX11_mend 32 = .ok (.iconst 2, 1) := by decide +kernel
theorem dX11_mend_33 : decode cX11_mend 33 = .ok (.iadd, 1) := by decide +kernel
theorem dX11_mend_34 : decode cX11_mend 34 = .ok (.if_icmp .ge 35, 3) := by decide +kernel
theorem dX11_mend_37 : decode cX11_mend 37 = .ok (.iload_n 3, 1) := by decide +kernel
theorem dX11_mend_38 : decode cX11_mend 38 = .ok (.aload_n 0, 1) := by decide +kernel
theorem dX11_mend_39 : decode cX11_mend 39 = .ok (.getfield 38, 3) := by decide +kernel
theorem dX11_mend_42 : decode cX11_mend 42 = .ok (.iload 4, 2) := by decide +kernel
theorem dX11_mend_44 : decode cX11_mend 44 = .ok (.baload, 1) := by decide +kernel
theorem dX11_mend_45 : decode cX11_mend 45 = .ok (.ifCond .eq 7, 3) := by decide +kernel
theorem dX11_mend_48 : decode cX11_mend 48 = .ok (.iconst 1, 1) := by decide +kernel
theorem dX11_mend_49 : decode cX11_mend 49 = .ok (.goto 4, 3) := by decide +kernel
theorem dX11_mend_52 : decode cX11_mend 52 = .ok (.iconst 0, 1) := by decide +kernel
theorem dX11_mend_53 : decode cX11_mend 53 = .ok (.iadd, 1) := by decide +kernel
theorem dX11_mend_54 : decode cX11_mend 54 = .ok (.istore_n 3, 1) := by decide +kernel
theorem dX11_mend_55 : decode cX11_mend 55 = .ok (.aload_n 0, 1) := by decide +kernel
theorem dX11_mend_56 : decode cX11_mend 56 = .ok (.getfield 38, 3) := by decide +kernel
theorem dX11_mend_59 : decode cX11_mend 59 = .ok (.iload 4, 2) := by decide +kernel
theorem dX11_mend_61 : decode cX11_mend 61 = .ok (.iconst 0, 1) := by decide +kernel
theorem dX11_mend_62 : decode cX11_mend 62 = .ok (.bastore, 1) := by decide +kernel
theorem dX11_mend_63 : decode cX11_mend 63 = .ok (.iinc 4 1, 3) := by decide +kernel
theorem dX11_mend_66 : decode cX11_mend 66 = .ok (.goto (-43), 3) := by decide +kernel
theorem dX11_mend_69 : decode cX11_mend 69 = .ok (.iload_n 3, 1) := by decide +kernel
theorem dX11_mend_70 : decode cX11_mend 70 = .ok (.ireturn, 1) := by decide +kernel
theorem dX11_tell_0 : decode cX11_tell 0 = .ok (.aload_n 0, 1) := by decide +kernel
theorem dX11_tell_1 : decode cX11_tell 1 = .ok (.getfield 86, 3) := by decide +kernel
theorem dX11_tell_4 : decode cX11_tell 4 = .ok (.aload_n 0, 1) := by decide +kernel
theorem dX11_tell_5 : decode cX11_tell 5 = .ok (.getfield 92, 3) := by decide +kernel
theorem dX11_tell_8 : decode cX11_tell 8 = .ok (.iload_n 1, 1) := by decide +kernel
theorem dX11_tell_9 : decode cX11_tell 9 = .ok (.iastore, 1) := by decide +kernel
theorem dX11_tell_10 : decode cX11_tell 10 = .ok (.aload_n 0, 1) := by decide +kernel
theorem dX11_tell_11 : decode cX11_tell 11 = .ok (.dup, 1) := by decide +kernel
theorem dX11_tell_12 : decode cX11_tell 12 = .ok (.getfield 92, 3) := by decide +kernel
theorem dX11_tell_15 : decode cX11_tell 15 = .ok (.iconst 1, 1) := by decide +kernel
theorem dX11_tell_16 : decode cX11_tell 16 = .ok (.iadd, 1) := by decide +kernel
theorem dX11_tell_17 : decode cX11_tell 17 = .ok (.putfield 92, 3) := by decide +kernel
theorem dX11_tell_20 : decode cX11_tell 20 = .ok (.return_, 1) := by decide +kernel
theorem dX11_forked_0 : decode cX11_forked 0 = .ok (.aload_n 0, 1) := by decide +kernel
theorem dX11_forked_1 : decode cX11_forked 1 = .ok (.iload_n 1, 1) := by decide +kernel
theorem dX11_forked_2 : decode cX11_forked 2 = .ok (.invokevirtual 175, 3) := by decide +kernel
theorem dX11_forked_5 : decode cX11_forked 5 = .ok (.istore_n 2, 1) := by decide +kernel
theorem dX11_forked_6 : decode cX11_forked 6 = .ok (.iload_n 2, 1) := by decide +kernel
theorem dX11_forked_7 : decode cX11_forked 7 = .ok (.ifCond .ge 5, 3) := by decide +kernel
theorem dX11_forked_10 : decode cX11_forked 10 = .ok (.iload_n 2, 1) := by decide +kernel
theorem dX11_forked_11 : decode cX11_forked 11 = .ok (.ireturn, 1) := by decide +kernel
theorem dX11_forked_12 : decode cX11_forked 12 = .ok (.aload_n 0, 1) := by decide +kernel
theorem dX11_forked_13 : decode cX11_forked 13 = .ok (.getfield 20, 3) := by decide +kernel
theorem dX11_forked_16 : decode cX11_forked 16 = .ok (.aload_n 0, 1) := by decide +kernel
theorem dX11_forked_17 : decode cX11_forked 17 = .ok (.iload_n 1, 1) := by decide +kernel
theorem dX11_forked_18 : decode cX11_forked 18 = .ok (.invokevirtual 108, 3) := by decide +kernel
theorem dX11_forked_21 : decode cX11_forked 21 = .ok (.iaload, 1) := by decide +kernel
theorem dX11_forked_22 : decode cX11_forked 22 = .ok (.iconst 2, 1) := by decide +kernel
theorem dX11_forked_23 : decode cX11_forked 23 = .ok (.if_icmp .eq 6, 3) := by decide +kernel
theorem dX11_forked_26 : decode cX11_forked 26 = .ok (.bipush (-4), 2) := by decide +kernel
theorem dX11_forked_28 : decode cX11_forked 28 = .ok (.ireturn, 1) := by decide +kernel
theorem dX11_forked_29 : decode cX11_forked 29 = .ok (.aload_n 0, 1) := by decide +kernel
theorem dX11_forked_30 : decode cX11_forked 30 = .ok (.invokevirtual 126, 3) := by decide +kernel
theorem dX11_forked_33 : decode cX11_forked 33 = .ok (.ifCond .ne 6, 3) := by decide +kernel
theorem dX11_forked_36 : decode cX11_forked 36 = .ok (.bipush (-5), 2) := by decide +kernel
theorem dX11_forked_38 : decode cX11_forked 38 = .ok (.ireturn, 1) := by decide +kernel
theorem dX11_forked_39 : decode cX11_forked 39 = .ok (.aload_n 0, 1) := by decide +kernel
theorem dX11_forked_40 : decode cX11_forked 40 = .ok (.aload_n 0, 1) := by decide +kernel
theorem dX11_forked_41 : decode cX11_forked 41 = .ok (.iload_n 1, 1) := by decide +kernel
theorem dX11_forked_42 : decode cX11_forked 42 = .ok (.invokevirtual 108, 3) := by decide +kernel
theorem dX11_forked_45 : decode cX11_forked 45 = .ok (.invokevirtual 178, 3) := by decide +kernel
theorem dX11_forked_48 : decode cX11_forked 48 = .ok (.ifCond .eq 8, 3) := by decide +kernel
theorem dX11_forked_51 : decode cX11_forked 51 = .ok (.bipush (-6), 2) := by decide +kernel
theorem dX11_forked_53 : decode cX11_forked 53 = .ok (.goto 4, 3) := by decide +kernel
theorem dX11_forked_56 : decode cX11_forked 56 = .ok (.iconst 0, 1) := by decide +kernel
theorem dX11_forked_57 : decode cX11_forked 57 = .ok (.ireturn, 1) := by decide +kernel
theorem dX11_goesDown_0 : decode cX11_goesDown 0 = .ok (.aload_n 0, 1) := by decide +kernel
theorem dX11_goesDown_1 : decode cX11_goesDown 1 = .ok (.iload_n 1, 1) := by decide +kernel
theorem dX11_goesDown_2 : decode cX11_goesDown 2 = .ok (.iconst 0, 1) := by decide +kernel
theorem dX11_goesDown_3 : decode cX11_goesDown 3 = .ok (.invokevirtual 152, 3) := by decide +kernel
theorem dX11_goesDown_6 : decode cX11_goesDown 6 = .ok (.aload_n 0, 1) := by decide +kernel
theorem dX11_goesDown_7 : decode cX11_goesDown 7 = .ok (.iconst 0, 1) := by decide +kernel
theorem dX11_goesDown_8 : decode cX11_goesDown 8 = .ok (.putfield 92, 3) := by decide +kernel
theorem dX11_goesDown_11 : decode cX11_goesDown 11 = .ok (.iconst 0, 1) := by decide +kernel
theorem dX11_goesDown_12 : decode cX11_goesDown 12 = .ok (.istore_n 2, 1) := by decide +kernel
theorem dX11_goesDown_13 : decode cX11_goesDown 13 = .ok (.iconst 0, 1) := by decide +kernel
theorem dX11_goesDown_14 : decode cX11_goesDown 14 = .ok (.istore_n 3, 1) := by decide +kernel
theorem dX11_goesDown_15 : decode cX11_goesDown 15 = .ok (.iconst 1, 1) := by decide +kernel
theorem dX11_goesDown_16 : decode cX11_goesDown 16 = .ok (.istore 4, 2) := by decide +kernel
theorem dX11_goesDown_18 : decode cX11_goesDown 18 = .ok (.iload_n 3, 1) := by decide +kernel
theorem dX11_goesDown_19 : decode cX11_goesDown 19 = .ok (.aload_n 0, 1) := by decide +kernel
theorem dX11_goesDown_20 : decode cX11_goesDown 20 = .ok (.getfield 59, 3) := by decide +kernel
theorem dX11_goesDown_23 : decode cX11_goesDown 23 = .ok (.if_icmp .ge 124, 3) := by decide +kernel
theorem dX11_goesDown_26 : decode cX11_goesDown 26 = .ok (.iload 4, 2) := by decide +kernel
theorem dX11_goesDown_28 : decode cX11_goesDown 28 = .ok (.ifCond .eq 119, 3) := by decide +kernel
theorem dX11_goesDown_31 : decode cX11_goesDown 31 = .ok (.iconst 0, 1) := by decide +kernel
theorem dX11_goesDown_32 : decode cX11_goesDown 32 = .ok (.istore 4, 2) := by decide +kernel
theorem dX11_goesDown_34 : decode cX11_goesDown 34 = .ok (.iload_n 2, 1) := by decide +kernel
theorem dX11_goesDown_35 : decode cX11_goesDown 35 = .ok (.istore 5, 2) := by decide +kernel
theorem dX11_goesDown_37 : decode cX11_goesDown 37 = .ok (.aload_n 0, 1) := by decide +kernel
theorem dX11_goesDown_38 : decode cX11_goesDown 38 = .ok (.getfield 71, 3) := by decide +kernel
theorem dX11_goesDown_41 : decode cX11_goesDown 41 = .ok (.iload 5, 2) := by decide +kernel
theorem dX11_goesDown_43 : decode cX11_goesDown 43 = .ok (.iaload, 1) := by decide +kernel
theorem dX11_goesDown_44 : decode cX11_goesDown 44 = .ok (.istore 6, 2) := by decide +kernel
theorem dX11_goesDown_46 : decode cX11_goesDown 46 = .ok (.iload 6, 2) := by decide +kernel
theorem dX11_goesDown_48 : decode cX11_goesDown 48 = .ok (.aload_n 0, 1) := by decide +kernel
theorem dX11_goesDown_49 : decode cX11_goesDown 49 = .ok (.getfield 71, 3) := by decide +kernel
theorem dX11_goesDown_52 : decode cX11_goesDown 52 = .ok (.iload 5, 2) := by decide +kernel
theorem dX11_goesDown_54 : decode cX11_goesDown 54 = .ok (.iconst 1, 1) := by decide +kernel
theorem dX11_goesDown_55 : decode cX11_goesDown 55 = .ok (.iadd, 1) := by decide +kernel
theorem dX11_goesDown_56 : decode cX11_goesDown 56 = .ok (.iaload, 1) := by decide +kernel
theorem dX11_goesDown_57 : decode cX11_goesDown 57 = .ok (.if_icmp .ge 74, 3) := by decide +kernel
theorem dX11_goesDown_60 : decode cX11_goesDown 60 = .ok (.iload 4, 2) := by decide +kernel
theorem dX11_goesDown_62 : decode cX11_goesDown 62 = .ok (.ifCond .ne 69, 3) := by decide +kernel
theorem dX11_goesDown_65 : decode cX11_goesDown 65 = .ok (.aload_n 0, 1) := by decide +kernel
theorem dX11_goesDown_66 : decode cX11_goesDown 66 = .ok (.iload_n 1, 1) := by decide +kernel
theorem dX11_goesDown_67 : decode cX11_goesDown 67 = .ok (.aload_n 0, 1) := by decide +kernel
theorem dX11_goesDown_68 : decode cX11_goesDown 68 = .ok (.getfield 62, 3) := by decide +kernel
theorem dX11_goesDown_71 : decode cX11_goesDown 71 = .ok (.iload 6, 2) := by decide +kernel
theorem dX11_goesDown_73 : decode cX11_goesDown 73 = .ok (.iconst 1, 1) := by decide +kernel
theorem dX11_goesDown_74 : decode cX11_goesDown 74 = .ok (.iadd, 1) := by decide +kernel
theorem dX11_goesDown_75 : decode cX11_goesDown 75 = .ok (.iaload, 1) := by decide +kernel
theorem dX11_goesDown_76 : decode cX11_goesDown 76 = .ok (.iload_n 3, 1) := by decide +kernel
theorem dX11_goesDown_77 : decode cX11_goesDown 77 = .ok (.invokevirtual 111, 3) := by decide +kernel
theorem dX11_goesDown_80 : decode cX11_goesDown 80 = .ok (.aload_n 0, 1) := by decide +kernel
theorem dX11_goesDown_81 : decode cX11_goesDown 81 = .ok (.getfield 56, 3) := by decide +kernel
theorem dX11_goesDown_84 : decode cX11_goesDown 84 = .ok (.iload_n 3, 1) := by decide +kernel
theorem dX11_goesDown_85 : decode cX11_goesDown 85 = .ok (.iaload, 1) := by decide +kernel
theorem dX11_goesDown_86 : decode cX11_goesDown 86 = .ok (.if_icmp .eq 6, 3) := by decide +kernel
theorem dX11_goesDown_89 : decode cX11_goesDown 89 = .ok (.goto 36, 3) := by decide +kernel
theorem dX11_goesDown_92 : decode cX11_goesDown 92 = .ok (.aload_n 0, 1) := by decide +kernel
theorem dX11_goesDown_93 : decode cX11_goesDown 93 = .ok (.iload 6, 2) := by decide +kernel
theorem dX11_goesDown_95 : decode cX11_goesDown 95 = .ok (.iload 5, 2) := by decide +kernel
theorem dX11_goesDown_97 : decode cX11_goesDown 97 = .ok (.iadd, 1) := by decide +kernel
theorem dX11_goesDown_98 : decode cX11_goesDown 98 = .ok (.invokevirtual 214, 3) := by decide +kernel
theorem dX11_goesDown_101 : decode cX11_goesDown 101 = .ok (.aload_n 0, 1) := by decide +kernel
theorem dX11_goesDown_102 : decode cX11_goesDown 102 = .ok (.iload 6, 2) := by decide +kernel
theorem dX11_goesDown_104 : decode cX11_goesDown 104 = .ok (.invokevirtual 214, 3) := by decide +kernel
theorem dX11_goesDown_107 : decode cX11_goesDown 107 = .ok (.aload_n 0, 1) := by decide +kernel
theorem dX11_goesDown_108 : decode cX11_goesDown 108 = .ok (.aload_n 0, 1) := by decide +kernel
theorem dX11_goesDown_109 : decode cX11_goesDown 109 = .ok (.getfield 56, 3) := by decide +kernel
theorem dX11_goesDown_112 : decode cX11_goesDown 112 = .ok (.iload_n 3, 1) := by decide +kernel
theorem dX11_goesDown_113 : decode cX11_goesDown 113 = .ok (.iaload, 1) := by decide +kernel
theorem dX11_goesDown_114 : decode cX11_goesDown 114 = .ok (.invokevirtual 214, 3) := by decide +kernel
theorem dX11_goesDown_117 : decode cX11_goesDown 117 = .ok (.iload 6, 2) := by decide +kernel
theorem dX11_goesDown_119 : decode cX11_goesDown 119 = .ok (.iconst 1, 1) := by decide +kernel
theorem dX11_goesDown_120 : decode cX11_goesDown 120 = .ok (.iadd, 1) := by decide +kernel
theorem dX11_goesDown_121 : decode cX11_goesDown 121 = .ok (.istore_n 2, 1) := by decide +kernel
theorem dX11_goesDown_122 : decode cX11_goesDown 122 = .ok (.iconst 1, 1) := by decide +kernel
theorem dX11_goesDown_123 : decode cX11_goesDown 123 = .ok (.istore 4, 2) := by decide +kernel
theorem dX11_goesDown_125 : decode cX11_goesDown 125 = .ok (.iinc 6 1, 3) := by decide +kernel
theorem dX11_goesDown_128 : decode cX11_goesDown 128 = .ok (.goto (-82), 3) := by decide +kernel
theorem dX11_goesDown_131 : decode cX11_goesDown 131 = .ok (.iload_n 3, 1) := by decide +kernel
theorem dX11_goesDown_132 : decode cX11_goesDown 132 = .ok (.iload 4, 2) := by decide +kernel
theorem dX11_goesDown_134 : decode cX11_goesDown 134 = .ok (.ifCond .eq 7, 3) := by decide +kernel
theorem dX11_goesDown_137 : decode cX11_goesDown 137 = .ok (.iconst 1, 1) := by decide +kernel
theorem dX11_goesDown_138 : decode cX11_goesDown 138 = .ok (.goto 4, 3) := by decide +kernel
theorem dX11_goesDown_141 : decode cX11_goesDown 141 = .ok (.iconst 0, 1) := by decide +kernel
theorem dX11_goesDown_142 : decode cX11_goesDown 142 = .ok (.iadd, 1) := by decide +kernel
theorem dX11_goesDown_143 : decode cX11_goesDown 143 = .ok (.istore_n 3, 1) := by decide +kernel
theorem dX11_goesDown_144 : decode cX11_goesDown 144 = .ok (.goto (-126), 3) := by decide +kernel
theorem dX11_goesDown_147 : decode cX11_goesDown 147 = .ok (.iload_n 3, 1) := by decide +kernel
theorem dX11_goesDown_148 : decode cX11_goesDown 148 = .ok (.aload_n 0, 1) := by decide +kernel
theorem dX11_goesDown_149 : decode cX11_goesDown 149 = .ok (.getfield 59, 3) := by decide +kernel
theorem dX11_goesDown_152 : decode cX11_goesDown 152 = .ok (.if_icmp .ne 16, 3) := by decide +kernel
theorem dX11_goesDown_155 : decode cX11_goesDown 155 = .ok (.aload_n 0, 1) := by decide +kernel
theorem dX11_goesDown_156 : decode cX11_goesDown 156 = .ok (.iload_n 1, 1) := by decide +kernel
theorem dX11_goesDown_157 : decode cX11_goesDown 157 = .ok (.iload_n 2, 1) := by decide +kernel
theorem dX11_goesDown_158 : decode cX11_goesDown 158 = .ok (.invokevirtual 156, 3) := by decide +kernel
theorem dX11_goesDown_161 : decode cX11_goesDown 161 = .ok (.ifCond .eq 7, 3) := by decide +kernel
theorem dX11_goesDown_164 : decode cX11_goesDown 164 = .ok (.iconst 1, 1) := by decide +kernel
theorem dX11_goesDown_165 : decode cX11_goesDown 165 = .ok (.goto 4, 3) := by decide +kernel
theorem dX11_goesDown_168 : decode cX11_goesDown 168 = .ok (.iconst 0, 1) := by decide +kernel
theorem dX11_goesDown_169 : decode cX11_goesDown 169 = .ok (.istore 5, 2) := by decide +kernel
theorem dX11_goesDown_171 : decode cX11_goesDown 171 = .ok (.aload_n 0, 1) := by decide +kernel
theorem dX11_goesDown_172 : decode cX11_goesDown 172 = .ok (.iconst (-1), 1) := by decide +kernel
theorem dX11_goesDown_173 : decode cX11_goesDown 173 = .ok (.invokevirtual 214, 3) := by decide +kernel
theorem dX11_goesDown_176 : decode cX11_goesDown 176 = .ok (.aload_n 0, 1) := by decide +kernel
theorem dX11_goesDown_177 : decode cX11_goesDown 177 = .ok (.iload_n 2, 1) := by decide +kernel
theorem dX11_goesDown_178 : decode cX11_goesDown 178 = .ok (.invokevirtual 214, 3) := by decide +kernel
theorem dX11_goesDown_181 : decode cX11_goesDown 181 = .ok (.aload_n 0, 1) := by decide +kernel
theorem dX11_goesDown_182 : decode cX11_goesDown 182 = .ok (.iload 5, 2) := by decide +kernel
theorem dX11_goesDown_184 : decode cX11_goesDown 184 = .ok (.invokevirtual 214, 3) := by decide +kernel
theorem dX11_goesDown_187 : decode cX11_goesDown 187 = .ok (.iload 5, 2) := by decide +kernel
theorem dX11_goesDown_189 : decode cX11_goesDown 189 = .ok (.ireturn, 1) := by decide +kernel
theorem dX11_witness_0 : decode cX11_witness 0 = .ok (.aload_n 0, 1) := by decide +kernel
theorem dX11_witness_1 : decode cX11_witness 1 = .ok (.iload_n 1, 1) := by decide +kernel
theorem dX11_witness_2 : decode cX11_witness 2 = .ok (.invokevirtual 217, 3) := by decide +kernel
theorem dX11_witness_5 : decode cX11_witness 5 = .ok (.istore_n 2, 1) := by decide +kernel
theorem dX11_witness_6 : decode cX11_witness 6 = .ok (.iload_n 2, 1) := by decide +kernel
theorem dX11_witness_7 : decode cX11_witness 7 = .ok (.ifCond .ge 5, 3) := by decide +kernel
theorem dX11_witness_10 : decode cX11_witness 10 = .ok (.iload_n 2, 1) := by decide +kernel
theorem dX11_witness_11 : decode cX11_witness 11 = .ok (.ireturn, 1) := by decide +kernel
theorem dX11_witness_12 : decode cX11_witness 12 = .ok (.aload_n 0, 1) := by decide +kernel
theorem dX11_witness_13 : decode cX11_witness 13 = .ok (.aload_n 0, 1) := by decide +kernel
theorem dX11_witness_14 : decode cX11_witness 14 = .ok (.iload_n 1, 1) := by decide +kernel
theorem dX11_witness_15 : decode cX11_witness 15 = .ok (.invokevirtual 108, 3) := by decide +kernel
theorem dX11_witness_18 : decode cX11_witness 18 = .ok (.invokevirtual 220, 3) := by decide +kernel
theorem dX11_witness_21 : decode cX11_witness 21 = .ok (.istore_n 3, 1) := by decide +kernel
theorem dX11_witness_22 : decode cX11_witness 22 = .ok (.iconst 0, 1) := by decide +kernel
theorem dX11_witness_23 : decode cX11_witness 23 = .ok (.istore 4, 2) := by decide +kernel
theorem dX11_witness_25 : decode cX11_witness 25 = .ok (.iload 4, 2) := by decide +kernel
theorem dX11_witness_27 : decode cX11_witness 27 = .ok (.aload_n 0, 1) := by decide +kernel
theorem dX11_witness_28 : decode cX11_witness 28 = .ok (.getfield 92, 3) := by decide +kernel
theorem dX11_witness_31 : decode cX11_witness 31 = .ok (.if_icmp .ge 23, 3) := by decide +kernel
theorem dX11_witness_34 : decode cX11_witness 34 = .ok (.aload_n 0, 1) := by decide +kernel
theorem dX11_witness_35 : decode cX11_witness 35 = .ok (.getfield 83, 3) := by decide +kernel
theorem dX11_witness_38 : decode cX11_witness 38 = .ok (.iload 4, 2) := by decide +kernel
theorem dX11_witness_40 : decode cX11_witness 40 = .ok (.aload_n 0, 1) := by decide +kernel
theorem dX11_witness_41 : decode cX11_witness 41 = .ok (.getfield 86, 3) := by decide +kernel
theorem dX11_witness_44 : decode cX11_witness 44 = .ok (.iload 4, 2) := by decide +kernel
theorem dX11_witness_46 : decode cX11_witness 46 = .ok (.iaload, 1) := by decide +kernel
theorem dX11_witness_47 : decode cX11_witness 47 = .ok (.iastore, 1) := by decide +kernel
theorem dX11_witness_48 : decode cX11_witness 48 = .ok (.iinc 4 1, 3) := by decide +kernel
theorem dX11_witness_51 : decode cX11_witness 51 = .ok (.goto (-26), 3) := by decide +kernel
theorem dX11_witness_54 : decode cX11_witness 54 = .ok (.aload_n 0, 1) := by decide +kernel
theorem dX11_witness_55 : decode cX11_witness 55 = .ok (.aload_n 0, 1) := by decide +kernel
theorem dX11_witness_56 : decode cX11_witness 56 = .ok (.getfield 92, 3) := by decide +kernel
theorem dX11_witness_59 : decode cX11_witness 59 = .ok (.putfield 89, 3) := by decide +kernel
theorem dX11_witness_62 : decode cX11_witness 62 = .ok (.iload_n 3, 1) := by decide +kernel
theorem dX11_witness_63 : decode cX11_witness 63 = .ok (.ireturn, 1) := by decide +kernel
theorem dX11_witnessed_0 : decode cX11_witnessed 0 = .ok (.aload_n 0, 1) := by decide +kernel
theorem dX11_witnessed_1 : decode cX11_witnessed 1 = .ok (.getfield 89, 3) := by decide +kernel
theorem dX11_witnessed_4 : decode cX11_witnessed 4 = .ok (.ireturn, 1) := by decide +kernel
theorem dX11_told_0 : decode cX11_told 0 = .ok (.iload_n 1, 1) := by decide +kernel
theorem dX11_told_1 : decode cX11_told 1 = .ok (.ifCond .lt 11, 3) := by decide +kernel
theorem dX11_told_4 : decode cX11_told 4 = .ok (.iload_n 1, 1) := by decide +kernel
theorem dX11_told_5 : decode cX11_told 5 = .ok (.aload_n 0, 1) := by decide +kernel
theorem dX11_told_6 : decode cX11_told 6 = .ok (.getfield 89, 3) := by decide +kernel
theorem dX11_told_9 : decode cX11_told 9 = .ok (.if_icmp .lt 8, 3) := by decide +kernel
theorem dX11_told_12 : decode cX11_told 12 = .ok (.bipush (-2), 2) := by decide +kernel
theorem dX11_told_14 : decode cX11_told 14 = .ok (.goto 9, 3) := by decide +kernel
theorem dX11_told_17 : decode cX11_told 17 = .ok (.aload_n 0, 1) := by decide +kernel
theorem dX11_told_18 : decode cX11_told 18 = .ok (.getfield 83, 3) := by decide +kernel
theorem dX11_told_21 : decode cX11_told 21 = .ok (.iload_n 1, 1) := by decide +kernel
theorem dX11_told_22 : decode cX11_told 22 = .ok (.iaload, 1) := by decide +kernel
theorem dX11_told_23 : decode cX11_told 23 = .ok (.ireturn, 1) := by decide +kernel
theorem dX11_forge_0 : decode cX11_forge 0 = .ok (.iload_n 1, 1) := by decide +kernel
theorem dX11_forge_1 : decode cX11_forge 1 = .ok (.ifCond .lt 11, 3) := by decide +kernel
theorem dX11_forge_4 : decode cX11_forge 4 = .ok (.iload_n 1, 1) := by decide +kernel
theorem dX11_forge_5 : decode cX11_forge 5 = .ok (.aload_n 0, 1) := by decide +kernel
theorem dX11_forge_6 : decode cX11_forge 6 = .ok (.getfield 89, 3) := by decide +kernel
theorem dX11_forge_9 : decode cX11_forge 9 = .ok (.if_icmp .lt 6, 3) := by decide +kernel
theorem dX11_forge_12 : decode cX11_forge 12 = .ok (.bipush (-5), 2) := by decide +kernel
theorem dX11_forge_14 : decode cX11_forge 14 = .ok (.ireturn, 1) := by decide +kernel
theorem dX11_forge_15 : decode cX11_forge 15 = .ok (.aload_n 0, 1) := by decide +kernel
theorem dX11_forge_16 : decode cX11_forge 16 = .ok (.getfield 83, 3) := by decide +kernel
theorem dX11_forge_19 : decode cX11_forge 19 = .ok (.iload_n 1, 1) := by decide +kernel
theorem dX11_forge_20 : decode cX11_forge 20 = .ok (.iaload, 1) := by decide +kernel
theorem dX11_forge_21 : decode cX11_forge 21 = .ok (.istore_n 3, 1) := by decide +kernel
theorem dX11_forge_22 : decode cX11_forge 22 = .ok (.aload_n 0, 1) := by decide +kernel
theorem dX11_forge_23 : decode cX11_forge 23 = .ok (.getfield 83, 3) := by decide +kernel
theorem dX11_forge_26 : decode cX11_forge 26 = .ok (.iload_n 1, 1) := by decide +kernel
theorem dX11_forge_27 : decode cX11_forge 27 = .ok (.iload_n 2, 1) := by decide +kernel
theorem dX11_forge_28 : decode cX11_forge 28 = .ok (.iastore, 1) := by decide +kernel
theorem dX11_forge_29 : decode cX11_forge 29 = .ok (.iload_n 3, 1) := by decide +kernel
theorem dX11_forge_30 : decode cX11_forge 30 = .ok (.ireturn, 1) := by decide +kernel
theorem dX11_check_0 : decode cX11_check 0 = .ok (.aload_n 0, 1) := by decide +kernel
theorem dX11_check_1 : decode cX11_check 1 = .ok (.iload_n 1, 1) := by decide +kernel
theorem dX11_check_2 : decode cX11_check 2 = .ok (.invokevirtual 217, 3) := by decide +kernel
theorem dX11_check_5 : decode cX11_check 5 = .ok (.istore_n 2, 1) := by decide +kernel
theorem dX11_check_6 : decode cX11_check 6 = .ok (.iload_n 2, 1) := by decide +kernel
theorem dX11_check_7 : decode cX11_check 7 = .ok (.ifCond .ge 5, 3) := by decide +kernel
theorem dX11_check_10 : decode cX11_check 10 = .ok (.iload_n 2, 1) := by decide +kernel
theorem dX11_check_11 : decode cX11_check 11 = .ok (.ireturn, 1) := by decide +kernel
theorem dX11_check_12 : decode cX11_check 12 = .ok (.aload_n 0, 1) := by decide +kernel
theorem dX11_check_13 : decode cX11_check 13 = .ok (.aload_n 0, 1) := by decide +kernel
theorem dX11_check_14 : decode cX11_check 14 = .ok (.iload_n 1, 1) := by decide +kernel
theorem dX11_check_15 : decode cX11_check 15 = .ok (.invokevirtual 108, 3) := by decide +kernel
theorem dX11_check_18 : decode cX11_check 18 = .ok (.invokevirtual 220, 3) := by decide +kernel
theorem dX11_check_21 : decode cX11_check 21 = .ok (.istore_n 3, 1) := by decide +kernel
theorem dX11_check_22 : decode cX11_check 22 = .ok (.aload_n 0, 1) := by decide +kernel
theorem dX11_check_23 : decode cX11_check 23 = .ok (.getfield 92, 3) := by decide +kernel
theorem dX11_check_26 : decode cX11_check 26 = .ok (.aload_n 0, 1) := by decide +kernel
theorem dX11_check_27 : decode cX11_check 27 = .ok (.getfield 89, 3) := by decide +kernel
theorem dX11_check_30 : decode cX11_check 30 = .ok (.if_icmp .ne 7, 3) := by decide +kernel
theorem dX11_check_33 : decode cX11_check 33 = .ok (.iconst 1, 1) := by decide +kernel
theorem dX11_check_34 : decode cX11_check 34 = .ok (.goto 4, 3) := by decide +kernel
theorem dX11_check_37 : decode cX11_check 37 = .ok (.iconst 0, 1) := by decide +kernel
theorem dX11_check_38 : decode cX11_check 38 = .ok (.istore 4, 2) := by decide +kernel
theorem dX11_check_40 : decode cX11_check 40 = .ok (.iconst 0, 1) := by decide +kernel
theorem dX11_check_41 : decode cX11_check 41 = .ok (.istore 5, 2) := by decide +kernel
theorem dX11_check_43 : decode cX11_check 43 = .ok (.iload 5, 2) := by decide +kernel
theorem dX11_check_45 : decode cX11_check 45 = .ok (.aload_n 0, 1) := by decide +kernel
theorem dX11_check_46 : decode cX11_check 46 = .ok (.getfield 92, 3) := by decide +kernel
theorem dX11_check_49 : decode cX11_check 49 = .ok (.if_icmp .ge 38, 3) := by decide +kernel
theorem dX11_check_52 : decode cX11_check 52 = .ok (.iload 4, 2) := by decide +kernel
theorem dX11_check_54 : decode cX11_check 54 = .ok (.ifCond .eq 33, 3) := by decide +kernel
theorem dX11_check_57 : decode cX11_check 57 = .ok (.aload_n 0, 1) := by decide +kernel
theorem dX11_check_58 : decode cX11_check 58 = .ok (.getfield 86, 3) := by decide +kernel
theorem dX11_check_61 : decode cX11_check 61 = .ok (.iload 5, 2) := by decide +kernel
theorem dX11_check_63 : decode cX11_check 63 = .ok (.iaload, 1) := by decide +kernel
theorem dX11_check_64 : decode cX11_check 64 = .ok (.aload_n 0, 1) := by decide +kernel
theorem dX11_check_65 : decode cX11_check 65 = .ok (.getfield 83, 3) := by decide +kernel
theorem dX11_check_68 : decode cX11_check 68 = .ok (.iload 5, 2) := by decide +kernel
theorem dX11_check_70 : decode cX11_check 70 = .ok (.iaload, 1) := by decide +kernel
theorem dX11_check_71 : decode cX11_check 71 = .ok (.if_icmp .ne 7, 3) := by decide +kernel
theorem dX11_check_74 : decode cX11_check 74 = .ok (.iconst 1, 1) := by decide +kernel
theorem dX11_check_75 : decode cX11_check 75 = .ok (.goto 4, 3) := by decide +kernel
theorem dX11_check_78 : decode cX11_check 78 = .ok (.iconst 0, 1) := by decide +kernel
theorem dX11_check_79 : decode cX11_check 79 = .ok (.istore 4, 2) := by decide +kernel
theorem dX11_check_81 : decode cX11_check 81 = .ok (.iinc 5 1, 3) := by decide +kernel
theorem dX11_check_84 : decode cX11_check 84 = .ok (.goto (-41), 3) := by decide +kernel
theorem dX11_check_87 : decode cX11_check 87 = .ok (.iload 4, 2) := by decide +kernel
theorem dX11_check_89 : decode cX11_check 89 = .ok (.ifCond .eq 7, 3) := by decide +kernel
theorem dX11_check_92 : decode cX11_check 92 = .ok (.iconst 1, 1) := by decide +kernel
theorem dX11_check_93 : decode cX11_check 93 = .ok (.goto 4, 3) := by decide +kernel
theorem dX11_check_96 : decode cX11_check 96 = .ok (.iconst 0, 1) := by decide +kernel
theorem dX11_check_97 : decode cX11_check 97 = .ok (.ireturn, 1) := by decide +kernel
theorem dX11_lay__0 : decode cX11_lay_ 0 = .ok (.aload_n 0, 1) := by decide +kernel
theorem dX11_lay__1 : decode cX11_lay_ 1 = .ok (.getfield 7, 3) := by decide +kernel
theorem dX11_lay__4 : decode cX11_lay_ 4 = .ok (.aload_n 0, 1) := by decide +kernel
theorem dX11_lay__5 : decode cX11_lay_ 5 = .ok (.getfield 13, 3) := by decide +kernel
theorem dX11_lay__8 : decode cX11_lay_ 8 = .ok (.iload_n 1, 1) := by decide +kernel
theorem dX11_lay__9 : decode cX11_lay_ 9 = .ok (.sipush 255, 3) := by decide +kernel
theorem dX11_lay__12 : decode cX11_lay_ 12 = .ok (.iand, 1) := by decide +kernel
theorem dX11_lay__13 : decode cX11_lay_ 13 = .ok (.iastore, 1) := by decide +kernel
theorem dX11_lay__14 : decode cX11_lay_ 14 = .ok (.aload_n 0, 1) := by decide +kernel
theorem dX11_lay__15 : decode cX11_lay_ 15 = .ok (.dup, 1) := by decide +kernel
theorem dX11_lay__16 : decode cX11_lay_ 16 = .ok (.getfield 13, 3) := by decide +kernel
theorem dX11_lay__19 : decode cX11_lay_ 19 = .ok (.iconst 1, 1) := by decide +kernel
theorem dX11_lay__20 : decode cX11_lay_ 20 = .ok (.iadd, 1) := by decide +kernel
theorem dX11_lay__21 : decode cX11_lay_ 21 = .ok (.putfield 13, 3) := by decide +kernel
theorem dX11_lay__24 : decode cX11_lay_ 24 = .ok (.return_, 1) := by decide +kernel
theorem dX11_sealTape_0 : decode cX11_sealTape 0 = .ok (.iconst 0, 1) := by decide +kernel
theorem dX11_sealTape_1 : decode cX11_sealTape 1 = .ok (.istore_n 1, 1) := by decide +kernel
theorem dX11_sealTape_2 : decode cX11_sealTape 2 = .ok (.iconst 0, 1) := by decide +kernel
theorem dX11_sealTape_3 : decode cX11_sealTape 3 = .ok (.istore_n 2, 1) := by decide +kernel
theorem dX11_sealTape_4 : decode cX11_sealTape 4 = .ok (.iload_n 2, 1) := by decide +kernel
theorem dX11_sealTape_5 : decode cX11_sealTape 5 = .ok (.aload_n 0, 1) := by decide +kernel
theorem dX11_sealTape_6 : decode cX11_sealTape 6 = .ok (.getfield 13, 3) := by decide +kernel
theorem dX11_sealTape_9 : decode cX11_sealTape 9 = .ok (.if_icmp .ge 18, 3) := by decide +kernel
theorem dX11_sealTape_12 : decode cX11_sealTape 12 = .ok (.iload_n 1, 1) := by decide +kernel
theorem dX11_sealTape_13 : decode cX11_sealTape 13 = .ok (.aload_n 0, 1) := by decide +kernel
theorem dX11_sealTape_14 : decode cX11_sealTape 14 = .ok (.getfield 7, 3) := by decide +kernel
theorem dX11_sealTape_17 : decode cX11_sealTape 17 = .ok (.iload_n 2, 1) := by decide +kernel
theorem dX11_sealTape_18 : decode cX11_sealTape 18 = .ok (.iaload, 1) := by decide +kernel
theorem dX11_sealTape_19 : decode cX11_sealTape 19 = .ok (.iadd, 1) := by decide +kernel
theorem dX11_sealTape_20 : decode cX11_sealTape 20 = .ok (.istore_n 1, 1) := by decide +kernel
theorem dX11_sealTape_21 : decode cX11_sealTape 21 = .ok (.iinc 2 1, 3) := by decide +kernel
theorem dX11_sealTape_24 : decode cX11_sealTape 24 = .ok (.goto (-20), 3) := by decide +kernel
theorem dX11_sealTape_27 : decode cX11_sealTape 27 = .ok (.aload_n 0, 1) := by decide +kernel
theorem dX11_sealTape_28 : decode cX11_sealTape 28 = .ok (.iload_n 1, 1) := by decide +kernel
theorem dX11_sealTape_29 : decode cX11_sealTape 29 = .ok (.ineg, 1) := by decide +kernel
theorem dX11_sealTape_30 : decode cX11_sealTape 30 = .ok (.invokevirtual 223, 3) := by decide +kernel
theorem dX11_sealTape_33 : decode cX11_sealTape 33 = .ok (.return_, 1) := by decide +kernel
theorem dX11_image_0 : decode cX11_image 0 = .ok (.aload_n 0, 1) := by decide +kernel
theorem dX11_image_1 : decode cX11_image 1 = .ok (.iload_n 1, 1) := by decide +kernel
theorem dX11_image_2 : decode cX11_image 2 = .ok (.invokevirtual 175, 3) := by decide +kernel
theorem dX11_image_5 : decode cX11_image 5 = .ok (.istore_n 2, 1) := by decide +kernel
theorem dX11_image_6 : decode cX11_image 6 = .ok (.iload_n 2, 1) := by decide +kernel
theorem dX11_image_7 : decode cX11_image 7 = .ok (.ifCond .ge 5, 3) := by decide +kernel
theorem dX11_image_10 : decode cX11_image 10 = .ok (.iload_n 2, 1) := by decide +kernel
theorem dX11_image_11 : decode cX11_image 11 = .ok (.ireturn, 1) := by decide +kernel
theorem dX11_image_12 : decode cX11_image 12 = .ok (.aload_n 0, 1) := by decide +kernel
theorem dX11_image_13 : decode cX11_image 13 = .ok (.iload_n 1, 1) := by decide +kernel
theorem dX11_image_14 : decode cX11_image 14 = .ok (.invokevirtual 108, 3) := by decide +kernel
theorem dX11_image_17 : decode cX11_image 17 = .ok (.istore_n 3, 1) := by decide +kernel
theorem dX11_image_18 : decode cX11_image 18 = .ok (.aload_n 0, 1) := by decide +kernel
theorem dX11_image_19 : decode cX11_image 19 = .ok (.iload_n 3, 1) := by decide +kernel
theorem dX11_image_20 : decode cX11_image 20 = .ok (.invokevirtual 178, 3) := by decide +kernel
theorem dX11_image_23 : decode cX11_image 23 = .ok (.ifCond .eq 6, 3) := by decide +kernel
theorem dX11_image_26 : decode cX11_image 26 = .ok (.bipush (-6), 2) := by decide +kernel
theorem dX11_image_28 : decode cX11_image 28 = .ok (.ireturn, 1) := by decide +kernel
theorem dX11_image_29 : decode cX11_image 29 = .ok (.aload_n 0, 1) := by decide +kernel
theorem dX11_image_30 : decode cX11_image 30 = .ok (.iload_n 3, 1) := by decide +kernel
theorem dX11_image_31 : decode cX11_image 31 = .ok (.invokevirtual 211, 3) := by decide +kernel
theorem dX11_image_34 : decode cX11_image 34 = .ok (.istore 4, 2) := by decide +kernel
theorem dX11_image_36 : decode cX11_image 36 = .ok (.iconst 4, 1) := by decide +kernel
theorem dX11_image_37 : decode cX11_image 37 = .ok (.istore 5, 2) := by decide +kernel
theorem dX11_image_39 : decode cX11_image 39 = .ok (.iconst 0, 1) := by decide +kernel
theorem dX11_image_40 : decode cX11_image 40 = .ok (.istore 6, 2) := by decide +kernel
theorem dX11_image_42 : decode cX11_image 42 = .ok (.iload 6, 2) := by decide +kernel
theorem dX11_image_44 : decode cX11_image 44 = .ok (.aload_n 0, 1) := by decide +kernel
theorem dX11_image_45 : decode cX11_image 45 = .ok (.getfield 23, 3) := by decide +kernel
theorem dX11_image_48 : decode cX11_image 48 = .ok (.iload_n 3, 1) := by decide +kernel
theorem dX11_image_49 : decode cX11_image 49 = .ok (.iaload, 1) := by decide +kernel
theorem dX11_image_50 : decode cX11_image 50 = .ok (.if_icmp .ge 31, 3) := by decide +kernel
theorem dX11_image_53 : decode cX11_image 53 = .ok (.iload 5, 2) := by decide +kernel
theorem dX11_image_55 : decode cX11_image 55 = .ok (.iconst 1, 1) := by decide +kernel
theorem dX11_image_56 : decode cX11_image 56 = .ok (.aload_n 0, 1) := by decide +kernel
theorem dX11_image_57 : decode cX11_image 57 = .ok (.getfield 46, 3) := by decide +kernel
theorem dX11_image_60 : decode cX11_image 60 = .ok (.bipush 100, 2) := by decide +kernel
theorem dX11_image_62 : decode cX11_image 62 = .ok (.iload_n 3, 1) := by decide +kernel
theorem dX11_image_63 : decode cX11_image 63 = .ok (.imul, 1) := by decide +kernel
theorem dX11_image_64 : decode cX11_image 64 = .ok (.iload 6, 2) := by decide +kernel
theorem dX11_image_66 : decode cX11_image 66 = .ok (.iadd, 1) := by decide +kernel
theorem dX11_image_67 : decode cX11_image 67 = .ok (.iaload, 1) := by decide +kernel
theorem dX11_image_68 : decode cX11_image 68 = .ok (.iadd, 1) := by decide +kernel
theorem dX11_image_69 : decode cX11_image 69 = .ok (.iload 4, 2) := by decide +kernel
theorem dX11_image_71 : decode cX11_image 71 = .ok (.iadd, 1) := by decide +kernel
theorem dX11_image_72 : decode cX11_image 72 = .ok (.iadd, 1) := by decide +kernel
theorem dX11_image_73 : decode cX11_image 73 = .ok (.istore 5, 2) := by decide +kernel
theorem dX11_image_75 : decode cX11_image 75 = .ok (.iinc 6 1, 3) := by decide +kernel
theorem dX11_image_78 : decode cX11_image 78 = .ok (.goto (-36), 3) := by decide +kernel
theorem dX11_image_81 : decode cX11_image 81 = .ok (.iload 5, 2) := by decide +kernel
theorem dX11_image_83 : decode cX11_image 83 = .ok (.sipush 1000, 3) := by decide +kernel
theorem dX11_image_86 : decode cX11_image 86 = .ok (.if_icmp .le 6, 3) := by decide +kernel
theorem dX11_image_89 : decode cX11_image 89 = .ok (.bipush (-7), 2) := by decide +kernel
theorem dX11_image_91 : decode cX11_image 91 = .ok (.ireturn, 1) := by decide +kernel
theorem dX11_image_92 : decode cX11_image 92 = .ok (.aload_n 0, 1) := by decide +kernel
theorem dX11_image_93 : decode cX11_image 93 = .ok (.iconst 0, 1) := by decide +kernel
theorem dX11_image_94 : decode cX11_image 94 = .ok (.putfield 13, 3) := by decide +kernel
theorem dX11_image_97 : decode cX11_image 97 = .ok (.aload_n 0, 1) := by decide +kernel
theorem dX11_image_98 : decode cX11_image 98 = .ok (.aload_n 0, 1) := by decide +kernel
theorem dX11_image_99 : decode cX11_image 99 = .ok (.getfield 20, 3) := by decide +kernel
theorem dX11_image_102 : decode cX11_image 102 = .ok (.iload_n 3, 1) := by decide +kernel
theorem dX11_image_103 : decode cX11_image 103 = .ok (.iaload, 1) := by decide +kernel
theorem dX11_image_104 : decode cX11_image 104 = .ok (.invokevirtual 223, 3) := by decide +kernel
theorem dX11_image_107 : decode cX11_image 107 = .ok (.aload_n 0, 1) := by decide +kernel
theorem dX11_image_108 : decode cX11_image 108 = .ok (.aload_n 0, 1) := by decide +kernel
theorem dX11_image_109 : decode cX11_image 109 = .ok (.getfield 23, 3) := by decide +kernel
theorem dX11_image_112 : decode cX11_image 112 = .ok (.iload_n 3, 1) := by decide +kernel
theorem dX11_image_113 : decode cX11_image 113 = .ok (.iaload, 1) := by decide +kernel
theorem dX11_image_114 : decode cX11_image 114 = .ok (.invokevirtual 223, 3) := by decide +kernel
theorem dX11_image_117 : decode cX11_image 117 = .ok (.iconst 0, 1) := by decide +kernel
theorem dX11_image_118 : decode cX11_image 118 = .ok (.istore 6, 2) := by decide +kernel
theorem dX11_image_120 : decode cX11_image 120 = .ok (.iload 6, 2) := by decide +kernel
theorem dX11_image_122 : decode cX11_image 122 = .ok (.aload_n 0, 1) := by decide +kernel
theorem dX11_image_123 : decode cX11_image 123 = .ok (.getfield 23, 3) := by decide +kernel
theorem dX11_image_126 : decode cX11_image 126 = .ok (.iload_n 3, 1) := by decide +kernel
theorem dX11_image_127 : decode cX11_image 127 = .ok (.iaload, 1) := by decide +kernel
theorem dX11_image_128 : decode cX11_image 128 = .ok (.if_icmp .ge 104, 3) := by decide +kernel
theorem dX11_image_131 : decode cX11_image 131 = .ok (.aload_n 0, 1) := by decide +kernel
theorem dX11_image_132 : decode cX11_image 132 = .ok (.aload_n 0, 1) := by decide +kernel
theorem dX11_image_133 : decode cX11_image 133 = .ok (.getfield 46, 3) := by decide +kernel
theorem dX11_image_136 : decode cX11_image 136 = .ok (.bipush 100, 2) := by decide +kernel
theorem dX11_image_138 : decode cX11_image 138 = .ok (.iload_n 3, 1) := by decide +kernel
theorem dX11_image_139 : decode cX11_image 139 = .ok (.imul, 1) := by decide +kernel
theorem dX11_image_140 : decode cX11_image 140 = .ok (.iload 6, 2) := by decide +kernel
theorem dX11_image_142 : decode cX11_image 142 = .ok (.iadd, 1) := by decide +kernel
theorem dX11_image_143 : decode cX11_image 143 = .ok (.iaload, 1) := by decide +kernel
theorem dX11_image_144 : decode cX11_image 144 = .ok (.invokevirtual 223, 3) := by decide +kernel
theorem dX11_image_147 : decode cX11_image 147 = .ok (.iconst 0, 1) := by decide +kernel
theorem dX11_image_148 : decode cX11_image 148 = .ok (.istore 7, 2) := by decide +kernel
theorem dX11_image_150 : decode cX11_image 150 = .ok (.iload 7, 2) := by decide +kernel
theorem dX11_image_152 : decode cX11_image 152 = .ok (.aload_n 0, 1) := by decide +kernel
theorem dX11_image_153 : decode cX11_image 153 = .ok (.getfield 46, 3) := by decide +kernel
theorem dX11_image_156 : decode cX11_image 156 = .ok (.bipush 100, 2) := by decide +kernel
theorem dX11_image_158 : decode cX11_image 158 = .ok (.iload_n 3, 1) := by decide +kernel
theorem dX11_image_159 : decode cX11_image 159 = .ok (.imul, 1) := by decide +kernel
theorem dX11_image_160 : decode cX11_image 160 = .ok (.iload 6, 2) := by decide +kernel
theorem dX11_image_162 : decode cX11_image 162 = .ok (.iadd, 1) := by decide +kernel
theorem dX11_image_163 : decode cX11_image 163 = .ok (.iaload, 1) := by decide +kernel
theorem dX11_image_164 : decode cX11_image 164 = .ok (.if_icmp .ge 22, 3) := by decide +kernel
theorem dX11_image_167 : decode cX11_image 167 = .ok (.aload_n 0, 1) := by decide +kernel
theorem dX11_image_168 : decode cX11_image 168 = .ok (.aload_n 0, 1) := by decide +kernel
theorem dX11_image_169 : decode cX11_image 169 = .ok (.iload_n 3, 1) := by decide +kernel
theorem dX11_image_170 : decode cX11_image 170 = .ok (.iload 6, 2) := by decide +kernel
theorem dX11_image_172 : decode cX11_image 172 = .ok (.iload 7, 2) := by decide +kernel
theorem dX11_image_174 : decode cX11_image 174 = .ok (.invokevirtual 111, 3) := by decide +kernel
theorem dX11_image_177 : decode cX11_image 177 = .ok (.invokevirtual 223, 3) := by decide +kernel
theorem dX11_image_180 : decode cX11_image 180 = .ok (.iinc 7 1, 3) := by decide +kernel
theorem dX11_image_183 : decode cX11_image 183 = .ok (.goto (-33), 3) := by decide +kernel
theorem dX11_image_186 : decode cX11_image 186 = .ok (.iload 4, 2) := by decide +kernel
theorem dX11_image_188 : decode cX11_image 188 = .ok (.iconst 1, 1) := by decide +kernel
theorem dX11_image_189 : decode cX11_image 189 = .ok (.isub, 1) := by decide +kernel
theorem dX11_image_190 : decode cX11_image 190 = .ok (.istore 7, 2) := by decide +kernel
theorem dX11_image_192 : decode cX11_image 192 = .ok (.iload 7, 2) := by decide +kernel
theorem dX11_image_194 : decode cX11_image 194 = .ok (.ifCond .lt 32, 3) := by decide +kernel
theorem dX11_image_197 : decode cX11_image 197 = .ok (.aload_n 0, 1) := by decide +kernel
theorem dX11_image_198 : decode cX11_image 198 = .ok (.aload_n 0, 1) := by decide +kernel
theorem dX11_image_199 : decode cX11_image 199 = .ok (.getfield 52, 3) := by decide +kernel
theorem dX11_image_202 : decode cX11_image 202 = .ok (.bipush 100, 2) := by decide +kernel
theorem dX11_image_204 : decode cX11_image 204 = .ok (.iload_n 3, 1) := by decide +kernel
theorem dX11_image_205 : decode cX11_image 205 = .ok (.imul, 1) := by decide +kernel
theorem dX11_image_206 : decode cX11_image 206 = .ok (.iload 6, 2) := by decide +kernel
theorem dX11_image_208 : decode cX11_image 208 = .ok (.iadd, 1) := by decide +kernel
theorem dX11_image_209 : decode cX11_image 209 = .ok (.laload, 1) := by decide +kernel
theorem dX11_image_210 : decode cX11_image 210 = .ok (.bipush 8, 2) := by decide +kernel
theorem dX11_image_212 : decode cX11_image 212 = .ok (.iload 7, 2) := by decide +kernel
theorem dX11_image_214 : decode cX11_image 214 = .ok (.imul, 1) := by decide +kernel
theorem dX11_image_215 : decode cX11_image 215 = .ok (.lshr, 1) := by decide +kernel
theorem dX11_image_216 : decode cX11_image 216 = .ok (.l2i, 1) := by decide +kernel
theorem dX11_image_217 : decode cX11_image 217 = .ok (.invokevirtual 223, 3) := by decide +kernel
theorem dX11_image_220 : decode cX11_image 220 = .ok (.iinc 7 (-1), 3) := by decide +kernel
theorem dX11_image_223 : decode cX11_image 223 = .ok (.goto (-31), 3) := by decide +kernel
theorem dX11_image_226 : decode cX11_image 226 = .ok (.iinc 6 1, 3) := by decide +kernel
theorem dX11_image_229 : decode cX11_image 229 = .ok (.goto (-109), 3) := by decide +kernel
theorem dX11_image_232 : decode cX11_image 232 = .ok (.aload_n 0, 1) := by decide +kernel
theorem dX11_image_233 : decode cX11_image 233 = .ok (.iload 4, 2) := by decide +kernel
theorem dX11_image_235 : decode cX11_image 235 = .ok (.invokevirtual 223, 3) := by decide +kernel
theorem dX11_image_238 : decode cX11_image 238 = .ok (.aload_n 0, 1) := by decide +kernel
theorem dX11_image_239 : decode cX11_image 239 = .ok (.invokevirtual 225, 3) := by decide +kernel
theorem dX11_image_242 : decode cX11_image 242 = .ok (.aload_n 0, 1) := by decide +kernel
theorem dX11_image_243 : decode cX11_image 243 = .ok (.getfield 13, 3) := by decide +kernel
theorem dX11_image_246 : decode cX11_image 246 = .ok (.ireturn, 1) := by decide +kernel
theorem dX11_load_0 : decode cX11_load 0 = .ok (.aload_n 0, 1) := by decide +kernel
theorem dX11_load_1 : decode cX11_load 1 = .ok (.iload_n 1, 1) := by decide +kernel
theorem dX11_load_2 : decode cX11_load 2 = .ok (.invokevirtual 97, 3) := by decide +kernel
theorem dX11_load_5 : decode cX11_load 5 = .ok (.ifCond .ne 6, 3) := by decide +kernel
theorem dX11_load_8 : decode cX11_load 8 = .ok (.bipush (-2), 2) := by decide +kernel
theorem dX11_load_10 : decode cX11_load 10 = .ok (.ireturn, 1) := by decide +kernel
theorem dX11_load_11 : decode cX11_load 11 = .ok (.aload_n 0, 1) := by decide +kernel
theorem dX11_load_12 : decode cX11_load 12 = .ok (.getfield 13, 3) := by decide +kernel
theorem dX11_load_15 : decode cX11_load 15 = .ok (.istore_n 2, 1) := by decide +kernel
theorem dX11_load_16 : decode cX11_load 16 = .ok (.aload_n 0, 1) := by decide +kernel
theorem dX11_load_17 : decode cX11_load 17 = .ok (.iconst 0, 1) := by decide +kernel
theorem dX11_load_18 : decode cX11_load 18 = .ok (.putfield 13, 3) := by decide +kernel
theorem dX11_load_21 : decode cX11_load 21 = .ok (.aload_n 0, 1) := by decide +kernel
theorem dX11_load_22 : decode cX11_load 22 = .ok (.bipush 6, 2) := by decide +kernel
theorem dX11_load_24 : decode cX11_load 24 = .ok (.invokevirtual 101, 3) := by decide +kernel
theorem dX11_load_27 : decode cX11_load 27 = .ok (.istore_n 3, 1) := by decide +kernel
theorem dX11_load_28 : decode cX11_load 28 = .ok (.aload_n 0, 1) := by decide +kernel
theorem dX11_load_29 : decode cX11_load 29 = .ok (.iload_n 3, 1) := by decide +kernel
theorem dX11_load_30 : decode cX11_load 30 = .ok (.iload_n 2, 1) := by decide +kernel
theorem dX11_load_31 : decode cX11_load 31 = .ok (.invokevirtual 228, 3) := by decide +kernel
theorem dX11_load_34 : decode cX11_load 34 = .ok (.ifCond .ne 6, 3) := by decide +kernel
theorem dX11_load_37 : decode cX11_load 37 = .ok (.bipush (-5), 2) := by decide +kernel
theorem dX11_load_39 : decode cX11_load 39 = .ok (.ireturn, 1) := by decide +kernel
theorem dX11_load_40 : decode cX11_load 40 = .ok (.aload_n 0, 1) := by decide +kernel
theorem dX11_load_41 : decode cX11_load 41 = .ok (.iload_n 3, 1) := by decide +kernel
theorem dX11_load_42 : decode cX11_load 42 = .ok (.aload_n 0, 1) := by decide +kernel
theorem dX11_load_43 : decode cX11_load 43 = .ok (.getfield 7, 3) := by decide +kernel
theorem dX11_load_46 : decode cX11_load 46 = .ok (.iconst 0, 1) := by decide +kernel
theorem dX11_load_47 : decode cX11_load 47 = .ok (.iaload, 1) := by decide +kernel
theorem dX11_load_48 : decode cX11_load 48 = .ok (.invokevirtual 172, 3) := by decide +kernel
theorem dX11_load_51 : decode cX11_load 51 = .ok (.aload_n 0, 1) := by decide +kernel
theorem dX11_load_52 : decode cX11_load 52 = .ok (.getfield 17, 3) := by decide +kernel
theorem dX11_load_55 : decode cX11_load 55 = .ok (.iload_n 1, 1) := by decide +kernel
theorem dX11_load_56 : decode cX11_load 56 = .ok (.iload_n 3, 1) := by decide +kernel
theorem dX11_load_57 : decode cX11_load 57 = .ok (.iconst 1, 1) := by decide +kernel
theorem dX11_load_58 : decode cX11_load 58 = .ok (.iadd, 1) := by decide +kernel
theorem dX11_load_59 : decode cX11_load 59 = .ok (.iastore, 1) := by decide +kernel
theorem dX11_load_60 : decode cX11_load 60 = .ok (.aload_n 0, 1) := by decide +kernel
theorem dX11_load_61 : decode cX11_load 61 = .ok (.getfield 23, 3) := by decide +kernel
theorem dX11_load_64 : decode cX11_load 64 = .ok (.iload_n 3, 1) := by decide +kernel
theorem dX11_load_65 : decode cX11_load 65 = .ok (.iaload, 1) := by decide +kernel
theorem dX11_load_66 : decode cX11_load 66 = .ok (.ireturn, 1) := by decide +kernel
theorem dX11_isImage_0 : decode cX11_isImage 0 = .ok (.iload_n 2, 1) := by decide +kernel
theorem dX11_isImage_1 : decode cX11_isImage 1 = .ok (.bipush 6, 2) := by decide +kernel
theorem dX11_isImage_3 : decode cX11_isImage 3 = .ok (.if_icmp .lt 44, 3) := by decide +kernel
theorem dX11_isImage_6 : decode cX11_isImage 6 = .ok (.aload_n 0, 1) := by decide +kernel
theorem dX11_isImage_7 : decode cX11_isImage 7 = .ok (.getfield 7, 3) := by decide +kernel
theorem dX11_isImage_10 : decode cX11_isImage 10 = .ok (.iconst 0, 1) := by decide +kernel
theorem dX11_isImage_11 : decode cX11_isImage 11 = .ok (.iaload, 1) := by decide +kernel
theorem dX11_isImage_12 : decode cX11_isImage 12 = .ok (.iconst 1, 1) := by decide +kernel
theorem dX11_isImage_13 : decode cX11_isImage 13 = .ok (.if_icmp .lt 34, 3) := by decide +kernel
theorem dX11_isImage_16 : decode cX11_isImage 16 = .ok (.aload_n 0, 1) := by decide +kernel
theorem dX11_isImage_17 : decode cX11_isImage 17 = .ok (.getfield 7, 3) := by decide +kernel
theorem dX11_isImage_20 : decode cX11_isImage 20 = .ok (.iconst 0, 1) := by decide +kernel
theorem dX11_isImage_21 : decode cX11_isImage 21 = .ok (.iaload, 1) := by decide +kernel
theorem dX11_isImage_22 : decode cX11_isImage 22 = .ok (.iconst 5, 1) := by decide +kernel
theorem dX11_isImage_23 : decode cX11_isImage 23 = .ok (.if_icmp .gt 24, 3) := by decide +kernel
theorem dX11_isImage_26 : decode cX11_isImage 26 = .ok (.aload_n 0, 1) := by decide +kernel
theorem dX11_isImage_27 : decode cX11_isImage 27 = .ok (.getfield 7, 3) := by decide +kernel
theorem dX11_isImage_30 : decode cX11_isImage 30 = .ok (.iconst 1, 1) := by decide +kernel
theorem dX11_isImage_31 : decode cX11_isImage 31 = .ok (.iaload, 1) := by decide +kernel
theorem dX11_isImage_32 : decode cX11_isImage 32 = .ok (.iconst 1, 1) := by decide +kernel
theorem dX11_isImage_33 : decode cX11_isImage 33 = .ok (.if_icmp .lt 14, 3) := by decide +kernel
theorem dX11_isImage_36 : decode cX11_isImage 36 = .ok (.aload_n 0, 1) := by decide +kernel
theorem dX11_isImage_37 : decode cX11_isImage 37 = .ok (.getfield 7, 3) := by decide +kernel
theorem dX11_isImage_40 : decode cX11_isImage 40 = .ok (.iconst 1, 1) := by decide +kernel
theorem dX11_isImage_41 : decode cX11_isImage 41 = .ok (.iaload, 1) := by decide +kernel
theorem dX11_isImage_42 : decode cX11_isImage 42 = .ok (.bipush 100, 2) := by decide +kernel
theorem dX11_isImage_44 : decode cX11_isImage 44 = .ok (.if_icmp .le 5, 3) := by decide +kernel
theorem dX11_isImage_47 : decode cX11_isImage 47 = .ok (.iconst 0, 1) := by decide +kernel
theorem dX11_isImage_48 : decode cX11_isImage 48 = .ok (.ireturn, 1) := by decide +kernel
theorem dX11_isImage_49 : decode cX11_isImage 49 = .ok (.iconst 0, 1) := by decide +kernel
theorem dX11_isImage_50 : decode cX11_isImage 50 = .ok (.istore_n 3, 1) := by decide +kernel
theorem dX11_isImage_51 : decode cX11_isImage 51 = .ok (.iconst 0, 1) := by decide +kernel
theorem dX11_isImage_52 : decode cX11_isImage 52 = .ok (.istore 4, 2) := by decide +kernel
theorem dX11_isImage_54 : decode cX11_isImage 54 = .ok (.iload 4, 2) := by decide +kernel
theorem dX11_isImage_56 : decode cX11_isImage 56 = .ok (.iload_n 2, 1) := by decide +kernel
theorem dX11_isImage_57 : decode cX11_isImage 57 = .ok (.if_icmp .ge 19, 3) := by decide +kernel
theorem dX11_isImage_60 : decode cX11_isImage 60 = .ok (.iload_n 3, 1) := by decide +kernel
theorem dX11_isImage_61 : decode cX11_isImage 61 = .ok (.aload_n 0, 1) := by decide +kernel
theorem dX11_isImage_62 : decode cX11_isImage 62 = .ok (.getfield 7, 3) := by decide +kernel
theorem dX11_isImage_65 : decode cX11_isImage 65 = .ok (.iload 4, 2) := by decide +kernel
theorem dX11_isImage_67 : decode cX11_isImage 67 = .ok (.iaload, 1) := by decide +kernel
theorem dX11_isImage_68 : decode cX11_isImage 68 = .ok (.iadd, 1) := by decide +kernel
theorem dX11_isImage_69 : decode cX11_isImage 69 = .ok (.istore_n 3, 1) := by decide +kernel
theorem dX11_isImage_70 : decode cX11_isImage 70 = .ok (.iinc 4 1, 3) := by decide +kernel
theorem dX11_isImage_73 : decode cX11_isImage 73 = .ok (.goto (-19), 3) := by decide +kernel
theorem dX11_isImage_76 : decode cX11_isImage 76 = .ok (.aload_n 0, 1) := by decide +kernel
theorem dX11_isImage_77 : decode cX11_isImage 77 = .ok (.getfield 7, 3) := by decide +kernel
theorem dX11_isImage_80 : decode cX11_isImage 80 = .ok (.iload_n 2, 1) := by decide +kernel
theorem dX11_isImage_81 : decode cX11_isImage 81 = .ok (.iconst 2, 1) := by decide +kernel
theorem dX11_isImage_82 : decode cX11_isImage 82 = .ok (.isub, 1) := by decide +kernel
theorem dX11_isImage_83 : decode cX11_isImage 83 = .ok (.iaload, 1) := by decide +kernel
theorem dX11_isImage_84 : decode cX11_isImage 84 = .ok (.istore 4, 2) := by decide +kernel
theorem dX11_isImage_86 : decode cX11_isImage 86 = .ok (.iload_n 3, 1) := by decide +kernel
theorem dX11_isImage_87 : decode cX11_isImage 87 = .ok (.sipush 256, 3) := by decide +kernel
theorem dX11_isImage_90 : decode cX11_isImage 90 = .ok (.irem, 1) := by decide +kernel
theorem dX11_isImage_91 : decode cX11_isImage 91 = .ok (.ifCond .ne 28, 3) := by decide +kernel
theorem dX11_isImage_94 : decode cX11_isImage 94 = .ok (.iload 4, 2) := by decide +kernel
theorem dX11_isImage_96 : decode cX11_isImage 96 = .ok (.iconst 1, 1) := by decide +kernel
theorem dX11_isImage_97 : decode cX11_isImage 97 = .ok (.if_icmp .eq 24, 3) := by decide +kernel
theorem dX11_isImage_100 : decode cX11_isImage 100 = .ok (.iload 4, 2) := by decide +kernel
theorem dX11_isImage_102 : decode cX11_isImage 102 = .ok (.iconst 2, 1) := by decide +kernel
theorem dX11_isImage_103 : decode cX11_isImage 103 = .ok (.if_icmp .eq 18, 3) := by decide +kernel
theorem dX11_isImage_106 : decode cX11_isImage 106 = .ok (.iload 4, 2) := by decide +kernel
theorem dX11_isImage_108 : decode cX11_isImage 108 = .ok (.iconst 4, 1) := by decide +kernel
theorem dX11_isImage_109 : decode cX11_isImage 109 = .ok (.if_icmp .eq 12, 3) := by decide +kernel
theorem dX11_isImage_112 : decode cX11_isImage 112 = .ok (.iload 4, 2) := by decide +kernel
theorem dX11_isImage_114 : decode cX11_isImage 114 = .ok (.bipush 8, 2) := by decide +kernel
theorem dX11_isImage_116 : decode cX11_isImage 116 = .ok (.if_icmp .eq 5, 3) := by decide +kernel
theorem dX11_isImage_119 : decode cX11_isImage 119 = .ok (.iconst 0, 1) := by decide +kernel
theorem dX11_isImage_120 : decode cX11_isImage 120 = .ok (.ireturn, 1) := by decide +kernel
theorem dX11_isImage_121 : decode cX11_isImage 121 = .ok (.iconst 2, 1) := by decide +kernel
theorem dX11_isImage_122 : decode cX11_isImage 122 = .ok (.istore 5, 2) := by decide +kernel
theorem dX11_isImage_124 : decode cX11_isImage 124 = .ok (.iconst 0, 1) := by decide +kernel
theorem dX11_isImage_125 : decode cX11_isImage 125 = .ok (.istore 6, 2) := by decide +kernel
theorem dX11_isImage_127 : decode cX11_isImage 127 = .ok (.iload 6, 2) := by decide +kernel
theorem dX11_isImage_129 : decode cX11_isImage 129 = .ok (.aload_n 0, 1) := by decide +kernel
theorem dX11_isImage_130 : decode cX11_isImage 130 = .ok (.getfield 7, 3) := by decide +kernel
theorem dX11_isImage_133 : decode cX11_isImage 133 = .ok (.iconst 1, 1) := by decide +kernel
theorem dX11_isImage_134 : decode cX11_isImage 134 = .ok (.iaload, 1) := by decide +kernel
theorem dX11_isImage_135 : decode cX11_isImage 135 = .ok (.if_icmp .ge 207, 3) := by decide +kernel
theorem dX11_isImage_138 : decode cX11_isImage 138 = .ok (.iload 5, 2) := by decide +kernel
theorem dX11_isImage_140 : decode cX11_isImage 140 = .ok (.iload_n 2, 1) := by decide +kernel
theorem dX11_isImage_141 : decode cX11_isImage 141 = .ok (.iconst 2, 1) := by decide +kernel
theorem dX11_isImage_142 : decode cX11_isImage 142 = .ok (.isub, 1) := by decide +kernel
theorem dX11_isImage_143 : decode cX11_isImage 143 = .ok (.if_icmp .lt 5, 3) := by decide +kernel
theorem dX11_isImage_146 : decode cX11_isImage 146 = .ok (.iconst 0, 1) := by decide +kernel
theorem dX11_isImage_147 : decode cX11_isImage 147 = .ok (.ireturn, 1) := by decide +kernel
theorem dX11_isImage_148 : decode cX11_isImage 148 = .ok (.aload_n 0, 1) := by decide +kernel
theorem dX11_isImage_149 : decode cX11_isImage 149 = .ok (.aload_n 0, 1) := by decide +kernel
theorem dX11_isImage_150 : decode cX11_isImage 150 = .ok (.getfield 7, 3) := by decide +kernel
theorem dX11_isImage_153 : decode cX11_isImage 153 = .ok (.iload 5, 2) := by decide +kernel
theorem dX11_isImage_155 : decode cX11_isImage 155 = .ok (.iaload, 1) := by decide +kernel
theorem dX11_isImage_156 : decode cX11_isImage 156 = .ok (.putfield 59, 3) := by decide +kernel
theorem dX11_isImage_159 : decode cX11_isImage 159 = .ok (.aload_n 0, 1) := by decide +kernel
theorem dX11_isImage_160 : decode cX11_isImage 160 = .ok (.getfield 59, 3) := by decide +kernel
theorem dX11_isImage_163 : decode cX11_isImage 163 = .ok (.iconst 1, 1) := by decide +kernel
theorem dX11_isImage_164 : decode cX11_isImage 164 = .ok (.if_icmp .lt 30, 3) := by decide +kernel
theorem dX11_isImage_167 : decode cX11_isImage 167 = .ok (.aload_n 0, 1) := by decide +kernel
theorem dX11_isImage_168 : decode cX11_isImage 168 = .ok (.getfield 59, 3) := by decide +kernel
theorem dX11_isImage_171 : decode cX11_isImage 171 = .ok (.bipush 24, 2) := by decide +kernel
theorem dX11_isImage_173 : decode cX11_isImage 173 = .ok (.if_icmp .gt 21, 3) := by decide +kernel
theorem dX11_isImage_176 : decode cX11_isImage 176 = .ok (.iload 5, 2) := by decide +kernel
theorem dX11_isImage_178 : decode cX11_isImage 178 = .ok (.iconst 1, 1) := by decide +kernel
theorem dX11_isImage_179 : decode cX11_isImage 179 = .ok (.iadd, 1) := by decide +kernel
theorem dX11_isImage_180 : decode cX11_isImage 180 = .ok (.aload_n 0, 1) := by decide +kernel
theorem dX11_isImage_181 : decode cX11_isImage 181 = .ok (.getfield 59, 3) := by decide +kernel
theorem dX11_isImage_184 : decode cX11_isImage 184 = .ok (.iadd, 1) := by decide +kernel
theorem dX11_isImage_185 : decode cX11_isImage 185 = .ok (.iload 4, 2) := by decide +kernel
theorem dX11_isImage_187 : decode cX11_isImage 187 = .ok (.iadd, 1) := by decide +kernel
theorem dX11_isImage_188 : decode cX11_isImage 188 = .ok (.iload_n 2, 1) := by decide +kernel
theorem dX11_isImage_189 : decode cX11_isImage 189 = .ok (.iconst 2, 1) := by decide +kernel
theorem dX11_isImage_190 : decode cX11_isImage 190 = .ok (.isub, 1) := by decide +kernel
theorem dX11_isImage_191 : decode cX11_isImage 191 = .ok (.if_icmp .le 5, 3) := by decide +kernel
theorem dX11_isImage_194 : decode cX11_isImage 194 = .ok (.iconst 0, 1) := by decide +kernel
theorem dX11_isImage_195 : decode cX11_isImage 195 = .ok (.ireturn, 1) := by decide +kernel
theorem dX11_isImage_196 : decode cX11_isImage 196 = .ok (.iinc 5 1, 3) := by decide +kernel
theorem dX11_isImage_199 : decode cX11_isImage 199 = .ok (.iconst 0, 1) := by decide +kernel
theorem dX11_isImage_200 : decode cX11_isImage 200 = .ok (.istore 7, 2) := by decide +kernel
theorem dX11_isImage_202 : decode cX11_isImage 202 = .ok (.iload 7, 2) := by decide +kernel
theorem dX11_isImage_204 : decode cX11_isImage 204 = .ok (.aload_n 0, 1) := by decide +kernel
theorem dX11_isImage_205 : decode cX11_isImage 205 = .ok (.getfield 59, 3) := by decide +kernel
theorem dX11_isImage_208 : decode cX11_isImage 208 = .ok (.if_icmp .ge 38, 3) := by decide +kernel
theorem dX11_isImage_211 : decode cX11_isImage 211 = .ok (.aload_n 0, 1) := by decide +kernel
theorem dX11_isImage_212 : decode cX11_isImage 212 = .ok (.getfield 56, 3) := by decide +kernel
theorem dX11_isImage_215 : decode cX11_isImage 215 = .ok (.iload 7, 2) := by decide +kernel
theorem dX11_isImage_217 : decode cX11_isImage 217 = .ok (.aload_n 0, 1) := by decide +kernel
theorem dX11_isImage_218 : decode cX11_isImage 218 = .ok (.getfield 7, 3) := by decide +kernel
theorem dX11_isImage_221 : decode cX11_isImage 221 = .ok (.iload 5, 2) := by decide +kernel
theorem dX11_isImage_223 : decode cX11_isImage 223 = .ok (.iload 7, 2) := by decide +kernel
theorem dX11_isImage_225 : decode cX11_isImage 225 = .ok (.iadd, 1) := by decide +kernel
theorem dX11_isImage_226 : decode cX11_isImage 226 = .ok (.iaload, 1) := by decide +kernel
theorem dX11_isImage_227 : decode cX11_isImage 227 = .ok (.iastore, 1) := by decide +kernel
theorem dX11_isImage_228 : decode cX11_isImage 228 = .ok (.aload_n 0, 1) := by decide +kernel
theorem dX11_isImage_229 : decode cX11_isImage 229 = .ok (.getfield 56, 3) := by decide +kernel
theorem dX11_isImage_232 : decode cX11_isImage 232 = .ok (.iload 7, 2) := by decide +kernel
theorem dX11_isImage_234 : decode cX11_isImage 234 = .ok (.iaload, 1) := by decide +kernel
theorem dX11_isImage_235 : decode cX11_isImage 235 = .ok (.ifCond .ne 5, 3) := by decide +kernel
theorem dX11_isImage_238 : decode cX11_isImage 238 = .ok (.iconst 0, 1) := by decide +kernel
theorem dX11_isImage_239 : decode cX11_isImage 239 = .ok (.ireturn, 1) := by decide +kernel
theorem dX11_isImage_240 : decode cX11_isImage 240 = .ok (.iinc 7 1, 3) := by decide +kernel
theorem dX11_isImage_243 : decode cX11_isImage 243 = .ok (.goto (-41), 3) := by decide +kernel
theorem dX11_isImage_246 : decode cX11_isImage 246 = .ok (.iload 5, 2) := by decide +kernel
theorem dX11_isImage_248 : decode cX11_isImage 248 = .ok (.aload_n 0, 1) := by decide +kernel
theorem dX11_isImage_249 : decode cX11_isImage 249 = .ok (.getfield 59, 3) := by decide +kernel
theorem dX11_isImage_252 : decode cX11_isImage 252 = .ok (.iadd, 1) := by decide +kernel
theorem dX11_isImage_253 : decode cX11_isImage 253 = .ok (.istore 5, 2) := by decide +kernel
theorem dX11_isImage_255 : decode cX11_isImage 255 = .ok (.iload 6, 2) := by decide +kernel
theorem dX11_isImage_257 : decode cX11_isImage 257 = .ok (.ifCond .le 17, 3) := by decide +kernel
theorem dX11_isImage_260 : decode cX11_isImage 260 = .ok (.aload_n 0, 1) := by decide +kernel
theorem dX11_isImage_261 : decode cX11_isImage 261 = .ok (.iload_n 1, 1) := by decide +kernel
theorem dX11_isImage_262 : decode cX11_isImage 262 = .ok (.iload 6, 2) := by decide +kernel
theorem dX11_isImage_264 : decode cX11_isImage 264 = .ok (.iconst 1, 1) := by decide +kernel
theorem dX11_isImage_265 : decode cX11_isImage 265 = .ok (.isub, 1) := by decide +kernel
theorem dX11_isImage_266 : decode cX11_isImage 266 = .ok (.invokevirtual 115, 3) := by decide +kernel
theorem dX11_isImage_269 : decode cX11_isImage 269 = .ok (.ifCond .gt 5, 3) := by decide +kernel
theorem dX11_isImage_272 : decode cX11_isImage 272 = .ok (.iconst 0, 1) := by decide +kernel
theorem dX11_isImage_273 : decode cX11_isImage 273 = .ok (.ireturn, 1) := by decide +kernel
theorem dX11_isImage_274 : decode cX11_isImage 274 = .ok (.aload_n 0, 1) := by decide +kernel
theorem dX11_isImage_275 : decode cX11_isImage 275 = .ok (.getfield 7, 3) := by decide +kernel
theorem dX11_isImage_278 : decode cX11_isImage 278 = .ok (.iload 5, 2) := by decide +kernel
theorem dX11_isImage_280 : decode cX11_isImage 280 = .ok (.iaload, 1) := by decide +kernel
theorem dX11_isImage_281 : decode cX11_isImage 281 = .ok (.i2b, 1) := by decide +kernel
theorem dX11_isImage_282 : decode cX11_isImage 282 = .ok (.i2l, 1) := by decide +kernel
theorem dX11_isImage_283 : decode cX11_isImage 283 = .ok (.lstore 7, 2) := by decide +kernel
theorem dX11_isImage_285 : decode cX11_isImage 285 = .ok (.iconst 1, 1) := by decide +kernel
theorem dX11_isImage_286 : decode cX11_isImage 286 = .ok (.istore 9, 2) := by decide +kernel
theorem dX11_isImage_288 : decode cX11_isImage 288 = .ok (.iload 9, 2) := by decide +kernel
theorem dX11_isImage_290 : decode cX11_isImage 290 = .ok (.iload 4, 2) := by decide +kernel
theorem dX11_isImage_292 : decode cX11_isImage 292 = .ok (.if_icmp .ge 28, 3) := by decide +kernel
theorem dX11_isImage_295 : decode cX11_isImage 295 = .ok (.lload 7, 2) := by decide +kernel
theorem dX11_isImage_297 : decode cX11_isImage 297 = .ok (.bipush 8, 2) := by decide +kernel
theorem dX11_isImage_299 : decode cX11_isImage 299 = .ok (.lshl, 1) := by decide +kernel
theorem dX11_isImage_300 : decode cX11_isImage 300 = .ok (.aload_n 0, 1) := by decide +kernel
theorem dX11_isImage_301 : decode cX11_isImage 301 = .ok (.getfield 7, 3) := by decide +kernel
theorem dX11_isImage_304 : decode cX11_isImage 304 = .ok (.iload 5, 2) := by decide +kernel
theorem dX11_isImage_306 : decode cX11_isImage 306 = .ok (.iload 9, 2) := by decide +kernel
theorem dX11_isImage_308 : decode cX11_isImage 308 = .ok (.iadd, 1) := by decide +kernel
theorem dX11_isImage_309 : decode cX11_isImage 309 = .ok (.iaload, 1) := by decide +kernel
theorem dX11_isImage_310 : decode cX11_isImage 310 = .ok (.i2l, 1) := by decide +kernel
theorem dX11_isImage_311 : decode cX11_isImage 311 = .ok (.lor, 1) := by decide +kernel
theorem dX11_isImage_312 : decode cX11_isImage 312 = .ok (.lstore 7, 2) := by decide +kernel
theorem dX11_isImage_314 : decode cX11_isImage 314 = .ok (.iinc 9 1, 3) := by decide +kernel
theorem dX11_isImage_317 : decode cX11_isImage 317 = .ok (.goto (-29), 3) := by decide +kernel
theorem dX11_isImage_320 : decode cX11_isImage 320 = .ok (.iload 5, 2) := by decide +kernel
theorem dX11_isImage_322 : decode cX11_isImage 322 = .ok (.iload 4, 2) := by decide +kernel
theorem dX11_isImage_324 : decode cX11_isImage 324 = .ok (.iadd, 1) := by decide +kernel
theorem dX11_isImage_325 : decode cX11_isImage 325 = .ok (.istore 5, 2) := by decide +kernel
theorem dX11_isImage_327 : decode cX11_isImage 327 = .ok (.aload_n 0, 1) := by decide +kernel
theorem dX11_isImage_328 : decode cX11_isImage 328 = .ok (.iload_n 1, 1) := by decide +kernel
theorem dX11_isImage_329 : decode cX11_isImage 329 = .ok (.iload 6, 2) := by decide +kernel
theorem dX11_isImage_331 : decode cX11_isImage 331 = .ok (.lload 7, 2) := by decide +kernel
theorem dX11_isImage_333 : decode cX11_isImage 333 = .ok (.invokevirtual 137, 3) := by decide +kernel
theorem dX11_isImage_336 : decode cX11_isImage 336 = .ok (.iinc 6 1, 3) := by decide +kernel
theorem dX11_isImage_339 : decode cX11_isImage 339 = .ok (.goto (-212), 3) := by decide +kernel
theorem dX11_isImage_342 : decode cX11_isImage 342 = .ok (.iload 5, 2) := by decide +kernel
theorem dX11_isImage_344 : decode cX11_isImage 344 = .ok (.iload_n 2, 1) := by decide +kernel
theorem dX11_isImage_345 : decode cX11_isImage 345 = .ok (.iconst 2, 1) := by decide +kernel
theorem dX11_isImage_346 : decode cX11_isImage 346 = .ok (.isub, 1) := by decide +kernel
theorem dX11_isImage_347 : decode cX11_isImage 347 = .ok (.if_icmp .ne 31, 3) := by decide +kernel
theorem dX11_isImage_350 : decode cX11_isImage 350 = .ok (.aload_n 0, 1) := by decide +kernel
theorem dX11_isImage_351 : decode cX11_isImage 351 = .ok (.iload_n 1, 1) := by decide +kernel
theorem dX11_isImage_352 : decode cX11_isImage 352 = .ok (.invokevirtual 211, 3) := by decide +kernel
theorem dX11_isImage_355 : decode cX11_isImage 355 = .ok (.iload 4, 2) := by decide +kernel
theorem dX11_isImage_357 : decode cX11_isImage 357 = .ok (.if_icmp .ne 21, 3) := by decide +kernel
theorem dX11_isImage_360 : decode cX11_isImage 360 = .ok (.aload_n 0, 1) := by decide +kernel
theorem dX11_isImage_361 : decode cX11_isImage 361 = .ok (.iload_n 1, 1) := by decide +kernel
theorem dX11_isImage_362 : decode cX11_isImage 362 = .ok (.aload_n 0, 1) := by decide +kernel
theorem dX11_isImage_363 : decode cX11_isImage 363 = .ok (.getfield 7, 3) := by decide +kernel
theorem dX11_isImage_366 : decode cX11_isImage 366 = .ok (.iconst 0, 1) := by decide +kernel
theorem dX11_isImage_367 : decode cX11_isImage 367 = .ok (.iaload, 1) := by decide +kernel
theorem dX11_isImage_368 : decode cX11_isImage 368 = .ok (.invokevirtual 169, 3) := by decide +kernel
theorem dX11_isImage_371 : decode cX11_isImage 371 = .ok (.ifCond .eq 7, 3) := by decide +kernel
theorem dX11_isImage_374 : decode cX11_isImage 374 = .ok (.iconst 1, 1) := by decide +kernel
theorem dX11_isImage_375 : decode cX11_isImage 375 = .ok (.goto 4, 3) := by decide +kernel
theorem dX11_isImage_378 : decode cX11_isImage 378 = .ok (.iconst 0, 1) := by decide +kernel
theorem dX11_isImage_379 : decode cX11_isImage 379 = .ok (.ireturn, 1) := by decide +kernel
theorem dJ6_compare_7cf53_0 : decode cJ6_compare_7cf53 0 = .ok (.iload_n 0, 1) := by decide +kernel
theorem dJ6_compare_7cf53_1 : decode cJ6_compare_7cf53 1 = .ok (.iload_n 1, 1) := by decide +kernel
theorem dJ6_compare_7cf53_2 : decode cJ6_compare_7cf53 2 = .ok (.if_icmp .ge 7, 3) := by decide +kernel
theorem dJ6_compare_7cf53_5 : decode cJ6_compare_7cf53 5 = .ok (.iconst (-1), 1) := by decide +kernel
theorem dJ6_compare_7cf53_6 : decode cJ6_compare_7cf53 6 = .ok (.goto 13, 3) := by decide +kernel
theorem dJ6_compare_7cf53_9 : decode cJ6_compare_7cf53 9 = .ok (.iload_n 0, 1) := by decide +kernel
theorem dJ6_compare_7cf53_10 : decode cJ6_compare_7cf53 10 = .ok (.iload_n 1, 1) := by decide +kernel
theorem dJ6_compare_7cf53_11 : decode cJ6_compare_7cf53 11 = .ok (.if_icmp .ne 7, 3) := by decide +kernel
theorem dJ6_compare_7cf53_14 : decode cJ6_compare_7cf53 14 = .ok (.iconst 0, 1) := by decide +kernel
theorem dJ6_compare_7cf53_15 : decode cJ6_compare_7cf53 15 = .ok (.goto 4, 3) := by decide +kernel
theorem dJ6_compare_7cf53_18 : decode cJ6_compare_7cf53 18 = .ok (.iconst 1, 1) := by decide +kernel
theorem dJ6_compare_7cf53_19 : decode cJ6_compare_7cf53 19 = .ok (.ireturn, 1) := by decide +kernel
theorem dJ13_bitCount_95d88_0 : decode cJ13_bitCount_95d88 0 = .ok (.lload_n 0, 1) := by decide +kernel
theorem dJ13_bitCount_95d88_1 : decode cJ13_bitCount_95d88 1 = .ok (.lload_n 0, 1) := by decide +kernel
theorem dJ13_bitCount_95d88_2 : decode cJ13_bitCount_95d88 2 = .ok (.iconst 1, 1) := by decide +kernel
theorem dJ13_bitCount_95d88_3 : decode cJ13_bitCount_95d88 3 = .ok (.lushr, 1) := by decide +kernel
theorem dJ13_bitCount_95d88_4 : decode cJ13_bitCount_95d88 4 = .ok (.ldc2_w 314, 3) := by decide +kernel
theorem dJ13_bitCount_95d88_7 : decode cJ13_bitCount_95d88 7 = .ok (.land, 1) := by decide +kernel
theorem dJ13_bitCount_95d88_8 : decode cJ13_bitCount_95d88 8 = .ok (.lsub, 1) := by decide +kernel
theorem dJ13_bitCount_95d88_9 : decode cJ13_bitCount_95d88 9 = .ok (.lstore_n 0, 1) := by decide +kernel
theorem dJ13_bitCount_95d88_10 : decode cJ13_bitCount_95d88 10 = .ok (.lload_n 0, 1) := by decide +kernel
theorem dJ13_bitCount_95d88_11 : decode cJ13_bitCount_95d88 11 = .ok (.ldc2_w 316, 3) := by decide +kernel
theorem dJ13_bitCount_95d88_14 : decode cJ13_bitCount_95d88 14 = .ok (.land, 1) := by decide +kernel
theorem dJ13_bitCount_95d88_15 : decode cJ13_bitCount_95d88 15 = .ok (.lload_n 0, 1) := by decide +kernel
theorem dJ13_bitCount_95d88_16 : decode cJ13_bitCount_95d88 16 = .ok (.iconst 2, 1) := by decide +kernel
theorem dJ13_bitCount_95d88_17 : decode cJ13_bitCount_95d88 17 = .ok (.lushr, 1) := by decide +kernel
theorem dJ13_bitCount_95d88_18 : decode cJ13_bitCount_95d88 18 = .ok (.ldc2_w 316, 3) := by decide +kernel
theorem dJ13_bitCount_95d88_21 : decode cJ13_bitCount_95d88 21 = .ok (.land, 1) := by decide +kernel
theorem dJ13_bitCount_95d88_22 : decode cJ13_bitCount_95d88 22 = .ok (.ladd, 1) := by decide +kernel
theorem dJ13_bitCount_95d88_23 : decode cJ13_bitCount_95d88 23 = .ok (.lstore_n 0, 1) := by decide +kernel
theorem dJ13_bitCount_95d88_24 : decode cJ13_bitCount_95d88 24 = .ok (.lload_n 0, 1) := by decide +kernel
theorem dJ13_bitCount_95d88_25 : decode cJ13_bitCount_95d88 25 = .ok (.lload_n 0, 1) := by decide +kernel
theorem dJ13_bitCount_95d88_26 : decode cJ13_bitCount_95d88 26 = .ok (.iconst 4, 1) := by decide +kernel
theorem dJ13_bitCount_95d88_27 : decode cJ13_bitCount_95d88 27 = .ok (.lushr, 1) := by decide +kernel
theorem dJ13_bitCount_95d88_28 : decode cJ13_bitCount_95d88 28 = .ok (.ladd, 1) := by decide +kernel
theorem dJ13_bitCount_95d88_29 : decode cJ13_bitCount_95d88 29 = .ok (.ldc2_w 318, 3) := by decide +kernel
theorem dJ13_bitCount_95d88_32 : decode cJ13_bitCount_95d88 32 = .ok (.land, 1) := by decide +kernel
theorem dJ13_bitCount_95d88_33 : decode cJ13_bitCount_95d88 33 = .ok (.lstore_n 0, 1) := by decide +kernel
theorem dJ13_bitCount_95d88_34 : decode cJ13_bitCount_95d88 34 = .ok (.lload_n 0, 1) := by decide +kernel
theorem dJ13_bitCount_95d88_35 : decode cJ13_bitCount_95d88 35 = .ok (.lload_n 0, 1) := by decide +kernel
theorem dJ13_bitCount_95d88_36 : decode cJ13_bitCount_95d88 36 = .ok (.bipush 8, 2) := by decide +kernel
theorem dJ13_bitCount_95d88_38 : decode cJ13_bitCount_95d88 38 = .ok (.lushr, 1) := by decide +kernel
theorem dJ13_bitCount_95d88_39 : decode cJ13_bitCount_95d88 39 = .ok (.ladd, 1) := by decide +kernel
theorem dJ13_bitCount_95d88_40 : decode cJ13_bitCount_95d88 40 = .ok (.lstore_n 0, 1) := by decide +kernel
theorem dJ13_bitCount_95d88_41 : decode cJ13_bitCount_95d88 41 = .ok (.lload_n 0, 1) := by decide +kernel
theorem dJ13_bitCount_95d88_42 : decode cJ13_bitCount_95d88 42 = .ok (.lload_n 0, 1) := by decide +kernel
theorem dJ13_bitCount_95d88_43 : decode cJ13_bitCount_95d88 43 = .ok (.bipush 16, 2) := by decide +kernel
theorem dJ13_bitCount_95d88_45 : decode cJ13_bitCount_95d88 45 = .ok (.lushr, 1) := by decide +kernel
theorem dJ13_bitCount_95d88_46 : decode cJ13_bitCount_95d88 46 = .ok (.ladd, 1) := by decide +kernel
theorem dJ13_bitCount_95d88_47 : decode cJ13_bitCount_95d88 47 = .ok (.lstore_n 0, 1) := by decide +kernel
theorem dJ13_bitCount_95d88_48 : decode cJ13_bitCount_95d88 48 = .ok (.lload_n 0, 1) := by decide +kernel
theorem dJ13_bitCount_95d88_49 : decode cJ13_bitCount_95d88 49 = .ok (.lload_n 0, 1) := by decide +kernel
theorem dJ13_bitCount_95d88_50 : decode cJ13_bitCount_95d88 50 = .ok (.bipush 32, 2) := by decide +kernel
theorem dJ13_bitCount_95d88_52 : decode cJ13_bitCount_95d88 52 = .ok (.lushr, 1) := by decide +kernel
theorem dJ13_bitCount_95d88_53 : decode cJ13_bitCount_95d88 53 = .ok (.ladd, 1) := by decide +kernel
theorem dJ13_bitCount_95d88_54 : decode cJ13_bitCount_95d88 54 = .ok (.lstore_n 0, 1) := by decide +kernel
theorem dJ13_bitCount_95d88_55 : decode cJ13_bitCount_95d88 55 = .ok (.lload_n 0, 1) := by decide +kernel
theorem dJ13_bitCount_95d88_56 : decode cJ13_bitCount_95d88 56 = .ok (.l2i, 1) := by decide +kernel
theorem dJ13_bitCount_95d88_57 : decode cJ13_bitCount_95d88 57 = .ok (.bipush 127, 2) := by decide +kernel
theorem dJ13_bitCount_95d88_59 : decode cJ13_bitCount_95d88 59 = .ok (.iand, 1) := by decide +kernel
theorem dJ13_bitCount_95d88_60 : decode cJ13_bitCount_95d88 60 = .ok (.ireturn, 1) := by decide +kernel
theorem dJ9_max_7cf53_0 : decode cJ9_max_7cf53 0 = .ok (.iload_n 0, 1) := by decide +kernel
theorem dJ9_max_7cf53_1 : decode cJ9_max_7cf53 1 = .ok (.iload_n 1, 1) := by decide +kernel
theorem dJ9_max_7cf53_2 : decode cJ9_max_7cf53 2 = .ok (.if_icmp .lt 7, 3) := by decide +kernel
theorem dJ9_max_7cf53_5 : decode cJ9_max_7cf53 5 = .ok (.iload_n 0, 1) := by decide +kernel
theorem dJ9_max_7cf53_6 : decode cJ9_max_7cf53 6 = .ok (.goto 4, 3) := by decide +kernel
theorem dJ9_max_7cf53_9 : decode cJ9_max_7cf53 9 = .ok (.iload_n 1, 1) := by decide +kernel
theorem dJ9_max_7cf53_10 : decode cJ9_max_7cf53 10 = .ok (.ireturn, 1) := by decide +kernel
theorem dJ9_min_7cf53_0 : decode cJ9_min_7cf53 0 = .ok (.iload_n 0, 1) := by decide +kernel
theorem dJ9_min_7cf53_1 : decode cJ9_min_7cf53 1 = .ok (.iload_n 1, 1) := by decide +kernel
theorem dJ9_min_7cf53_2 : decode cJ9_min_7cf53 2 = .ok (.if_icmp .gt 7, 3) := by decide +kernel
theorem dJ9_min_7cf53_5 : decode cJ9_min_7cf53 5 = .ok (.iload_n 0, 1) := by decide +kernel
theorem dJ9_min_7cf53_6 : decode cJ9_min_7cf53 6 = .ok (.goto 4, 3) := by decide +kernel
theorem dJ9_min_7cf53_9 : decode cJ9_min_7cf53 9 = .ok (.iload_n 1, 1) := by decide +kernel
theorem dJ9_min_7cf53_10 : decode cJ9_min_7cf53 10 = .ok (.ireturn, 1) := by decide +kernel
theorem dL_law_0 : decode cL_law 0 = .ok (.new 7, 3) := by decide +kernel
theorem dL_law_3 : decode cL_law 3 = .ok (.dup, 1) := by decide +kernel
theorem dL_law_4 : decode cL_law 4 = .ok (.invokespecial 9, 3) := by decide +kernel
theorem dL_law_7 : decode cL_law 7 = .ok (.astore_n 1, 1) := by decide +kernel
theorem dL_law_8 : decode cL_law 8 = .ok (.new 10, 3) := by decide +kernel
theorem dL_law_11 : decode cL_law 11 = .ok (.dup, 1) := by decide +kernel
theorem dL_law_12 : decode cL_law 12 = .ok (.invokespecial 12, 3) := by decide +kernel
theorem dL_law_15 : decode cL_law 15 = .ok (.astore_n 2, 1) := by decide +kernel
theorem dL_law_16 : decode cL_law 16 = .ok (.iconst 0, 1) := by decide +kernel
theorem dL_law_17 : decode cL_law 17 = .ok (.istore_n 3, 1) := by decide +kernel
theorem dL_law_18 : decode cL_law 18 = .ok (.iload_n 3, 1) := by decide +kernel
theorem dL_law_19 : decode cL_law 19 = .ok (.aload_n 0, 1) := by decide +kernel
theorem dL_law_20 : decode cL_law 20 = .ok (.arraylength, 1) := by decide +kernel
theorem dL_law_21 : decode cL_law 21 = .ok (.bipush 6, 2) := by decide +kernel
theorem dL_law_23 : decode cL_law 23 = .ok (.isub, 1) := by decide +kernel
theorem dL_law_24 : decode cL_law 24 = .ok (.if_icmp .gt 1396, 3) := by decide +kernel
theorem dL_law_27 : decode cL_law 27 = .ok (.aload_n 0, 1) := by decide +kernel
theorem dL_law_28 : decode cL_law 28 = .ok (.iload_n 3, 1) := by decide +kernel
theorem dL_law_29 : decode cL_law 29 = .ok (.iaload, 1) := by decide +kernel
theorem dL_law_30 : decode cL_law 30 = .ok (.bipush 63, 2) := by decide +kernel
theorem dL_law_32 : decode cL_law 32 = .ok (.iand, 1) := by decide +kernel
theorem dL_law_33 : decode cL_law 33 = .ok (.tableswitch 1381 0 38 #[171, 234, 257, 280, 303, 336, 359, 392, 415, 478, 501, 544, 577, 640, 663, 686, 719, 753, 766, 789, 812, 835, 884, 907, 950, 983, 1016, 1049, 1108, 1141, 1174, 1197, 1220, 1233, 1256, 1289, 1312, 1335, 1358], 171) := by decide +kernel
theorem dL_law_204 : decode cL_law 204 = .ok (.aload_n 1, 1) := by decide +kernel
theorem dL_law_205 : decode cL_law 205 = .ok (.aload_n 0, 1) := by decide +kernel
theorem dL_law_206 : decode cL_law 206 = .ok (.iload_n 3, 1) := by decide +kernel
theorem dL_law_207 : decode cL_law 207 = .ok (.iconst 1, 1) := by decide +kernel
theorem dL_law_208 : decode cL_law 208 = .ok (.iadd, 1) := by decide +kernel
theorem dL_law_209 : decode cL_law 209 = .ok (.iaload, 1) := by decide +kernel
theorem dL_law_210 : decode cL_law 210 = .ok (.i2l, 1) := by decide +kernel
theorem dL_law_211 : decode cL_law 211 = .ok (.bipush 32, 2) := by decide +kernel
theorem dL_law_213 : decode cL_law 213 = .ok (.lshl, 1) := by decide +kernel
theorem dL_law_214 : decode cL_law 214 = .ok (.aload_n 0, 1) := by decide +kernel
theorem dL_law_215 : decode cL_law 215 = .ok (.iload_n 3, 1) := by decide +kernel
theorem dL_law_216 : decode cL_law 216 = .ok (.iconst 2, 1) := by decide +kernel
theorem dL_law_217 : decode cL_law 217 = .ok (.iadd, 1) := by decide +kernel
theorem dL_law_218 : decode cL_law 218 = .ok (.iaload, 1) := by decide +kernel
theorem dL_law_219 : decode cL_law 219 = .ok (.i2l, 1) := by decide +kernel
theorem dL_law_220 : decode cL_law 220 = .ok (.ldc2_w 13, 3) := by decide +kernel
theorem dL_law_223 : decode cL_law 223 = .ok (.land, 1) := by decide +kernel
theorem dL_law_224 : decode cL_law 224 = .ok (.lor, 1) := by decide +kernel
theorem dL_law_225 : decode cL_law 225 = .ok (.aload_n 0, 1) := by decide +kernel
theorem dL_law_226 : decode cL_law 226 = .ok (.iload_n 3, 1) := by decide +kernel
theorem dL_law_227 : decode cL_law 227 = .ok (.iconst 3, 1) := by decide +kernel
theorem dL_law_228 : decode cL_law 228 = .ok (.iadd, 1) := by decide +kernel
theorem dL_law_229 : decode cL_law 229 = .ok (.iaload, 1) := by decide +kernel
theorem dL_law_230 : decode cL_law 230 = .ok (.invokevirtual 15, 3) := by decide +kernel
theorem dL_law_233 : decode cL_law 233 = .ok (.aload_n 2, 1) := by decide +kernel
theorem dL_law_234 : decode cL_law 234 = .ok (.aload_n 0, 1) := by decide +kernel
theorem dL_law_235 : decode cL_law 235 = .ok (.iload_n 3, 1) := by decide +kernel
theorem dL_law_236 : decode cL_law 236 = .ok (.iconst 1, 1) := by decide +kernel
theorem dL_law_237 : decode cL_law 237 = .ok (.iadd, 1) := by decide +kernel
theorem dL_law_238 : decode cL_law 238 = .ok (.iaload, 1) := by decide +kernel
theorem dL_law_239 : decode cL_law 239 = .ok (.i2l, 1) := by decide +kernel
theorem dL_law_240 : decode cL_law 240 = .ok (.bipush 32, 2) := by decide +kernel
theorem dL_law_242 : decode cL_law 242 = .ok (.lshl, 1) := by decide +kernel
theorem dL_law_243 : decode cL_law 243 = .ok (.aload_n 0, 1) := by decide +kernel
theorem dL_law_244 : decode cL_law 244 = .ok (.iload_n 3, 1) := by decide +kernel
theorem dL_law_245 : decode cL_law 245 = .ok (.iconst 2, 1) := by decide +kernel
theorem dL_law_246 : decode cL_law 246 = .ok (.iadd, 1) := by decide +kernel
theorem dL_law_247 : decode cL_law 247 = .ok (.iaload, 1) := by decide +kernel
theorem dL_law_248 : decode cL_law 248 = .ok (.i2l, 1) := by decide +kernel
theorem dL_law_249 : decode cL_law 249 = .ok (.ldc2_w 13, 3) := by decide +kernel
theorem dL_law_252 : decode cL_law 252 = .ok (.land, 1) := by decide +kernel
theorem dL_law_253 : decode cL_law 253 = .ok (.lor, 1) := by decide +kernel
theorem dL_law_254 : decode cL_law 254 = .ok (.aload_n 0, 1) := by decide +kernel
theorem dL_law_255 : decode cL_law 255 = .ok (.iload_n 3, 1) := by decide +kernel
theorem dL_law_256 : decode cL_law 256 = .ok (.iconst 3, 1) := by decide +kernel
theorem dL_law_257 : decode cL_law 257 = .ok (.iadd, 1) := by decide +kernel
theorem dL_law_258 : decode cL_law 258 = .ok (.iaload, 1) := by decide +kernel
theorem dL_law_259 : decode cL_law 259 = .ok (.invokevirtual 19, 3) := by decide +kernel
theorem dL_law_262 : decode cL_law 262 = .ok (.if_icmp .eq 1152, 3) := by decide +kernel
theorem dL_law_265 : decode cL_law 265 = .ok (.iconst 0, 1) := by decide +kernel
theorem dL_law_266 : decode cL_law 266 = .ok (.ireturn, 1) := by decide +kernel
theorem dL_law_267 : decode cL_law 267 = .ok (.aload_n 1, 1) := by decide +kernel
theorem dL_law_268 : decode cL_law 268 = .ok (.aload_n 0, 1) := by decide +kernel
theorem dL_law_269 : decode cL_law 269 = .ok (.iload_n 3, 1) := by decide +kernel
theorem dL_law_270 : decode cL_law 270 = .ok (.iconst 1, 1) := by decide +kernel
theorem dL_law_271 : decode cL_law 271 = .ok (.iadd, 1) := by decide +kernel
theorem dL_law_272 : decode cL_law 272 = .ok (.iaload, 1) := by decide +kernel
theorem dL_law_273 : decode cL_law 273 = .ok (.invokevirtual 20, 3) := by decide +kernel
theorem dL_law_276 : decode cL_law 276 = .ok (.aload_n 2, 1) := by decide +kernel
theorem dL_law_277 : decode cL_law 277 = .ok (.aload_n 0, 1) := by decide +kernel
theorem dL_law_278 : decode cL_law 278 = .ok (.iload_n 3, 1) := by decide +kernel
theorem dL_law_279 : decode cL_law 279 = .ok (.iconst 1, 1) := by decide +kernel
theorem dL_law_280 : decode cL_law 280 = .ok (.iadd, 1) := by decide +kernel
theorem dL_law_281 : decode cL_law 281 = .ok (.iaload, 1) := by decide +kernel
theorem dL_law_282 : decode cL_law 282 = .ok (.invokevirtual 24, 3) := by decide +kernel
theorem dL_law_285 : decode cL_law 285 = .ok (.if_icmp .eq 1129, 3) := by decide +kernel
theorem dL_law_288 : decode cL_law 288 = .ok (.iconst 0, 1) := by decide +kernel
theorem dL_law_289 : decode cL_law 289 = .ok (.ireturn, 1) := by decide +kernel
theorem dL_law_290 : decode cL_law 290 = .ok (.aload_n 1, 1) := by decide +kernel
theorem dL_law_291 : decode cL_law 291 = .ok (.aload_n 0, 1) := by decide +kernel
theorem dL_law_292 : decode cL_law 292 = .ok (.iload_n 3, 1) := by decide +kernel
theorem dL_law_293 : decode cL_law 293 = .ok (.iconst 1, 1) := by decide +kernel
theorem dL_law_294 : decode cL_law 294 = .ok (.iadd, 1) := by decide +kernel
theorem dL_law_295 : decode cL_law 295 = .ok (.iaload, 1) := by decide +kernel
theorem dL_law_296 : decode cL_law 296 = .ok (.invokevirtual 25, 3) := by decide +kernel
theorem dL_law_299 : decode cL_law 299 = .ok (.aload_n 2, 1) := by decide +kernel
theorem dL_law_300 : decode cL_law 300 = .ok (.aload_n 0, 1) := by decide +kernel
theorem dL_law_301 : decode cL_law 301 = .ok (.iload_n 3, 1) := by decide +kernel
theorem dL_law_302 : decode cL_law 302 = .ok (.iconst 1, 1) := by decide +kernel
theorem dL_law_303 : decode cL_law 303 = .ok (.iadd, 1) := by decide +kernel
theorem dL_law_304 : decode cL_law 304 = .ok (.iaload, 1) := by decide +kernel
theorem dL_law_305 : decode cL_law 305 = .ok (.invokevirtual 28, 3) := by decide +kernel
theorem dL_law_308 : decode cL_law 308 = .ok (.if_icmp .eq 1106, 3) := by decide +kernel
theorem dL_law_311 : decode cL_law 311 = .ok (.iconst 0, 1) := by decide +kernel
theorem dL_law_312 : decode cL_law 312 = .ok (.ireturn, 1) := by decide +kernel
theorem dL_law_313 : decode cL_law 313 = .ok (.aload_n 1, 1) := by decide +kernel
theorem dL_law_314 : decode cL_law 314 = .ok (.aload_n 0, 1) := by decide +kernel
theorem dL_law_315 : decode cL_law 315 = .ok (.iload_n 3, 1) := by decide +kernel
theorem dL_law_316 : decode cL_law 316 = .ok (.iconst 1, 1) := by decide +kernel
theorem dL_law_317 : decode cL_law 317 = .ok (.iadd, 1) := by decide +kernel
theorem dL_law_318 : decode cL_law 318 = .ok (.iaload, 1) := by decide +kernel
theorem dL_law_319 : decode cL_law 319 = .ok (.invokevirtual 29, 3) := by decide +kernel
theorem dL_law_322 : decode cL_law 322 = .ok (.aload_n 2, 1) := by decide +kernel
theorem dL_law_323 : decode cL_law 323 = .ok (.aload_n 0, 1) := by decide +kernel
theorem dL_law_324 : decode cL_law 324 = .ok (.iload_n 3, 1) := by decide +kernel
theorem dL_law_325 : decode cL_law 325 = .ok (.iconst 1, 1) := by decide +kernel
theorem dL_law_326 : decode cL_law 326 = .ok (.iadd, 1) := by decide +kernel
theorem dL_law_327 : decode cL_law 327 = .ok (.iaload, 1) := by decide +kernel
theorem dL_law_328 : decode cL_law 328 = .ok (.invokevirtual 32, 3) := by decide +kernel
theorem dL_law_331 : decode cL_law 331 = .ok (.if_icmp .eq 1083, 3) := by decide +kernel
theorem dL_law_334 : decode cL_law 334 = .ok (.iconst 0, 1) := by decide +kernel
theorem dL_law_335 : decode cL_law 335 = .ok (.ireturn, 1) := by decide +kernel
theorem dL_law_336 : decode cL_law 336 = .ok (.aload_n 1, 1) := by decide +kernel
theorem dL_law_337 : decode cL_law 337 = .ok (.aload_n 0, 1) := by decide +kernel
theorem dL_law_338 : decode cL_law 338 = .ok (.iload_n 3, 1) := by decide +kernel
theorem dL_law_339 : decode cL_law 339 = .ok (.iconst 1, 1) := by decide +kernel
theorem dL_law_340 : decode cL_law 340 = .ok (.iadd, 1) := by decide +kernel
theorem dL_law_341 : decode cL_law 341 = .ok (.iaload, 1) := by decide +kernel
theorem dL_law_342 : decode cL_law 342 = .ok (.aload_n 0, 1) := by decide +kernel
theorem dL_law_343 : decode cL_law 343 = .ok (.iload_n 3, 1) := by decide +kernel
theorem dL_law_344 : decode cL_law 344 = .ok (.iconst 2, 1) := by decide +kernel
theorem dL_law_345 : decode cL_law 345 = .ok (.iadd, 1) := by decide +kernel
theorem dL_law_346 : decode cL_law 346 = .ok (.iaload, 1) := by decide +kernel
theorem dL_law_347 : decode cL_law 347 = .ok (.invokevirtual 33, 3) := by decide +kernel
theorem dL_law_350 : decode cL_law 350 = .ok (.aload_n 2, 1) := by decide +kernel
theorem dL_law_351 : decode cL_law 351 = .ok (.aload_n 0, 1) := by decide +kernel
theorem dL_law_352 : decode cL_law 352 = .ok (.iload_n 3, 1) := by decide +kernel
theorem dL_law_353 : decode cL_law 353 = .ok (.iconst 1, 1) := by decide +kernel
theorem dL_law_354 : decode cL_law 354 = .ok (.iadd, 1) := by decide +kernel
theorem dL_law_355 : decode cL_law 355 = .ok (.iaload, 1) := by decide +kernel
theorem dL_law_356 : decode cL_law 356 = .ok (.aload_n 0, 1) := by decide +kernel
theorem dL_law_357 : decode cL_law 357 = .ok (.iload_n 3, 1) := by decide +kernel
theorem dL_law_358 : decode cL_law 358 = .ok (.iconst 2, 1) := by decide +kernel
theorem dL_law_359 : decode cL_law 359 = .ok (.iadd, 1) := by decide +kernel
theorem dL_law_360 : decode cL_law 360 = .ok (.iaload, 1) := by decide +kernel
theorem dL_law_361 : decode cL_law 361 = .ok (.invokevirtual 37, 3) := by decide +kernel
theorem dL_law_364 : decode cL_law 364 = .ok (.if_icmp .eq 1050, 3) := by decide +kernel
theorem dL_law_367 : decode cL_law 367 = .ok (.iconst 0, 1) := by decide +kernel
theorem dL_law_368 : decode cL_law 368 = .ok (.ireturn, 1) := by decide +kernel
theorem dL_law_369 : decode cL_law 369 = .ok (.aload_n 1, 1) := by decide +kernel
theorem dL_law_370 : decode cL_law 370 = .ok (.aload_n 0, 1) := by decide +kernel
theorem dL_law_371 : decode cL_law 371 = .ok (.iload_n 3, 1) := by decide +kernel
theorem dL_law_372 : decode cL_law 372 = .ok (.iconst 1, 1) := by decide +kernel
theorem dL_law_373 : decode cL_law 373 = .ok (.iadd, 1) := by decide +kernel
theorem dL_law_374 : decode cL_law 374 = .ok (.iaload, 1) := by decide +kernel
theorem dL_law_375 : decode cL_law 375 = .ok (.invokevirtual 38, 3) := by decide +kernel
theorem dL_law_378 : decode cL_law 378 = .ok (.aload_n 2, 1) := by decide +kernel
theorem dL_law_379 : decode cL_law 379 = .ok (.aload_n 0, 1) := by decide +kernel
theorem dL_law_380 : decode cL_law 380 = .ok (.iload_n 3, 1) := by decide +kernel
theorem dL_law_381 : decode cL_law 381 = .ok (.iconst 1, 1) := by decide +kernel
theorem dL_law_382 : decode cL_law 382 = .ok (.iadd, 1) := by decide +kernel
theorem dL_law_383 : decode cL_law 383 = .ok (.iaload, 1) := by decide +kernel
theorem dL_law_384 : decode cL_law 384 = .ok (.invokevirtual 41, 3) := by decide +kernel
theorem dL_law_387 : decode cL_law 387 = .ok (.if_icmp .eq 1027, 3) := by decide +kernel
theorem dL_law_390 : decode cL_law 390 = .ok (.iconst 0, 1) := by decide +kernel
theorem dL_law_391 : decode cL_law 391 = .ok (.ireturn, 1) := by decide +kernel
theorem dL_law_392 : decode cL_law 392 = .ok (.aload_n 1, 1) := by decide +kernel
theorem dL_law_393 : decode cL_law 393 = .ok (.aload_n 0, 1) := by decide +kernel
theorem dL_law_394 : decode cL_law 394 = .ok (.iload_n 3, 1) := by decide +kernel
theorem dL_law_395 : decode cL_law 395 = .ok (.iconst 1, 1) := by decide +kernel
theorem dL_law_396 : decode cL_law 396 = .ok (.iadd, 1) := by decide +kernel
theorem dL_law_397 : decode cL_law 397 = .ok (.iaload, 1) := by decide +kernel
theorem dL_law_398 : decode cL_law 398 = .ok (.aload_n 0, 1) := by decide +kernel
theorem dL_law_399 : decode cL_law 399 = .ok (.iload_n 3, 1) := by decide +kernel
theorem dL_law_400 : decode cL_law 400 = .ok (.iconst 2, 1) := by decide +kernel
theorem dL_law_401 : decode cL_law 401 = .ok (.iadd, 1) := by decide +kernel
theorem dL_law_402 : decode cL_law 402 = .ok (.iaload, 1) := by decide +kernel
theorem dL_law_403 : decode cL_law 403 = .ok (.invokevirtual 42, 3) := by decide +kernel
theorem dL_law_406 : decode cL_law 406 = .ok (.aload_n 2, 1) := by decide +kernel
theorem dL_law_407 : decode cL_law 407 = .ok (.aload_n 0, 1) := by decide +kernel
theorem dL_law_408 : decode cL_law 408 = .ok (.iload_n 3, 1) := by decide +kernel
theorem dL_law_409 : decode cL_law 409 = .ok (.iconst 1, 1) := by decide +kernel
theorem dL_law_410 : decode cL_law 410 = .ok (.iadd, 1) := by decide +kernel
theorem dL_law_411 : decode cL_law 411 = .ok (.iaload, 1) := by decide +kernel
theorem dL_law_412 : decode cL_law 412 = .ok (.aload_n 0, 1) := by decide +kernel
theorem dL_law_413 : decode cL_law 413 = .ok (.iload_n 3, 1) := by decide +kernel
theorem dL_law_414 : decode cL_law 414 = .ok (.iconst 2, 1) := by decide +kernel
theorem dL_law_415 : decode cL_law 415 = .ok (.iadd, 1) := by decide +kernel
theorem dL_law_416 : decode cL_law 416 = .ok (.iaload, 1) := by decide +kernel
theorem dL_law_417 : decode cL_law 417 = .ok (.invokevirtual 45, 3) := by decide +kernel
theorem dL_law_420 : decode cL_law 420 = .ok (.if_icmp .eq 994, 3) := by decide +kernel
theorem dL_law_423 : decode cL_law 423 = .ok (.iconst 0, 1) := by decide +kernel
theorem dL_law_424 : decode cL_law 424 = .ok (.ireturn, 1) := by decide +kernel
theorem dL_law_425 : decode cL_law 425 = .ok (.aload_n 1, 1) := by decide +kernel
theorem dL_law_426 : decode cL_law 426 = .ok (.aload_n 0, 1) := by decide +kernel
theorem dL_law_427 : decode cL_law 427 = .ok (.iload_n 3, 1) := by decide +kernel
theorem dL_law_428 : decode cL_law 428 = .ok (.iconst 1, 1) := by decide +kernel
theorem dL_law_429 : decode cL_law 429 = .ok (.iadd, 1) := by decide +kernel
theorem dL_law_430 : decode cL_law 430 = .ok (.iaload, 1) := by decide +kernel
theorem dL_law_431 : decode cL_law 431 = .ok (.invokevirtual 46, 3) := by decide +kernel
theorem dL_law_434 : decode cL_law 434 = .ok (.aload_n 2, 1) := by decide +kernel
theorem dL_law_435 : decode cL_law 435 = .ok (.aload_n 0, 1) := by decide +kernel
theorem dL_law_436 : decode cL_law 436 = .ok (.iload_n 3, 1) := by decide +kernel
theorem dL_law_437 : decode cL_law 437 = .ok (.iconst 1, 1) := by decide +kernel
theorem dL_law_438 : decode cL_law 438 = .ok (.iadd, 1) := by decide +kernel
theorem dL_law_439 : decode cL_law 439 = .ok (.iaload, 1) := by decide +kernel
theorem dL_law_440 : decode cL_law 440 = .ok (.invokevirtual 49, 3) := by decide +kernel
theorem dL_law_443 : decode cL_law 443 = .ok (.if_icmp .eq 971, 3) := by decide +kernel
theorem dL_law_446 : decode cL_law 446 = .ok (.iconst 0, 1) := by decide +kernel
theorem dL_law_447 : decode cL_law 447 = .ok (.ireturn, 1) := by decide +kernel
theorem dL_law_448 : decode cL_law 448 = .ok (.aload_n 1, 1) := by decide +kernel
theorem dL_law_449 : decode cL_law 449 = .ok (.aload_n 0, 1) := by decide +kernel
theorem dL_law_450 : decode cL_law 450 = .ok (.iload_n 3, 1) := by decide +kernel
theorem dL_law_451 : decode cL_law 451 = .ok (.iconst 1, 1) := by decide +kernel
theorem dL_law_452 : decode cL_law 452 = .ok (.iadd, 1) := by decide +kernel
theorem dL_law_453 : decode cL_law 453 = .ok (.iaload, 1) := by decide +kernel
theorem dL_law_454 : decode cL_law 454 = .ok (.aload_n 0, 1) := by decide +kernel
theorem dL_law_455 : decode cL_law 455 = .ok (.iload_n 3, 1) := by decide +kernel
theorem dL_law_456 : decode cL_law 456 = .ok (.iconst 2, 1) := by decide +kernel
theorem dL_law_457 : decode cL_law 457 = .ok (.iadd, 1) := by decide +kernel
theorem dL_law_458 : decode cL_law 458 = .ok (.iaload, 1) := by decide +kernel
theorem dL_law_459 : decode cL_law 459 = .ok (.i2l, 1) := by decide +kernel
theorem dL_law_460 : decode cL_law 460 = .ok (.bipush 32, 2) := by decide +kernel
theorem dL_law_462 : decode cL_law 462 = .ok (.lshl, 1) := by decide +kernel
theorem dL_law_463 : decode cL_law 463 = .ok (.aload_n 0, 1) := by decide +kernel
theorem dL_law_464 : decode cL_law 464 = .ok (.iload_n 3, 1) := by decide +kernel
theorem dL_law_465 : decode cL_law 465 = .ok (.iconst 3, 1) := by decide +kernel
theorem dL_law_466 : decode cL_law 466 = .ok (.iadd, 1) := by decide +kernel
theorem dL_law_467 : decode cL_law 467 = .ok (.iaload, 1) := by decide +kernel
theorem dL_law_468 : decode cL_law 468 = .ok (.i2l, 1) := by decide +kernel
theorem dL_law_469 : decode cL_law 469 = .ok (.ldc2_w 13, 3) := by decide +kernel
theorem dL_law_472 : decode cL_law 472 = .ok (.land, 1) := by decide +kernel
theorem dL_law_473 : decode cL_law 473 = .ok (.lor, 1) := by decide +kernel
theorem dL_law_474 : decode cL_law 474 = .ok (.invokevirtual 50, 3) := by decide +kernel
theorem dL_law_477 : decode cL_law 477 = .ok (.aload_n 2, 1) := by decide +kernel
theorem dL_law_478 : decode cL_law 478 = .ok (.aload_n 0, 1) := by decide +kernel
theorem dL_law_479 : decode cL_law 479 = .ok (.iload_n 3, 1) := by decide +kernel
theorem dL_law_480 : decode cL_law 480 = .ok (.iconst 1, 1) := by decide +kernel
theorem dL_law_481 : decode cL_law 481 = .ok (.iadd, 1) := by decide +kernel
theorem dL_law_482 : decode cL_law 482 = .ok (.iaload, 1) := by decide +kernel
theorem dL_law_483 : decode cL_law 483 = .ok (.aload_n 0, 1) := by decide +kernel
theorem dL_law_484 : decode cL_law 484 = .ok (.iload_n 3, 1) := by decide +kernel
theorem dL_law_485 : decode cL_law 485 = .ok (.iconst 2, 1) := by decide +kernel
theorem dL_law_486 : decode cL_law 486 = .ok (.iadd, 1) := by decide +kernel
theorem dL_law_487 : decode cL_law 487 = .ok (.iaload, 1) := by decide +kernel
theorem dL_law_488 : decode cL_law 488 = .ok (.i2l, 1) := by decide +kernel
theorem dL_law_489 : decode cL_law 489 = .ok (.bipush 32, 2) := by decide +kernel
theorem dL_law_491 : decode cL_law 491 = .ok (.lshl, 1) := by decide +kernel
theorem dL_law_492 : decode cL_law 492 = .ok (.aload_n 0, 1) := by decide +kernel
theorem dL_law_493 : decode cL_law 493 = .ok (.iload_n 3, 1) := by decide +kernel
theorem dL_law_494 : decode cL_law 494 = .ok (.iconst 3, 1) := by decide +kernel
theorem dL_law_495 : decode cL_law 495 = .ok (.iadd, 1) := by decide +kernel
theorem dL_law_496 : decode cL_law 496 = .ok (.iaload, 1) := by decide +kernel
theorem dL_law_497 : decode cL_law 497 = .ok (.i2l, 1) := by decide +kernel
theorem dL_law_498 : decode cL_law 498 = .ok (.ldc2_w 13, 3) := by decide +kernel
theorem dL_law_501 : decode cL_law 501 = .ok (.land, 1) := by decide +kernel
theorem dL_law_502 : decode cL_law 502 = .ok (.lor, 1) := by decide +kernel
theorem dL_law_503 : decode cL_law 503 = .ok (.invokevirtual 54, 3) := by decide +kernel
theorem dL_law_506 : decode cL_law 506 = .ok (.if_icmp .eq 908, 3) := by decide +kernel
theorem dL_law_509 : decode cL_law 509 = .ok (.iconst 0, 1) := by decide +kernel
theorem dL_law_510 : decode cL_law 510 = .ok (.ireturn, 1) := by decide +kernel
theorem dL_law_511 : decode cL_law 511 = .ok (.aload_n 1, 1) := by decide +kernel
theorem dL_law_512 : decode cL_law 512 = .ok (.aload_n 0, 1) := by decide +kernel
theorem dL_law_513 : decode cL_law 513 = .ok (.iload_n 3, 1) := by decide +kernel
theorem dL_law_514 : decode cL_law 514 = .ok (.iconst 1, 1) := by decide +kernel
theorem dL_law_515 : decode cL_law 515 = .ok (.iadd, 1) := by decide +kernel
theorem dL_law_516 : decode cL_law 516 = .ok (.iaload, 1) := by decide +kernel
theorem dL_law_517 : decode cL_law 517 = .ok (.invokevirtual 55, 3) := by decide +kernel
theorem dL_law_520 : decode cL_law 520 = .ok (.aload_n 2, 1) := by decide +kernel
theorem dL_law_521 : decode cL_law 521 = .ok (.aload_n 0, 1) := by decide +kernel
theorem dL_law_522 : decode cL_law 522 = .ok (.iload_n 3, 1) := by decide +kernel
theorem dL_law_523 : decode cL_law 523 = .ok (.iconst 1, 1) := by decide +kernel
theorem dL_law_524 : decode cL_law 524 = .ok (.iadd, 1) := by decide +kernel
theorem dL_law_525 : decode cL_law 525 = .ok (.iaload, 1) := by decide +kernel
theorem dL_law_526 : decode cL_law 526 = .ok (.invokevirtual 58, 3) := by decide +kernel
theorem dL_law_529 : decode cL_law 529 = .ok (.if_icmp .eq 885, 3) := by decide +kernel
theorem dL_law_532 : decode cL_law 532 = .ok (.iconst 0, 1) := by decide +kernel
theorem dL_law_533 : decode cL_law 533 = .ok (.ireturn, 1) := by decide +kernel
theorem dL_law_534 : decode cL_law 534 = .ok (.aload_n 1, 1) := by decide +kernel
theorem dL_law_535 : decode cL_law 535 = .ok (.aload_n 0, 1) := by decide +kernel
theorem dL_law_536 : decode cL_law 536 = .ok (.iload_n 3, 1) := by decide +kernel
theorem dL_law_537 : decode cL_law 537 = .ok (.iconst 1, 1) := by decide +kernel
theorem dL_law_538 : decode cL_law 538 = .ok (.iadd, 1) := by decide +kernel
theorem dL_law_539 : decode cL_law 539 = .ok (.iaload, 1) := by decide +kernel
theorem dL_law_540 : decode cL_law 540 = .ok (.aload_n 0, 1) := by decide +kernel
theorem dL_law_541 : decode cL_law 541 = .ok (.iload_n 3, 1) := by decide +kernel
theorem dL_law_542 : decode cL_law 542 = .ok (.iconst 2, 1) := by decide +kernel
theorem dL_law_543 : decode cL_law 543 = .ok (.iadd, 1) := by decide +kernel
theorem dL_law_544 : decode cL_law 544 = .ok (.iaload, 1) := by decide +kernel
theorem dL_law_545 : decode cL_law 545 = .ok (.aload_n 0, 1) := by decide +kernel
theorem dL_law_546 : decode cL_law 546 = .ok (.iload_n 3, 1) := by decide +kernel
theorem dL_law_547 : decode cL_law 547 = .ok (.iconst 3, 1) := by decide +kernel
theorem dL_law_548 : decode cL_law 548 = .ok (.iadd, 1) := by decide +kernel
theorem dL_law_549 : decode cL_law 549 = .ok (.iaload, 1) := by decide +kernel
theorem dL_law_550 : decode cL_law 550 = .ok (.invokevirtual 59, 3) := by decide +kernel
theorem dL_law_553 : decode cL_law 553 = .ok (.aload_n 2, 1) := by decide +kernel
theorem dL_law_554 : decode cL_law 554 = .ok (.aload_n 0, 1) := by decide +kernel
theorem dL_law_555 : decode cL_law 555 = .ok (.iload_n 3, 1) := by decide +kernel
theorem dL_law_556 : decode cL_law 556 = .ok (.iconst 1, 1) := by decide +kernel
theorem dL_law_557 : decode cL_law 557 = .ok (.iadd, 1) := by decide +kernel
theorem dL_law_558 : decode cL_law 558 = .ok (.iaload, 1) := by decide +kernel
theorem dL_law_559 : decode cL_law 559 = .ok (.aload_n 0, 1) := by decide +kernel
theorem dL_law_560 : decode cL_law 560 = .ok (.iload_n 3, 1) := by decide +kernel
theorem dL_law_561 : decode cL_law 561 = .ok (.iconst 2, 1) := by decide +kernel
theorem dL_law_562 : decode cL_law 562 = .ok (.iadd, 1) := by decide +kernel
theorem dL_law_563 : decode cL_law 563 = .ok (.iaload, 1) := by decide +kernel
theorem dL_law_564 : decode cL_law 564 = .ok (.aload_n 0, 1) := by decide +kernel
theorem dL_law_565 : decode cL_law 565 = .ok (.iload_n 3, 1) := by decide +kernel
theorem dL_law_566 : decode cL_law 566 = .ok (.iconst 3, 1) := by decide +kernel
theorem dL_law_567 : decode cL_law 567 = .ok (.iadd, 1) := by decide +kernel
theorem dL_law_568 : decode cL_law 568 = .ok (.iaload, 1) := by decide +kernel
theorem dL_law_569 : decode cL_law 569 = .ok (.invokevirtual 63, 3) := by decide +kernel
theorem dL_law_572 : decode cL_law 572 = .ok (.if_icmp .eq 842, 3) := by decide +kernel
theorem dL_law_575 : decode cL_law 575 = .ok (.iconst 0, 1) := by decide +kernel
theorem dL_law_576 : decode cL_law 576 = .ok (.ireturn, 1) := by decide +kernel
theorem dL_law_577 : decode cL_law 577 = .ok (.aload_n 1, 1) := by decide +kernel
theorem dL_law_578 : decode cL_law 578 = .ok (.aload_n 0, 1) := by decide +kernel
theorem dL_law_579 : decode cL_law 579 = .ok (.iload_n 3, 1) := by decide +kernel
theorem dL_law_580 : decode cL_law 580 = .ok (.iconst 1, 1) := by decide +kernel
theorem dL_law_581 : decode cL_law 581 = .ok (.iadd, 1) := by decide +kernel
theorem dL_law_582 : decode cL_law 582 = .ok (.iaload, 1) := by decide +kernel
theorem dL_law_583 : decode cL_law 583 = .ok (.aload_n 0, 1) := by decide +kernel
theorem dL_law_584 : decode cL_law 584 = .ok (.iload_n 3, 1) := by decide +kernel
theorem dL_law_585 : decode cL_law 585 = .ok (.iconst 2, 1) := by decide +kernel
theorem dL_law_586 : decode cL_law 586 = .ok (.iadd, 1) := by decide +kernel
theorem dL_law_587 : decode cL_law 587 = .ok (.iaload, 1) := by decide +kernel
theorem dL_law_588 : decode cL_law 588 = .ok (.invokevirtual 64, 3) := by decide +kernel
theorem dL_law_591 : decode cL_law 591 = .ok (.aload_n 2, 1) := by decide +kernel
theorem dL_law_592 : decode cL_law 592 = .ok (.aload_n 0, 1) := by decide +kernel
theorem dL_law_593 : decode cL_law 593 = .ok (.iload_n 3, 1) := by decide +kernel
theorem dL_law_594 : decode cL_law 594 = .ok (.iconst 1, 1) := by decide +kernel
theorem dL_law_595 : decode cL_law 595 = .ok (.iadd, 1) := by decide +kernel
theorem dL_law_596 : decode cL_law 596 = .ok (.iaload, 1) := by decide +kernel
theorem dL_law_597 : decode cL_law 597 = .ok (.aload_n 0, 1) := by decide +kernel
theorem dL_law_598 : decode cL_law 598 = .ok (.iload_n 3, 1) := by decide +kernel
theorem dL_law_599 : decode cL_law 599 = .ok (.iconst 2, 1) := by decide +kernel
theorem dL_law_600 : decode cL_law 600 = .ok (.iadd, 1) := by decide +kernel
theorem dL_law_601 : decode cL_law 601 = .ok (.iaload, 1) := by decide +kernel
theorem dL_law_602 : decode cL_law 602 = .ok (.invokevirtual 67, 3) := by decide +kernel
theorem dL_law_605 : decode cL_law 605 = .ok (.if_icmp .eq 809, 3) := by decide +kernel
theorem dL_law_608 : decode cL_law 608 = .ok (.iconst 0, 1) := by decide +kernel
theorem dL_law_609 : decode cL_law 609 = .ok (.ireturn, 1) := by decide +kernel
theorem dL_law_610 : decode cL_law 610 = .ok (.aload_n 1, 1) := by decide +kernel
theorem dL_law_611 : decode cL_law 611 = .ok (.aload_n 0, 1) := by decide +kernel
theorem dL_law_612 : decode cL_law 612 = .ok (.iload_n 3, 1) := by decide +kernel
theorem dL_law_613 : decode cL_law 613 = .ok (.iconst 1, 1) := by decide +kernel
theorem dL_law_614 : decode cL_law 614 = .ok (.iadd, 1) := by decide +kernel
theorem dL_law_615 : decode cL_law 615 = .ok (.iaload, 1) := by decide +kernel
theorem dL_law_616 : decode cL_law 616 = .ok (.aload_n 0, 1) := by decide +kernel
theorem dL_law_617 : decode cL_law 617 = .ok (.iload_n 3, 1) := by decide +kernel
theorem dL_law_618 : decode cL_law 618 = .ok (.iconst 2, 1) := by decide +kernel
theorem dL_law_619 : decode cL_law 619 = .ok (.iadd, 1) := by decide +kernel
theorem dL_law_620 : decode cL_law 620 = .ok (.iaload, 1) := by decide +kernel
theorem dL_law_621 : decode cL_law 621 = .ok (.aload_n 0, 1) := by decide +kernel
theorem dL_law_622 : decode cL_law 622 = .ok (.iload_n 3, 1) := by decide +kernel
theorem dL_law_623 : decode cL_law 623 = .ok (.iconst 3, 1) := by decide +kernel
theorem dL_law_624 : decode cL_law 624 = .ok (.iadd, 1) := by decide +kernel
theorem dL_law_625 : decode cL_law 625 = .ok (.iaload, 1) := by decide +kernel
theorem dL_law_626 : decode cL_law 626 = .ok (.aload_n 0, 1) := by decide +kernel
theorem dL_law_627 : decode cL_law 627 = .ok (.iload_n 3, 1) := by decide +kernel
theorem dL_law_628 : decode cL_law 628 = .ok (.iconst 4, 1) := by decide +kernel
theorem dL_law_629 : decode cL_law 629 = .ok (.iadd, 1) := by decide +kernel
theorem dL_law_630 : decode cL_law 630 = .ok (.iaload, 1) := by decide +kernel
theorem dL_law_631 : decode cL_law 631 = .ok (.aload_n 0, 1) := by decide +kernel
theorem dL_law_632 : decode cL_law 632 = .ok (.iload_n 3, 1) := by decide +kernel
theorem dL_law_633 : decode cL_law 633 = .ok (.iconst 5, 1) := by decide +kernel
theorem dL_law_634 : decode cL_law 634 = .ok (.iadd, 1) := by decide +kernel
theorem dL_law_635 : decode cL_law 635 = .ok (.iaload, 1) := by decide +kernel
theorem dL_law_636 : decode cL_law 636 = .ok (.invokevirtual 68, 3) := by decide +kernel
theorem dL_law_639 : decode cL_law 639 = .ok (.aload_n 2, 1) := by decide +kernel
theorem dL_law_640 : decode cL_law 640 = .ok (.aload_n 0, 1) := by decide +kernel
theorem dL_law_641 : decode cL_law 641 = .ok (.iload_n 3, 1) := by decide +kernel
theorem dL_law_642 : decode cL_law 642 = .ok (.iconst 1, 1) := by decide +kernel
theorem dL_law_643 : decode cL_law 643 = .ok (.iadd, 1) := by decide +kernel
theorem dL_law_644 : decode cL_law 644 = .ok (.iaload, 1) := by decide +kernel
theorem dL_law_645 : decode cL_law 645 = .ok (.aload_n 0, 1) := by decide +kernel
theorem dL_law_646 : decode cL_law 646 = .ok (.iload_n 3, 1) := by decide +kernel
theorem dL_law_647 : decode cL_law 647 = .ok (.iconst 2, 1) := by decide +kernel
theorem dL_law_648 : decode cL_law 648 = .ok (.iadd, 1) := by decide +kernel
theorem dL_law_649 : decode cL_law 649 = .ok (.iaload, 1) := by decide +kernel
theorem dL_law_650 : decode cL_law 650 = .ok (.aload_n 0, 1) := by decide +kernel
theorem dL_law_651 : decode cL_law 651 = .ok (.iload_n 3, 1) := by decide +kernel
theorem dL_law_652 : decode cL_law 652 = .ok (.iconst 3, 1) := by decide +kernel
theorem dL_law_653 : decode cL_law 653 = .ok (.iadd, 1) := by decide +kernel
theorem dL_law_654 : decode cL_law 654 = .ok (.iaload, 1) := by decide +kernel
theorem dL_law_655 : decode cL_law 655 = .ok (.aload_n 0, 1) := by decide +kernel
theorem dL_law_656 : decode cL_law 656 = .ok (.iload_n 3, 1) := by decide +kernel
theorem dL_law_657 : decode cL_law 657 = .ok (.iconst 4, 1) := by decide +kernel
theorem dL_law_658 : decode cL_law 658 = .ok (.iadd, 1) := by decide +kernel
theorem dL_law_659 : decode cL_law 659 = .ok (.iaload, 1) := by decide +kernel
theorem dL_law_660 : decode cL_law 660 = .ok (.aload_n 0, 1) := by decide +kernel
theorem dL_law_661 : decode cL_law 661 = .ok (.iload_n 3, 1) := by decide +kernel
theorem dL_law_662 : decode cL_law 662 = .ok (.iconst 5, 1) := by decide +kernel
theorem dL_law_663 : decode cL_law 663 = .ok (.iadd, 1) := by decide +kernel
theorem dL_law_664 : decode cL_law 664 = .ok (.iaload, 1) := by decide +kernel
theorem dL_law_665 : decode cL_law 665 = .ok (.invokevirtual 72, 3) := by decide +kernel
theorem dL_law_668 : decode cL_law 668 = .ok (.if_icmp .eq 746, 3) := by decide +kernel
theorem dL_law_671 : decode cL_law 671 = .ok (.iconst 0, 1) := by decide +kernel
theorem dL_law_672 : decode cL_law 672 = .ok (.ireturn, 1) := by decide +kernel
theorem dL_law_673 : decode cL_law 673 = .ok (.aload_n 1, 1) := by decide +kernel
theorem dL_law_674 : decode cL_law 674 = .ok (.aload_n 0, 1) := by decide +kernel
theorem dL_law_675 : decode cL_law 675 = .ok (.iload_n 3, 1) := by decide +kernel
theorem dL_law_676 : decode cL_law 676 = .ok (.iconst 1, 1) := by decide +kernel
theorem dL_law_677 : decode cL_law 677 = .ok (.iadd, 1) := by decide +kernel
theorem dL_law_678 : decode cL_law 678 = .ok (.iaload, 1) := by decide +kernel
theorem dL_law_679 : decode cL_law 679 = .ok (.invokevirtual 73, 3) := by decide +kernel
theorem dL_law_682 : decode cL_law 682 = .ok (.aload_n 2, 1) := by decide +kernel
theorem dL_law_683 : decode cL_law 683 = .ok (.aload_n 0, 1) := by decide +kernel
theorem dL_law_684 : decode cL_law 684 = .ok (.iload_n 3, 1) := by decide +kernel
theorem dL_law_685 : decode cL_law 685 = .ok (.iconst 1, 1) := by decide +kernel
theorem dL_law_686 : decode cL_law 686 = .ok (.iadd, 1) := by decide +kernel
theorem dL_law_687 : decode cL_law 687 = .ok (.iaload, 1) := by decide +kernel
theorem dL_law_688 : decode cL_law 688 = .ok (.invokevirtual 76, 3) := by decide +kernel
theorem dL_law_691 : decode cL_law 691 = .ok (.if_icmp .eq 723, 3) := by decide +kernel
theorem dL_law_694 : decode cL_law 694 = .ok (.iconst 0, 1) := by decide +kernel
theorem dL_law_695 : decode cL_law 695 = .ok (.ireturn, 1) := by decide +kernel
theorem dL_law_696 : decode cL_law 696 = .ok (.aload_n 1, 1) := by decide +kernel
theorem dL_law_697 : decode cL_law 697 = .ok (.aload_n 0, 1) := by decide +kernel
theorem dL_law_698 : decode cL_law 698 = .ok (.iload_n 3, 1) := by decide +kernel
theorem dL_law_699 : decode cL_law 699 = .ok (.iconst 1, 1) := by decide +kernel
theorem dL_law_700 : decode cL_law 700 = .ok (.iadd, 1) := by decide +kernel
theorem dL_law_701 : decode cL_law 701 = .ok (.iaload, 1) := by decide +kernel
theorem dL_law_702 : decode cL_law 702 = .ok (.invokevirtual 77, 3) := by decide +kernel
theorem dL_law_705 : decode cL_law 705 = .ok (.aload_n 2, 1) := by decide +kernel
theorem dL_law_706 : decode cL_law 706 = .ok (.aload_n 0, 1) := by decide +kernel
theorem dL_law_707 : decode cL_law 707 = .ok (.iload_n 3, 1) := by decide +kernel
theorem dL_law_708 : decode cL_law 708 = .ok (.iconst 1, 1) := by decide +kernel
theorem dL_law_709 : decode cL_law 709 = .ok (.iadd, 1) := by decide +kernel
theorem dL_law_710 : decode cL_law 710 = .ok (.iaload, 1) := by decide +kernel
theorem dL_law_711 : decode cL_law 711 = .ok (.invokevirtual 80, 3) := by decide +kernel
theorem dL_law_714 : decode cL_law 714 = .ok (.if_icmp .eq 700, 3) := by decide +kernel
theorem dL_law_717 : decode cL_law 717 = .ok (.iconst 0, 1) := by decide +kernel
theorem dL_law_718 : decode cL_law 718 = .ok (.ireturn, 1) := by decide +kernel
theorem dL_law_719 : decode cL_law 719 = .ok (.aload_n 1, 1) := by decide +kernel
theorem dL_law_720 : decode cL_law 720 = .ok (.aload_n 0, 1) := by decide +kernel
theorem dL_law_721 : decode cL_law 721 = .ok (.iload_n 3, 1) := by decide +kernel
theorem dL_law_722 : decode cL_law 722 = .ok (.iconst 1, 1) := by decide +kernel
theorem dL_law_723 : decode cL_law 723 = .ok (.iadd, 1) := by decide +kernel
theorem dL_law_724 : decode cL_law 724 = .ok (.iaload, 1) := by decide +kernel
theorem dL_law_725 : decode cL_law 725 = .ok (.aload_n 0, 1) := by decide +kernel
theorem dL_law_726 : decode cL_law 726 = .ok (.iload_n 3, 1) := by decide +kernel
theorem dL_law_727 : decode cL_law 727 = .ok (.iconst 2, 1) := by decide +kernel
theorem dL_law_728 : decode cL_law 728 = .ok (.iadd, 1) := by decide +kernel
theorem dL_law_729 : decode cL_law 729 = .ok (.iaload, 1) := by decide +kernel
theorem dL_law_730 : decode cL_law 730 = .ok (.invokevirtual 81, 3) := by decide +kernel
theorem dL_law_733 : decode cL_law 733 = .ok (.aload_n 2, 1) := by decide +kernel
theorem dL_law_734 : decode cL_law 734 = .ok (.aload_n 0, 1) := by decide +kernel
theorem dL_law_735 : decode cL_law 735 = .ok (.iload_n 3, 1) := by decide +kernel
theorem dL_law_736 : decode cL_law 736 = .ok (.iconst 1, 1) := by decide +kernel
theorem dL_law_737 : decode cL_law 737 = .ok (.iadd, 1) := by decide +kernel
theorem dL_law_738 : decode cL_law 738 = .ok (.iaload, 1) := by decide +kernel
theorem dL_law_739 : decode cL_law 739 = .ok (.aload_n 0, 1) := by decide +kernel
theorem dL_law_740 : decode cL_law 740 = .ok (.iload_n 3, 1) := by decide +kernel
theorem dL_law_741 : decode cL_law 741 = .ok (.iconst 2, 1) := by decide +kernel
theorem dL_law_742 : decode cL_law 742 = .ok (.iadd, 1) := by decide +kernel
theorem dL_law_743 : decode cL_law 743 = .ok (.iaload, 1) := by decide +kernel
theorem dL_law_744 : decode cL_law 744 = .ok (.invokevirtual 84, 3) := by decide +kernel
theorem dL_law_747 : decode cL_law 747 = .ok (.if_icmp .eq 667, 3) := by decide +kernel
theorem dL_law_750 : decode cL_law 750 = .ok (.iconst 0, 1) := by decide +kernel
theorem dL_law_751 : decode cL_law 751 = .ok (.ireturn, 1) := by decide +kernel
theorem dL_law_752 : decode cL_law 752 = .ok (.aload_n 1, 1) := by decide +kernel
theorem dL_law_753 : decode cL_law 753 = .ok (.aload_n 0, 1) := by decide +kernel
theorem dL_law_754 : decode cL_law 754 = .ok (.iload_n 3, 1) := by decide +kernel
theorem dL_law_755 : decode cL_law 755 = .ok (.iconst 1, 1) := by decide +kernel
theorem dL_law_756 : decode cL_law 756 = .ok (.iadd, 1) := by decide +kernel
theorem dL_law_757 : decode cL_law 757 = .ok (.iaload, 1) := by decide +kernel
theorem dL_law_758 : decode cL_law 758 = .ok (.aload_n 0, 1) := by decide +kernel
theorem dL_law_759 : decode cL_law 759 = .ok (.iload_n 3, 1) := by decide +kernel
theorem dL_law_760 : decode cL_law 760 = .ok (.iconst 2, 1) := by decide +kernel
theorem dL_law_761 : decode cL_law 761 = .ok (.iadd, 1) := by decide +kernel
theorem dL_law_762 : decode cL_law 762 = .ok (.iaload, 1) := by decide +kernel
theorem dL_law_763 : decode cL_law 763 = .ok (.invokevirtual 85, 3) := by decide +kernel
theorem dL_law_766 : decode cL_law 766 = .ok (.aload_n 2, 1) := by decide +kernel
theorem dL_law_767 : decode cL_law 767 = .ok (.aload_n 0, 1) := by decide +kernel
theorem dL_law_768 : decode cL_law 768 = .ok (.iload_n 3, 1) := by decide +kernel
theorem dL_law_769 : decode cL_law 769 = .ok (.iconst 1, 1) := by decide +kernel
theorem dL_law_770 : decode cL_law 770 = .ok (.iadd, 1) := by decide +kernel
theorem dL_law_771 : decode cL_law 771 = .ok (.iaload, 1) := by decide +kernel
theorem dL_law_772 : decode cL_law 772 = .ok (.aload_n 0, 1) := by decide +kernel
theorem dL_law_773 : decode cL_law 773 = .ok (.iload_n 3, 1) := by decide +kernel
theorem dL_law_774 : decode cL_law 774 = .ok (.iconst 2, 1) := by decide +kernel
theorem dL_law_775 : decode cL_law 775 = .ok (.iadd, 1) := by decide +kernel
theorem dL_law_776 : decode cL_law 776 = .ok (.iaload, 1) := by decide +kernel
theorem dL_law_777 : decode cL_law 777 = .ok (.invokevirtual 89, 3) := by decide +kernel
theorem dL_law_780 : decode cL_law 780 = .ok (.lcmp, 1) := by decide +kernel
theorem dL_law_781 : decode cL_law 781 = .ok (.ifCond .eq 633, 3) := by decide +kernel
theorem dL_law_784 : decode cL_law 784 = .ok (.iconst 0, 1) := by decide +kernel
theorem dL_law_785 : decode cL_law 785 = .ok (.ireturn, 1) := by decide +kernel
theorem dL_law_786 : decode cL_law 786 = .ok (.aload_n 1, 1) := by decide +kernel
theorem dL_law_787 : decode cL_law 787 = .ok (.invokevirtual 90, 3) := by decide +kernel
theorem dL_law_790 : decode cL_law 790 = .ok (.aload_n 2, 1) := by decide +kernel
theorem dL_law_791 : decode cL_law 791 = .ok (.invokevirtual 94, 3) := by decide +kernel
theorem dL_law_794 : decode cL_law 794 = .ok (.if_icmp .eq 620, 3) := by decide +kernel
theorem dL_law_797 : decode cL_law 797 = .ok (.iconst 0, 1) := by decide +kernel
theorem dL_law_798 : decode cL_law 798 = .ok (.ireturn, 1) := by decide +kernel
theorem dL_law_799 : decode cL_law 799 = .ok (.aload_n 1, 1) := by decide +kernel
theorem dL_law_800 : decode cL_law 800 = .ok (.aload_n 0, 1) := by decide +kernel
theorem dL_law_801 : decode cL_law 801 = .ok (.iload_n 3, 1) := by decide +kernel
theorem dL_law_802 : decode cL_law 802 = .ok (.iconst 1, 1) := by decide +kernel
theorem dL_law_803 : decode cL_law 803 = .ok (.iadd, 1) := by decide +kernel
theorem dL_law_804 : decode cL_law 804 = .ok (.iaload, 1) := by decide +kernel
theorem dL_law_805 : decode cL_law 805 = .ok (.invokevirtual 95, 3) := by decide +kernel
theorem dL_law_808 : decode cL_law 808 = .ok (.aload_n 2, 1) := by decide +kernel
theorem dL_law_809 : decode cL_law 809 = .ok (.aload_n 0, 1) := by decide +kernel
theorem dL_law_810 : decode cL_law 810 = .ok (.iload_n 3, 1) := by decide +kernel
theorem dL_law_811 : decode cL_law 811 = .ok (.iconst 1, 1) := by decide +kernel
theorem dL_law_812 : decode cL_law 812 = .ok (.iadd, 1) := by decide +kernel
theorem dL_law_813 : decode cL_law 813 = .ok (.iaload, 1) := by decide +kernel
theorem dL_law_814 : decode cL_law 814 = .ok (.invokevirtual 98, 3) := by decide +kernel
theorem dL_law_817 : decode cL_law 817 = .ok (.if_icmp .eq 597, 3) := by decide +kernel
theorem dL_law_820 : decode cL_law 820 = .ok (.iconst 0, 1) := by decide +kernel
theorem dL_law_821 : decode cL_law 821 = .ok (.ireturn, 1) := by decide +kernel
theorem dL_law_822 : decode cL_law 822 = .ok (.aload_n 1, 1) := by decide +kernel
theorem dL_law_823 : decode cL_law 823 = .ok (.aload_n 0, 1) := by decide +kernel
theorem dL_law_824 : decode cL_law 824 = .ok (.iload_n 3, 1) := by decide +kernel
theorem dL_law_825 : decode cL_law 825 = .ok (.iconst 1, 1) := by decide +kernel
theorem dL_law_826 : decode cL_law 826 = .ok (.iadd, 1) := by decide +kernel
theorem dL_law_827 : decode cL_law 827 = .ok (.iaload, 1) := by decide +kernel
theorem dL_law_828 : decode cL_law 828 = .ok (.invokevirtual 99, 3) := by decide +kernel
theorem dL_law_831 : decode cL_law 831 = .ok (.aload_n 2, 1) := by decide +kernel
theorem dL_law_832 : decode cL_law 832 = .ok (.aload_n 0, 1) := by decide +kernel
theorem dL_law_833 : decode cL_law 833 = .ok (.iload_n 3, 1) := by decide +kernel
theorem dL_law_834 : decode cL_law 834 = .ok (.iconst 1, 1) := by decide +kernel
theorem dL_law_835 : decode cL_law 835 = .ok (.iadd, 1) := by decide +kernel
theorem dL_law_836 : decode cL_law 836 = .ok (.iaload, 1) := by decide +kernel
theorem dL_law_837 : decode cL_law 837 = .ok (.invokevirtual 102, 3) := by decide +kernel
theorem dL_law_840 : decode cL_law 840 = .ok (.if_icmp .eq 574, 3) := by decide +kernel
theorem dL_law_843 : decode cL_law 843 = .ok (.iconst 0, 1) := by decide +kernel
theorem dL_law_844 : decode cL_law 844 = .ok (.ireturn, 1) := by decide +kernel
theorem dL_law_845 : decode cL_law 845 = .ok (.aload_n 1, 1) := by decide +kernel
theorem dL_law_846 : decode cL_law 846 = .ok (.aload_n 0, 1) := by decide +kernel
theorem dL_law_847 : decode cL_law 847 = .ok (.iload_n 3, 1) := by decide +kernel
theorem dL_law_848 : decode cL_law 848 = .ok (.iconst 1, 1) := by decide +kernel
theorem dL_law_849 : decode cL_law 849 = .ok (.iadd, 1) := by decide +kernel
theorem dL_law_850 : decode cL_law 850 = .ok (.iaload, 1) := by decide +kernel
theorem dL_law_851 : decode cL_law 851 = .ok (.invokevirtual 103, 3) := by decide +kernel
theorem dL_law_854 : decode cL_law 854 = .ok (.aload_n 2, 1) := by decide +kernel
theorem dL_law_855 : decode cL_law 855 = .ok (.aload_n 0, 1) := by decide +kernel
theorem dL_law_856 : decode cL_law 856 = .ok (.iload_n 3, 1) := by decide +kernel
theorem dL_law_857 : decode cL_law 857 = .ok (.iconst 1, 1) := by decide +kernel
theorem dL_law_858 : decode cL_law 858 = .ok (.iadd, 1) := by decide +kernel
theorem dL_law_859 : decode cL_law 859 = .ok (.iaload, 1) := by decide +kernel
theorem dL_law_860 : decode cL_law 860 = .ok (.invokevirtual 106, 3) := by decide +kernel
theorem dL_law_863 : decode cL_law 863 = .ok (.if_icmp .eq 551, 3) := by decide +kernel
theorem dL_law_866 : decode cL_law 866 = .ok (.iconst 0, 1) := by decide +kernel
theorem dL_law_867 : decode cL_law 867 = .ok (.ireturn, 1) := by decide +kernel
theorem dL_law_868 : decode cL_law 868 = .ok (.aload_n 1, 1) := by decide +kernel
theorem dL_law_869 : decode cL_law 869 = .ok (.aload_n 0, 1) := by decide +kernel
theorem dL_law_870 : decode cL_law 870 = .ok (.iload_n 3, 1) := by decide +kernel
theorem dL_law_871 : decode cL_law 871 = .ok (.iconst 1, 1) := by decide +kernel
theorem dL_law_872 : decode cL_law 872 = .ok (.iadd, 1) := by decide +kernel
theorem dL_law_873 : decode cL_law 873 = .ok (.iaload, 1) := by decide +kernel
theorem dL_law_874 : decode cL_law 874 = .ok (.aload_n 0, 1) := by decide +kernel
theorem dL_law_875 : decode cL_law 875 = .ok (.iload_n 3, 1) := by decide +kernel
theorem dL_law_876 : decode cL_law 876 = .ok (.iconst 2, 1) := by decide +kernel
theorem dL_law_877 : decode cL_law 877 = .ok (.iadd, 1) := by decide +kernel
theorem dL_law_878 : decode cL_law 878 = .ok (.iaload, 1) := by decide +kernel
theorem dL_law_879 : decode cL_law 879 = .ok (.ifCond .eq 7, 3) := by decide +kernel
theorem dL_law_882 : decode cL_law 882 = .ok (.iconst 1, 1) := by decide +kernel
theorem dL_law_883 : decode cL_law 883 = .ok (.goto 4, 3) := by decide +kernel
theorem dL_law_886 : decode cL_law 886 = .ok (.iconst 0, 1) := by decide +kernel
theorem dL_law_887 : decode cL_law 887 = .ok (.invokevirtual 107, 3) := by decide +kernel
theorem dL_law_890 : decode cL_law 890 = .ok (.aload_n 2, 1) := by decide +kernel
theorem dL_law_891 : decode cL_law 891 = .ok (.aload_n 0, 1) := by decide +kernel
theorem dL_law_892 : decode cL_law 892 = .ok (.iload_n 3, 1) := by decide +kernel
theorem dL_law_893 : decode cL_law 893 = .ok (.iconst 1, 1) := by decide +kernel
theorem dL_law_894 : decode cL_law 894 = .ok (.iadd, 1) := by decide +kernel
theorem dL_law_895 : decode cL_law 895 = .ok (.iaload, 1) := by decide +kernel
theorem dL_law_896 : decode cL_law 896 = .ok (.aload_n 0, 1) := by decide +kernel
theorem dL_law_897 : decode cL_law 897 = .ok (.iload_n 3, 1) := by decide +kernel
theorem dL_law_898 : decode cL_law 898 = .ok (.iconst 2, 1) := by decide +kernel
theorem dL_law_899 : decode cL_law 899 = .ok (.iadd, 1) := by decide +kernel
theorem dL_law_900 : decode cL_law 900 = .ok (.iaload, 1) := by decide +kernel
theorem dL_law_901 : decode cL_law 901 = .ok (.ifCond .eq 7, 3) := by decide +kernel
theorem dL_law_904 : decode cL_law 904 = .ok (.iconst 1, 1) := by decide +kernel
theorem dL_law_905 : decode cL_law 905 = .ok (.goto 4, 3) := by decide +kernel
theorem dL_law_908 : decode cL_law 908 = .ok (.iconst 0, 1) := by decide +kernel
theorem dL_law_909 : decode cL_law 909 = .ok (.invokevirtual 111, 3) := by decide +kernel
theorem dL_law_912 : decode cL_law 912 = .ok (.if_icmp .eq 502, 3) := by decide +kernel
theorem dL_law_915 : decode cL_law 915 = .ok (.iconst 0, 1) := by decide +kernel
theorem dL_law_916 : decode cL_law 916 = .ok (.ireturn, 1) := by decide +kernel
theorem dL_law_917 : decode cL_law 917 = .ok (.aload_n 1, 1) := by decide +kernel
theorem dL_law_918 : decode cL_law 918 = .ok (.aload_n 0, 1) := by decide +kernel
theorem dL_law_919 : decode cL_law 919 = .ok (.iload_n 3, 1) := by decide +kernel
theorem dL_law_920 : decode cL_law 920 = .ok (.iconst 1, 1) := by decide +kernel
theorem dL_law_921 : decode cL_law 921 = .ok (.iadd, 1) := by decide +kernel
theorem dL_law_922 : decode cL_law 922 = .ok (.iaload, 1) := by decide +kernel
theorem dL_law_923 : decode cL_law 923 = .ok (.invokevirtual 112, 3) := by decide +kernel
theorem dL_law_926 : decode cL_law 926 = .ok (.aload_n 2, 1) := by decide +kernel
theorem dL_law_927 : decode cL_law 927 = .ok (.aload_n 0, 1) := by decide +kernel
theorem dL_law_928 : decode cL_law 928 = .ok (.iload_n 3, 1) := by decide +kernel
theorem dL_law_929 : decode cL_law 929 = .ok (.iconst 1, 1) := by decide +kernel
theorem dL_law_930 : decode cL_law 930 = .ok (.iadd, 1) := by decide +kernel
theorem dL_law_931 : decode cL_law 931 = .ok (.iaload, 1) := by decide +kernel
theorem dL_law_932 : decode cL_law 932 = .ok (.invokevirtual 115, 3) := by decide +kernel
theorem dL_law_935 : decode cL_law 935 = .ok (.if_icmp .eq 479, 3) := by decide +kernel
theorem dL_law_938 : decode cL_law 938 = .ok (.iconst 0, 1) := by decide +kernel
theorem dL_law_939 : decode cL_law 939 = .ok (.ireturn, 1) := by decide +kernel
theorem dL_law_940 : decode cL_law 940 = .ok (.aload_n 1, 1) := by decide +kernel
theorem dL_law_941 : decode cL_law 941 = .ok (.aload_n 0, 1) := by decide +kernel
theorem dL_law_942 : decode cL_law 942 = .ok (.iload_n 3, 1) := by decide +kernel
theorem dL_law_943 : decode cL_law 943 = .ok (.iconst 1, 1) := by decide +kernel
theorem dL_law_944 : decode cL_law 944 = .ok (.iadd, 1) := by decide +kernel
theorem dL_law_945 : decode cL_law 945 = .ok (.iaload, 1) := by decide +kernel
theorem dL_law_946 : decode cL_law 946 = .ok (.aload_n 0, 1) := by decide +kernel
theorem dL_law_947 : decode cL_law 947 = .ok (.iload_n 3, 1) := by decide +kernel
theorem dL_law_948 : decode cL_law 948 = .ok (.iconst 2, 1) := by decide +kernel
theorem dL_law_949 : decode cL_law 949 = .ok (.iadd, 1) := by decide +kernel
theorem dL_law_950 : decode cL_law 950 = .ok (.iaload, 1) := by decide +kernel
theorem dL_law_951 : decode cL_law 951 = .ok (.aload_n 0, 1) := by decide +kernel
theorem dL_law_952 : decode cL_law 952 = .ok (.iload_n 3, 1) := by decide +kernel
theorem dL_law_953 : decode cL_law 953 = .ok (.iconst 3, 1) := by decide +kernel
theorem dL_law_954 : decode cL_law 954 = .ok (.iadd, 1) := by decide +kernel
theorem dL_law_955 : decode cL_law 955 = .ok (.iaload, 1) := by decide +kernel
theorem dL_law_956 : decode cL_law 956 = .ok (.invokevirtual 116, 3) := by decide +kernel
theorem dL_law_959 : decode cL_law 959 = .ok (.aload_n 2, 1) := by decide +kernel
theorem dL_law_960 : decode cL_law 960 = .ok (.aload_n 0, 1) := by decide +kernel
theorem dL_law_961 : decode cL_law 961 = .ok (.iload_n 3, 1) := by decide +kernel
theorem dL_law_962 : decode cL_law 962 = .ok (.iconst 1, 1) := by decide +kernel
theorem dL_law_963 : decode cL_law 963 = .ok (.iadd, 1) := by decide +kernel
theorem dL_law_964 : decode cL_law 964 = .ok (.iaload, 1) := by decide +kernel
theorem dL_law_965 : decode cL_law 965 = .ok (.aload_n 0, 1) := by decide +kernel
theorem dL_law_966 : decode cL_law 966 = .ok (.iload_n 3, 1) := by decide +kernel
theorem dL_law_967 : decode cL_law 967 = .ok (.iconst 2, 1) := by decide +kernel
theorem dL_law_968 : decode cL_law 968 = .ok (.iadd, 1) := by decide +kernel
theorem dL_law_969 : decode cL_law 969 = .ok (.iaload, 1) := by decide +kernel
theorem dL_law_970 : decode cL_law 970 = .ok (.aload_n 0, 1) := by decide +kernel
theorem dL_law_971 : decode cL_law 971 = .ok (.iload_n 3, 1) := by decide +kernel
theorem dL_law_972 : decode cL_law 972 = .ok (.iconst 3, 1) := by decide +kernel
theorem dL_law_973 : decode cL_law 973 = .ok (.iadd, 1) := by decide +kernel
theorem dL_law_974 : decode cL_law 974 = .ok (.iaload, 1) := by decide +kernel
theorem dL_law_975 : decode cL_law 975 = .ok (.invokevirtual 119, 3) := by decide +kernel
theorem dL_law_978 : decode cL_law 978 = .ok (.if_icmp .eq 436, 3) := by decide +kernel
theorem dL_law_981 : decode cL_law 981 = .ok (.iconst 0, 1) := by decide +kernel
theorem dL_law_982 : decode cL_law 982 = .ok (.ireturn, 1) := by decide +kernel
theorem dL_law_983 : decode cL_law 983 = .ok (.aload_n 1, 1) := by decide +kernel
theorem dL_law_984 : decode cL_law 984 = .ok (.aload_n 0, 1) := by decide +kernel
theorem dL_law_985 : decode cL_law 985 = .ok (.iload_n 3, 1) := by decide +kernel
theorem dL_law_986 : decode cL_law 986 = .ok (.iconst 1, 1) := by decide +kernel
theorem dL_law_987 : decode cL_law 987 = .ok (.iadd, 1) := by decide +kernel
theorem dL_law_988 : decode cL_law 988 = .ok (.iaload, 1) := by decide +kernel
theorem dL_law_989 : decode cL_law 989 = .ok (.aload_n 0, 1) := by decide +kernel
theorem dL_law_990 : decode cL_law 990 = .ok (.iload_n 3, 1) := by decide +kernel
theorem dL_law_991 : decode cL_law 991 = .ok (.iconst 2, 1) := by decide +kernel
theorem dL_law_992 : decode cL_law 992 = .ok (.iadd, 1) := by decide +kernel
theorem dL_law_993 : decode cL_law 993 = .ok (.iaload, 1) := by decide +kernel
theorem dL_law_994 : decode cL_law 994 = .ok (.invokevirtual 120, 3) := by decide +kernel
theorem dL_law_997 : decode cL_law 997 = .ok (.aload_n 2, 1) := by decide +kernel
theorem dL_law_998 : decode cL_law 998 = .ok (.aload_n 0, 1) := by decide +kernel
theorem dL_law_999 : decode cL_law 999 = .ok (.iload_n 3, 1) := by decide +kernel
theorem dL_law_1000 : decode cL_law 1000 = .ok (.iconst 1, 1) := by decide +kernel
theorem dL_law_1001 : decode cL_law 1001 = .ok (.iadd, 1) := by decide +kernel
theorem dL_law_1002 : decode cL_law 1002 = .ok (.iaload, 1) := by decide +kernel
theorem dL_law_1003 : decode cL_law 1003 = .ok (.aload_n 0, 1) := by decide +kernel
theorem dL_law_1004 : decode cL_law 1004 = .ok (.iload_n 3, 1) := by decide +kernel
theorem dL_law_1005 : decode cL_law 1005 = .ok (.iconst 2, 1) := by decide +kernel
theorem dL_law_1006 : decode cL_law 1006 = .ok (.iadd, 1) := by decide +kernel
theorem dL_law_1007 : decode cL_law 1007 = .ok (.iaload, 1) := by decide +kernel
theorem dL_law_1008 : decode cL_law 1008 = .ok (.invokevirtual 123, 3) := by decide +kernel
theorem dL_law_1011 : decode cL_law 1011 = .ok (.if_icmp .eq 403, 3) := by decide +kernel
theorem dL_law_1014 : decode cL_law 1014 = .ok (.iconst 0, 1) := by decide +kernel
theorem dL_law_1015 : decode cL_law 1015 = .ok (.ireturn, 1) := by decide +kernel
theorem dL_law_1016 : decode cL_law 1016 = .ok (.aload_n 1, 1) := by decide +kernel
theorem dL_law_1017 : decode cL_law 1017 = .ok (.aload_n 0, 1) := by decide +kernel
theorem dL_law_1018 : decode cL_law 1018 = .ok (.iload_n 3, 1) := by decide +kernel
theorem dL_law_1019 : decode cL_law 1019 = .ok (.iconst 1, 1) := by decide +kernel
theorem dL_law_1020 : decode cL_law 1020 = .ok (.iadd, 1) := by decide +kernel
theorem dL_law_1021 : decode cL_law 1021 = .ok (.iaload, 1) := by decide +kernel
theorem dL_law_1022 : decode cL_law 1022 = .ok (.aload_n 0, 1) := by decide +kernel
theorem dL_law_1023 : decode cL_law 1023 = .ok (.iload_n 3, 1) := by decide +kernel
theorem dL_law_1024 : decode cL_law 1024 = .ok (.iconst 2, 1) := by decide +kernel
theorem dL_law_1025 : decode cL_law 1025 = .ok (.iadd, 1) := by decide +kernel
theorem dL_law_1026 : decode cL_law 1026 = .ok (.iaload, 1) := by decide +kernel
theorem dL_law_1027 : decode cL_law 1027 = .ok (.invokevirtual 124, 3) := by decide +kernel
theorem dL_law_1030 : decode cL_law 1030 = .ok (.aload_n 2, 1) := by decide +kernel
theorem dL_law_1031 : decode cL_law 1031 = .ok (.aload_n 0, 1) := by decide +kernel
theorem dL_law_1032 : decode cL_law 1032 = .ok (.iload_n 3, 1) := by decide +kernel
theorem dL_law_1033 : decode cL_law 1033 = .ok (.iconst 1, 1) := by decide +kernel
theorem dL_law_1034 : decode cL_law 1034 = .ok (.iadd, 1) := by decide +kernel
theorem dL_law_1035 : decode cL_law 1035 = .ok (.iaload, 1) := by decide +kernel
theorem dL_law_1036 : decode cL_law 1036 = .ok (.aload_n 0, 1) := by decide +kernel
theorem dL_law_1037 : decode cL_law 1037 = .ok (.iload_n 3, 1) := by decide +kernel
theorem dL_law_1038 : decode cL_law 1038 = .ok (.iconst 2, 1) := by decide +kernel
theorem dL_law_1039 : decode cL_law 1039 = .ok (.iadd, 1) := by decide +kernel
theorem dL_law_1040 : decode cL_law 1040 = .ok (.iaload, 1) := by decide +kernel
theorem dL_law_1041 : decode cL_law 1041 = .ok (.invokevirtual 127, 3) := by decide +kernel
theorem dL_law_1044 : decode cL_law 1044 = .ok (.if_icmp .eq 370, 3) := by decide +kernel
theorem dL_law_1047 : decode cL_law 1047 = .ok (.iconst 0, 1) := by decide +kernel
theorem dL_law_1048 : decode cL_law 1048 = .ok (.ireturn, 1) := by decide +kernel
theorem dL_law_1049 : decode cL_law 1049 = .ok (.aload_n 1, 1) := by decide +kernel
theorem dL_law_1050 : decode cL_law 1050 = .ok (.aload_n 0, 1) := by decide +kernel
theorem dL_law_1051 : decode cL_law 1051 = .ok (.iload_n 3, 1) := by decide +kernel
theorem dL_law_1052 : decode cL_law 1052 = .ok (.iconst 1, 1) := by decide +kernel
theorem dL_law_1053 : decode cL_law 1053 = .ok (.iadd, 1) := by decide +kernel
theorem dL_law_1054 : decode cL_law 1054 = .ok (.iaload, 1) := by decide +kernel
theorem dL_law_1055 : decode cL_law 1055 = .ok (.aload_n 0, 1) := by decide +kernel
theorem dL_law_1056 : decode cL_law 1056 = .ok (.iload_n 3, 1) := by decide +kernel
theorem dL_law_1057 : decode cL_law 1057 = .ok (.iconst 2, 1) := by decide +kernel
theorem dL_law_1058 : decode cL_law 1058 = .ok (.iadd, 1) := by decide +kernel
theorem dL_law_1059 : decode cL_law 1059 = .ok (.iaload, 1) := by decide +kernel
theorem dL_law_1060 : decode cL_law 1060 = .ok (.invokevirtual 128, 3) := by decide +kernel
theorem dL_law_1063 : decode cL_law 1063 = .ok (.aload_n 2, 1) := by decide +kernel
theorem dL_law_1064 : decode cL_law 1064 = .ok (.aload_n 0, 1) := by decide +kernel
theorem dL_law_1065 : decode cL_law 1065 = .ok (.iload_n 3, 1) := by decide +kernel
theorem dL_law_1066 : decode cL_law 1066 = .ok (.iconst 1, 1) := by decide +kernel
theorem dL_law_1067 : decode cL_law 1067 = .ok (.iadd, 1) := by decide +kernel
theorem dL_law_1068 : decode cL_law 1068 = .ok (.iaload, 1) := by decide +kernel
theorem dL_law_1069 : decode cL_law 1069 = .ok (.aload_n 0, 1) := by decide +kernel
theorem dL_law_1070 : decode cL_law 1070 = .ok (.iload_n 3, 1) := by decide +kernel
theorem dL_law_1071 : decode cL_law 1071 = .ok (.iconst 2, 1) := by decide +kernel
theorem dL_law_1072 : decode cL_law 1072 = .ok (.iadd, 1) := by decide +kernel
theorem dL_law_1073 : decode cL_law 1073 = .ok (.iaload, 1) := by decide +kernel
theorem dL_law_1074 : decode cL_law 1074 = .ok (.invokevirtual 131, 3) := by decide +kernel
theorem dL_law_1077 : decode cL_law 1077 = .ok (.if_icmp .eq 337, 3) := by decide +kernel
theorem dL_law_1080 : decode cL_law 1080 = .ok (.iconst 0, 1) := by decide +kernel
theorem dL_law_1081 : decode cL_law 1081 = .ok (.ireturn, 1) := by decide +kernel
theorem dL_law_1082 : decode cL_law 1082 = .ok (.aload_n 1, 1) := by decide +kernel
theorem dL_law_1083 : decode cL_law 1083 = .ok (.aload_n 0, 1) := by decide +kernel
theorem dL_law_1084 : decode cL_law 1084 = .ok (.iload_n 3, 1) := by decide +kernel
theorem dL_law_1085 : decode cL_law 1085 = .ok (.iconst 1, 1) := by decide +kernel
theorem dL_law_1086 : decode cL_law 1086 = .ok (.iadd, 1) := by decide +kernel
theorem dL_law_1087 : decode cL_law 1087 = .ok (.iaload, 1) := by decide +kernel
theorem dL_law_1088 : decode cL_law 1088 = .ok (.aload_n 0, 1) := by decide +kernel
theorem dL_law_1089 : decode cL_law 1089 = .ok (.iload_n 3, 1) := by decide +kernel
theorem dL_law_1090 : decode cL_law 1090 = .ok (.iconst 2, 1) := by decide +kernel
theorem dL_law_1091 : decode cL_law 1091 = .ok (.iadd, 1) := by decide +kernel
theorem dL_law_1092 : decode cL_law 1092 = .ok (.iaload, 1) := by decide +kernel
theorem dL_law_1093 : decode cL_law 1093 = .ok (.aload_n 0, 1) := by decide +kernel
theorem dL_law_1094 : decode cL_law 1094 = .ok (.iload_n 3, 1) := by decide +kernel
theorem dL_law_1095 : decode cL_law 1095 = .ok (.iconst 3, 1) := by decide +kernel
theorem dL_law_1096 : decode cL_law 1096 = .ok (.iadd, 1) := by decide +kernel
theorem dL_law_1097 : decode cL_law 1097 = .ok (.iaload, 1) := by decide +kernel
theorem dL_law_1098 : decode cL_law 1098 = .ok (.ifCond .eq 7, 3) := by decide +kernel
theorem dL_law_1101 : decode cL_law 1101 = .ok (.iconst 1, 1) := by decide +kernel
theorem dL_law_1102 : decode cL_law 1102 = .ok (.goto 4, 3) := by decide +kernel
theorem dL_law_1105 : decode cL_law 1105 = .ok (.iconst 0, 1) := by decide +kernel
theorem dL_law_1106 : decode cL_law 1106 = .ok (.invokevirtual 132, 3) := by decide +kernel
theorem dL_law_1109 : decode cL_law 1109 = .ok (.aload_n 2, 1) := by decide +kernel
theorem dL_law_1110 : decode cL_law 1110 = .ok (.aload_n 0, 1) := by decide +kernel
theorem dL_law_1111 : decode cL_law 1111 = .ok (.iload_n 3, 1) := by decide +kernel
theorem dL_law_1112 : decode cL_law 1112 = .ok (.iconst 1, 1) := by decide +kernel
theorem dL_law_1113 : decode cL_law 1113 = .ok (.iadd, 1) := by decide +kernel
theorem dL_law_1114 : decode cL_law 1114 = .ok (.iaload, 1) := by decide +kernel
theorem dL_law_1115 : decode cL_law 1115 = .ok (.aload_n 0, 1) := by decide +kernel
theorem dL_law_1116 : decode cL_law 1116 = .ok (.iload_n 3, 1) := by decide +kernel
theorem dL_law_1117 : decode cL_law 1117 = .ok (.iconst 2, 1) := by decide +kernel
theorem dL_law_1118 : decode cL_law 1118 = .ok (.iadd, 1) := by decide +kernel
theorem dL_law_1119 : decode cL_law 1119 = .ok (.iaload, 1) := by decide +kernel
theorem dL_law_1120 : decode cL_law 1120 = .ok (.aload_n 0, 1) := by decide +kernel
theorem dL_law_1121 : decode cL_law 1121 = .ok (.iload_n 3, 1) := by decide +kernel
theorem dL_law_1122 : decode cL_law 1122 = .ok (.iconst 3, 1) := by decide +kernel
theorem dL_law_1123 : decode cL_law 1123 = .ok (.iadd, 1) := by decide +kernel
theorem dL_law_1124 : decode cL_law 1124 = .ok (.iaload, 1) := by decide +kernel
theorem dL_law_1125 : decode cL_law 1125 = .ok (.ifCond .eq 7, 3) := by decide +kernel
theorem dL_law_1128 : decode cL_law 1128 = .ok (.iconst 1, 1) := by decide +kernel
theorem dL_law_1129 : decode cL_law 1129 = .ok (.goto 4, 3) := by decide +kernel
theorem dL_law_1132 : decode cL_law 1132 = .ok (.iconst 0, 1) := by decide +kernel
theorem dL_law_1133 : decode cL_law 1133 = .ok (.invokevirtual 136, 3) := by decide +kernel
theorem dL_law_1136 : decode cL_law 1136 = .ok (.if_icmp .eq 278, 3) := by decide +kernel
theorem dL_law_1139 : decode cL_law 1139 = .ok (.iconst 0, 1) := by decide +kernel
theorem dL_law_1140 : decode cL_law 1140 = .ok (.ireturn, 1) := by decide +kernel
theorem dL_law_1141 : decode cL_law 1141 = .ok (.aload_n 1, 1) := by decide +kernel
theorem dL_law_1142 : decode cL_law 1142 = .ok (.aload_n 0, 1) := by decide +kernel
theorem dL_law_1143 : decode cL_law 1143 = .ok (.iload_n 3, 1) := by decide +kernel
theorem dL_law_1144 : decode cL_law 1144 = .ok (.iconst 1, 1) := by decide +kernel
theorem dL_law_1145 : decode cL_law 1145 = .ok (.iadd, 1) := by decide +kernel
theorem dL_law_1146 : decode cL_law 1146 = .ok (.iaload, 1) := by decide +kernel
theorem dL_law_1147 : decode cL_law 1147 = .ok (.aload_n 0, 1) := by decide +kernel
theorem dL_law_1148 : decode cL_law 1148 = .ok (.iload_n 3, 1) := by decide +kernel
theorem dL_law_1149 : decode cL_law 1149 = .ok (.iconst 2, 1) := by decide +kernel
theorem dL_law_1150 : decode cL_law 1150 = .ok (.iadd, 1) := by decide +kernel
theorem dL_law_1151 : decode cL_law 1151 = .ok (.iaload, 1) := by decide +kernel
theorem dL_law_1152 : decode cL_law 1152 = .ok (.invokevirtual 137, 3) := by decide +kernel
theorem dL_law_1155 : decode cL_law 1155 = .ok (.aload_n 2, 1) := by decide +kernel
theorem dL_law_1156 : decode cL_law 1156 = .ok (.aload_n 0, 1) := by decide +kernel
theorem dL_law_1157 : decode cL_law 1157 = .ok (.iload_n 3, 1) := by decide +kernel
theorem dL_law_1158 : decode cL_law 1158 = .ok (.iconst 1, 1) := by decide +kernel
theorem dL_law_1159 : decode cL_law 1159 = .ok (.iadd, 1) := by decide +kernel
theorem dL_law_1160 : decode cL_law 1160 = .ok (.iaload, 1) := by decide +kernel
theorem dL_law_1161 : decode cL_law 1161 = .ok (.aload_n 0, 1) := by decide +kernel
theorem dL_law_1162 : decode cL_law 1162 = .ok (.iload_n 3, 1) := by decide +kernel
theorem dL_law_1163 : decode cL_law 1163 = .ok (.iconst 2, 1) := by decide +kernel
theorem dL_law_1164 : decode cL_law 1164 = .ok (.iadd, 1) := by decide +kernel
theorem dL_law_1165 : decode cL_law 1165 = .ok (.iaload, 1) := by decide +kernel
theorem dL_law_1166 : decode cL_law 1166 = .ok (.invokevirtual 140, 3) := by decide +kernel
theorem dL_law_1169 : decode cL_law 1169 = .ok (.if_icmp .eq 245, 3) := by decide +kernel
theorem dL_law_1172 : decode cL_law 1172 = .ok (.iconst 0, 1) := by decide +kernel
theorem dL_law_1173 : decode cL_law 1173 = .ok (.ireturn, 1) := by decide +kernel
theorem dL_law_1174 : decode cL_law 1174 = .ok (.aload_n 1, 1) := by decide +kernel
theorem dL_law_1175 : decode cL_law 1175 = .ok (.aload_n 0, 1) := by decide +kernel
theorem dL_law_1176 : decode cL_law 1176 = .ok (.iload_n 3, 1) := by decide +kernel
theorem dL_law_1177 : decode cL_law 1177 = .ok (.iconst 1, 1) := by decide +kernel
theorem dL_law_1178 : decode cL_law 1178 = .ok (.iadd, 1) := by decide +kernel
theorem dL_law_1179 : decode cL_law 1179 = .ok (.iaload, 1) := by decide +kernel
theorem dL_law_1180 : decode cL_law 1180 = .ok (.aload_n 0, 1) := by decide +kernel
theorem dL_law_1181 : decode cL_law 1181 = .ok (.iload_n 3, 1) := by decide +kernel
theorem dL_law_1182 : decode cL_law 1182 = .ok (.iconst 2, 1) := by decide +kernel
theorem dL_law_1183 : decode cL_law 1183 = .ok (.iadd, 1) := by decide +kernel
theorem dL_law_1184 : decode cL_law 1184 = .ok (.iaload, 1) := by decide +kernel
theorem dL_law_1185 : decode cL_law 1185 = .ok (.invokevirtual 141, 3) := by decide +kernel
theorem dL_law_1188 : decode cL_law 1188 = .ok (.aload_n 2, 1) := by decide +kernel
theorem dL_law_1189 : decode cL_law 1189 = .ok (.aload_n 0, 1) := by decide +kernel
theorem dL_law_1190 : decode cL_law 1190 = .ok (.iload_n 3, 1) := by decide +kernel
theorem dL_law_1191 : decode cL_law 1191 = .ok (.iconst 1, 1) := by decide +kernel
theorem dL_law_1192 : decode cL_law 1192 = .ok (.iadd, 1) := by decide +kernel
theorem dL_law_1193 : decode cL_law 1193 = .ok (.iaload, 1) := by decide +kernel
theorem dL_law_1194 : decode cL_law 1194 = .ok (.aload_n 0, 1) := by decide +kernel
theorem dL_law_1195 : decode cL_law 1195 = .ok (.iload_n 3, 1) := by decide +kernel
theorem dL_law_1196 : decode cL_law 1196 = .ok (.iconst 2, 1) := by decide +kernel
theorem dL_law_1197 : decode cL_law 1197 = .ok (.iadd, 1) := by decide +kernel
theorem dL_law_1198 : decode cL_law 1198 = .ok (.iaload, 1) := by decide +kernel
theorem dL_law_1199 : decode cL_law 1199 = .ok (.invokevirtual 144, 3) := by decide +kernel
theorem dL_law_1202 : decode cL_law 1202 = .ok (.if_icmp .eq 212, 3) := by decide +kernel
theorem dL_law_1205 : decode cL_law 1205 = .ok (.iconst 0, 1) := by decide +kernel
theorem dL_law_1206 : decode cL_law 1206 = .ok (.ireturn, 1) := by decide +kernel
theorem dL_law_1207 : decode cL_law 1207 = .ok (.aload_n 1, 1) := by decide +kernel
theorem dL_law_1208 : decode cL_law 1208 = .ok (.aload_n 0, 1) := by decide +kernel
theorem dL_law_1209 : decode cL_law 1209 = .ok (.iload_n 3, 1) := by decide +kernel
theorem dL_law_1210 : decode cL_law 1210 = .ok (.iconst 1, 1) := by decide +kernel
theorem dL_law_1211 : decode cL_law 1211 = .ok (.iadd, 1) := by decide +kernel
theorem dL_law_1212 : decode cL_law 1212 = .ok (.iaload, 1) := by decide +kernel
theorem dL_law_1213 : decode cL_law 1213 = .ok (.invokevirtual 145, 3) := by decide +kernel
theorem dL_law_1216 : decode cL_law 1216 = .ok (.aload_n 2, 1) := by decide +kernel
theorem dL_law_1217 : decode cL_law 1217 = .ok (.aload_n 0, 1) := by decide +kernel
theorem dL_law_1218 : decode cL_law 1218 = .ok (.iload_n 3, 1) := by decide +kernel
theorem dL_law_1219 : decode cL_law 1219 = .ok (.iconst 1, 1) := by decide +kernel
theorem dL_law_1220 : decode cL_law 1220 = .ok (.iadd, 1) := by decide +kernel
theorem dL_law_1221 : decode cL_law 1221 = .ok (.iaload, 1) := by decide +kernel
theorem dL_law_1222 : decode cL_law 1222 = .ok (.invokevirtual 148, 3) := by decide +kernel
theorem dL_law_1225 : decode cL_law 1225 = .ok (.if_icmp .eq 189, 3) := by decide +kernel
theorem dL_law_1228 : decode cL_law 1228 = .ok (.iconst 0, 1) := by decide +kernel
theorem dL_law_1229 : decode cL_law 1229 = .ok (.ireturn, 1) := by decide +kernel
theorem dL_law_1230 : decode cL_law 1230 = .ok (.aload_n 1, 1) := by decide +kernel
theorem dL_law_1231 : decode cL_law 1231 = .ok (.aload_n 0, 1) := by decide +kernel
theorem dL_law_1232 : decode cL_law 1232 = .ok (.iload_n 3, 1) := by decide +kernel
theorem dL_law_1233 : decode cL_law 1233 = .ok (.iconst 1, 1) := by decide +kernel
theorem dL_law_1234 : decode cL_law 1234 = .ok (.iadd, 1) := by decide +kernel
theorem dL_law_1235 : decode cL_law 1235 = .ok (.iaload, 1) := by decide +kernel
theorem dL_law_1236 : decode cL_law 1236 = .ok (.invokevirtual 149, 3) := by decide +kernel
theorem dL_law_1239 : decode cL_law 1239 = .ok (.aload_n 2, 1) := by decide +kernel
theorem dL_law_1240 : decode cL_law 1240 = .ok (.aload_n 0, 1) := by decide +kernel
theorem dL_law_1241 : decode cL_law 1241 = .ok (.iload_n 3, 1) := by decide +kernel
theorem dL_law_1242 : decode cL_law 1242 = .ok (.iconst 1, 1) := by decide +kernel
theorem dL_law_1243 : decode cL_law 1243 = .ok (.iadd, 1) := by decide +kernel
theorem dL_law_1244 : decode cL_law 1244 = .ok (.iaload, 1) := by decide +kernel
theorem dL_law_1245 : decode cL_law 1245 = .ok (.invokevirtual 152, 3) := by decide +kernel
theorem dL_law_1248 : decode cL_law 1248 = .ok (.if_icmp .eq 166, 3) := by decide +kernel
theorem dL_law_1251 : decode cL_law 1251 = .ok (.iconst 0, 1) := by decide +kernel
theorem dL_law_1252 : decode cL_law 1252 = .ok (.ireturn, 1) := by decide +kernel
theorem dL_law_1253 : decode cL_law 1253 = .ok (.aload_n 1, 1) := by decide +kernel
theorem dL_law_1254 : decode cL_law 1254 = .ok (.invokevirtual 153, 3) := by decide +kernel
theorem dL_law_1257 : decode cL_law 1257 = .ok (.aload_n 2, 1) := by decide +kernel
theorem dL_law_1258 : decode cL_law 1258 = .ok (.invokevirtual 156, 3) := by decide +kernel
theorem dL_law_1261 : decode cL_law 1261 = .ok (.if_icmp .eq 153, 3) := by decide +kernel
theorem dL_law_1264 : decode cL_law 1264 = .ok (.iconst 0, 1) := by decide +kernel
theorem dL_law_1265 : decode cL_law 1265 = .ok (.ireturn, 1) := by decide +kernel
theorem dL_law_1266 : decode cL_law 1266 = .ok (.aload_n 1, 1) := by decide +kernel
theorem dL_law_1267 : decode cL_law 1267 = .ok (.aload_n 0, 1) := by decide +kernel
theorem dL_law_1268 : decode cL_law 1268 = .ok (.iload_n 3, 1) := by decide +kernel
theorem dL_law_1269 : decode cL_law 1269 = .ok (.iconst 1, 1) := by decide +kernel
theorem dL_law_1270 : decode cL_law 1270 = .ok (.iadd, 1) := by decide +kernel
theorem dL_law_1271 : decode cL_law 1271 = .ok (.iaload, 1) := by decide +kernel
theorem dL_law_1272 : decode cL_law 1272 = .ok (.invokevirtual 157, 3) := by decide +kernel
theorem dL_law_1275 : decode cL_law 1275 = .ok (.aload_n 2, 1) := by decide +kernel
theorem dL_law_1276 : decode cL_law 1276 = .ok (.aload_n 0, 1) := by decide +kernel
theorem dL_law_1277 : decode cL_law 1277 = .ok (.iload_n 3, 1) := by decide +kernel
theorem dL_law_1278 : decode cL_law 1278 = .ok (.iconst 1, 1) := by decide +kernel
theorem dL_law_1279 : decode cL_law 1279 = .ok (.iadd, 1) := by decide +kernel
theorem dL_law_1280 : decode cL_law 1280 = .ok (.iaload, 1) := by decide +kernel
theorem dL_law_1281 : decode cL_law 1281 = .ok (.invokevirtual 160, 3) := by decide +kernel
theorem dL_law_1284 : decode cL_law 1284 = .ok (.if_icmp .eq 130, 3) := by decide +kernel
theorem dL_law_1287 : decode cL_law 1287 = .ok (.iconst 0, 1) := by decide +kernel
theorem dL_law_1288 : decode cL_law 1288 = .ok (.ireturn, 1) := by decide +kernel
theorem dL_law_1289 : decode cL_law 1289 = .ok (.aload_n 1, 1) := by decide +kernel
theorem dL_law_1290 : decode cL_law 1290 = .ok (.aload_n 0, 1) := by decide +kernel
theorem dL_law_1291 : decode cL_law 1291 = .ok (.iload_n 3, 1) := by decide +kernel
theorem dL_law_1292 : decode cL_law 1292 = .ok (.iconst 1, 1) := by decide +kernel
theorem dL_law_1293 : decode cL_law 1293 = .ok (.iadd, 1) := by decide +kernel
theorem dL_law_1294 : decode cL_law 1294 = .ok (.iaload, 1) := by decide +kernel
theorem dL_law_1295 : decode cL_law 1295 = .ok (.aload_n 0, 1) := by decide +kernel
theorem dL_law_1296 : decode cL_law 1296 = .ok (.iload_n 3, 1) := by decide +kernel
theorem dL_law_1297 : decode cL_law 1297 = .ok (.iconst 2, 1) := by decide +kernel
theorem dL_law_1298 : decode cL_law 1298 = .ok (.iadd, 1) := by decide +kernel
theorem dL_law_1299 : decode cL_law 1299 = .ok (.iaload, 1) := by decide +kernel
theorem dL_law_1300 : decode cL_law 1300 = .ok (.invokevirtual 161, 3) := by decide +kernel
theorem dL_law_1303 : decode cL_law 1303 = .ok (.aload_n 2, 1) := by decide +kernel
theorem dL_law_1304 : decode cL_law 1304 = .ok (.aload_n 0, 1) := by decide +kernel
theorem dL_law_1305 : decode cL_law 1305 = .ok (.iload_n 3, 1) := by decide +kernel
theorem dL_law_1306 : decode cL_law 1306 = .ok (.iconst 1, 1) := by decide +kernel
theorem dL_law_1307 : decode cL_law 1307 = .ok (.iadd, 1) := by decide +kernel
theorem dL_law_1308 : decode cL_law 1308 = .ok (.iaload, 1) := by decide +kernel
theorem dL_law_1309 : decode cL_law 1309 = .ok (.aload_n 0, 1) := by decide +kernel
theorem dL_law_1310 : decode cL_law 1310 = .ok (.iload_n 3, 1) := by decide +kernel
theorem dL_law_1311 : decode cL_law 1311 = .ok (.iconst 2, 1) := by decide +kernel
theorem dL_law_1312 : decode cL_law 1312 = .ok (.iadd, 1) := by decide +kernel
theorem dL_law_1313 : decode cL_law 1313 = .ok (.iaload, 1) := by decide +kernel
theorem dL_law_1314 : decode cL_law 1314 = .ok (.invokevirtual 164, 3) := by decide +kernel
theorem dL_law_1317 : decode cL_law 1317 = .ok (.if_icmp .eq 97, 3) := by decide +kernel
theorem dL_law_1320 : decode cL_law 1320 = .ok (.iconst 0, 1) := by decide +kernel
theorem dL_law_1321 : decode cL_law 1321 = .ok (.ireturn, 1) := by decide +kernel
theorem dL_law_1322 : decode cL_law 1322 = .ok (.aload_n 1, 1) := by decide +kernel
theorem dL_law_1323 : decode cL_law 1323 = .ok (.aload_n 0, 1) := by decide +kernel
theorem dL_law_1324 : decode cL_law 1324 = .ok (.iload_n 3, 1) := by decide +kernel
theorem dL_law_1325 : decode cL_law 1325 = .ok (.iconst 1, 1) := by decide +kernel
theorem dL_law_1326 : decode cL_law 1326 = .ok (.iadd, 1) := by decide +kernel
theorem dL_law_1327 : decode cL_law 1327 = .ok (.iaload, 1) := by decide +kernel
theorem dL_law_1328 : decode cL_law 1328 = .ok (.invokevirtual 165, 3) := by decide +kernel
theorem dL_law_1331 : decode cL_law 1331 = .ok (.aload_n 2, 1) := by decide +kernel
theorem dL_law_1332 : decode cL_law 1332 = .ok (.aload_n 0, 1) := by decide +kernel
theorem dL_law_1333 : decode cL_law 1333 = .ok (.iload_n 3, 1) := by decide +kernel
theorem dL_law_1334 : decode cL_law 1334 = .ok (.iconst 1, 1) := by decide +kernel
theorem dL_law_1335 : decode cL_law 1335 = .ok (.iadd, 1) := by decide +kernel
theorem dL_law_1336 : decode cL_law 1336 = .ok (.iaload, 1) := by decide +kernel
theorem dL_law_1337 : decode cL_law 1337 = .ok (.invokevirtual 168, 3) := by decide +kernel
theorem dL_law_1340 : decode cL_law 1340 = .ok (.if_icmp .eq 74, 3) := by decide +kernel
theorem dL_law_1343 : decode cL_law 1343 = .ok (.iconst 0, 1) := by decide +kernel
theorem dL_law_1344 : decode cL_law 1344 = .ok (.ireturn, 1) := by decide +kernel
theorem dL_law_1345 : decode cL_law 1345 = .ok (.aload_n 1, 1) := by decide +kernel
theorem dL_law_1346 : decode cL_law 1346 = .ok (.aload_n 0, 1) := by decide +kernel
theorem dL_law_1347 : decode cL_law 1347 = .ok (.iload_n 3, 1) := by decide +kernel
theorem dL_law_1348 : decode cL_law 1348 = .ok (.iconst 1, 1) := by decide +kernel
theorem dL_law_1349 : decode cL_law 1349 = .ok (.iadd, 1) := by decide +kernel
theorem dL_law_1350 : decode cL_law 1350 = .ok (.iaload, 1) := by decide +kernel
theorem dL_law_1351 : decode cL_law 1351 = .ok (.invokevirtual 169, 3) := by decide +kernel
theorem dL_law_1354 : decode cL_law 1354 = .ok (.aload_n 2, 1) := by decide +kernel
theorem dL_law_1355 : decode cL_law 1355 = .ok (.aload_n 0, 1) := by decide +kernel
theorem dL_law_1356 : decode cL_law 1356 = .ok (.iload_n 3, 1) := by decide +kernel
theorem dL_law_1357 : decode cL_law 1357 = .ok (.iconst 1, 1) := by decide +kernel
theorem dL_law_1358 : decode cL_law 1358 = .ok (.iadd, 1) := by decide +kernel
theorem dL_law_1359 : decode cL_law 1359 = .ok (.iaload, 1) := by decide +kernel
theorem dL_law_1360 : decode cL_law 1360 = .ok (.invokevirtual 172, 3) := by decide +kernel
theorem dL_law_1363 : decode cL_law 1363 = .ok (.if_icmp .eq 51, 3) := by decide +kernel
theorem dL_law_1366 : decode cL_law 1366 = .ok (.iconst 0, 1) := by decide +kernel
theorem dL_law_1367 : decode cL_law 1367 = .ok (.ireturn, 1) := by decide +kernel
theorem dL_law_1368 : decode cL_law 1368 = .ok (.aload_n 1, 1) := by decide +kernel
theorem dL_law_1369 : decode cL_law 1369 = .ok (.aload_n 0, 1) := by decide +kernel
theorem dL_law_1370 : decode cL_law 1370 = .ok (.iload_n 3, 1) := by decide +kernel
theorem dL_law_1371 : decode cL_law 1371 = .ok (.iconst 1, 1) := by decide +kernel
theorem dL_law_1372 : decode cL_law 1372 = .ok (.iadd, 1) := by decide +kernel
theorem dL_law_1373 : decode cL_law 1373 = .ok (.iaload, 1) := by decide +kernel
theorem dL_law_1374 : decode cL_law 1374 = .ok (.invokevirtual 173, 3) := by decide +kernel
theorem dL_law_1377 : decode cL_law 1377 = .ok (.aload_n 2, 1) := by decide +kernel
theorem dL_law_1378 : decode cL_law 1378 = .ok (.aload_n 0, 1) := by decide +kernel
theorem dL_law_1379 : decode cL_law 1379 = .ok (.iload_n 3, 1) := by decide +kernel
theorem dL_law_1380 : decode cL_law 1380 = .ok (.iconst 1, 1) := by decide +kernel
theorem dL_law_1381 : decode cL_law 1381 = .ok (.iadd, 1) := by decide +kernel
theorem dL_law_1382 : decode cL_law 1382 = .ok (.iaload, 1) := by decide +kernel
theorem dL_law_1383 : decode cL_law 1383 = .ok (.invokevirtual 176, 3) := by decide +kernel
theorem dL_law_1386 : decode cL_law 1386 = .ok (.if_icmp .eq 28, 3) := by decide +kernel
theorem dL_law_1389 : decode cL_law 1389 = .ok (.iconst 0, 1) := by decide +kernel
theorem dL_law_1390 : decode cL_law 1390 = .ok (.ireturn, 1) := by decide +kernel
theorem dL_law_1391 : decode cL_law 1391 = .ok (.aload_n 1, 1) := by decide +kernel
theorem dL_law_1392 : decode cL_law 1392 = .ok (.aload_n 0, 1) := by decide +kernel
theorem dL_law_1393 : decode cL_law 1393 = .ok (.iload_n 3, 1) := by decide +kernel
theorem dL_law_1394 : decode cL_law 1394 = .ok (.iconst 1, 1) := by decide +kernel
theorem dL_law_1395 : decode cL_law 1395 = .ok (.iadd, 1) := by decide +kernel
theorem dL_law_1396 : decode cL_law 1396 = .ok (.iaload, 1) := by decide +kernel
theorem dL_law_1397 : decode cL_law 1397 = .ok (.invokevirtual 177, 3) := by decide +kernel
theorem dL_law_1400 : decode cL_law 1400 = .ok (.aload_n 2, 1) := by decide +kernel
theorem dL_law_1401 : decode cL_law 1401 = .ok (.aload_n 0, 1) := by decide +kernel
theorem dL_law_1402 : decode cL_law 1402 = .ok (.iload_n 3, 1) := by decide +kernel
theorem dL_law_1403 : decode cL_law 1403 = .ok (.iconst 1, 1) := by decide +kernel
theorem dL_law_1404 : decode cL_law 1404 = .ok (.iadd, 1) := by decide +kernel
theorem dL_law_1405 : decode cL_law 1405 = .ok (.iaload, 1) := by decide +kernel
theorem dL_law_1406 : decode cL_law 1406 = .ok (.invokevirtual 180, 3) := by decide +kernel
theorem dL_law_1409 : decode cL_law 1409 = .ok (.if_icmp .eq 5, 3) := by decide +kernel
theorem dL_law_1412 : decode cL_law 1412 = .ok (.iconst 0, 1) := by decide +kernel
theorem dL_law_1413 : decode cL_law 1413 = .ok (.ireturn, 1) := by decide +kernel
theorem dL_law_1414 : decode cL_law 1414 = .ok (.iinc 3 6, 3) := by decide +kernel
theorem dL_law_1417 : decode cL_law 1417 = .ok (.goto (-1399), 3) := by decide +kernel
theorem dL_law_1420 : decode cL_law 1420 = .ok (.iconst 1, 1) := by decide +kernel
theorem dL_law_1421 : decode cL_law 1421 = .ok (.ireturn, 1) := by decide +kernel
