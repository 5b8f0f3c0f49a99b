theorem dX0_init_0 : decode cX0_init 0 = .ok (.aload_n 0, 1) := by decide +kernel
theorem dX0_init_1 : decode cX0_init 1 = .ok (.bipush 7, 2) := by decide +kernel
theorem dX0_init_3 : decode cX0_init 3 = .ok (.invokespecial 3, 3) := by decide +kernel
theorem dX0_init_6 : decode cX0_init 6 = .ok (.aload_n 0, 1) := by decide +kernel
theorem dX0_init_7 : decode cX0_init 7 = .ok (.aload_n 1, 1) := by decide +kernel
theorem dX0_init_8 : decode cX0_init 8 = .ok (.putfield 9, 3) := by decide +kernel
theorem dX0_init_11 : decode cX0_init 11 = .ok (.return_, 1) := by decide +kernel
theorem dX0_size_0 : decode cX0_size 0 = .ok (.aload_n 0, 1) := by decide +kernel
theorem dX0_size_1 : decode cX0_size 1 = .ok (.getfield 9, 3) := by decide +kernel
theorem dX0_size_4 : decode cX0_size 4 = .ok (.getfield 15, 3) := by decide +kernel
theorem dX0_size_7 : decode cX0_size 7 = .ok (.ireturn, 1) := by decide +kernel
theorem dX1_init_0 : decode cX1_init 0 = .ok (.aload_n 0, 1) := by decide +kernel
theorem dX1_init_1 : decode cX1_init 1 = .ok (.invokespecial 3, 3) := by decide +kernel
theorem dX1_init_4 : decode cX1_init 4 = .ok (.aload_n 0, 1) := by decide +kernel
theorem dX1_init_5 : decode cX1_init 5 = .ok (.bipush 100, 2) := by decide +kernel
theorem dX1_init_7 : decode cX1_init 7 = .ok (.newarray .int, 2) := by decide +kernel
theorem dX1_init_9 : decode cX1_init 9 = .ok (.putfield 9, 3) := by decide +kernel
theorem dX1_init_12 : decode cX1_init 12 = .ok (.aload_n 0, 1) := by decide +kernel
theorem dX1_init_13 : decode cX1_init 13 = .ok (.sipush 2401, 3) := by decide +kernel
theorem dX1_init_16 : decode cX1_init 16 = .ok (.newarray .int, 2) := by decide +kernel
theorem dX1_init_18 : decode cX1_init 18 = .ok (.putfield 15, 3) := by decide +kernel
theorem dX1_init_21 : decode cX1_init 21 = .ok (.aload_n 0, 1) := by decide +kernel
theorem dX1_init_22 : decode cX1_init 22 = .ok (.sipush 2401, 3) := by decide +kernel
theorem dX1_init_25 : decode cX1_init 25 = .ok (.newarray .int, 2) := by decide +kernel
theorem dX1_init_27 : decode cX1_init 27 = .ok (.putfield 18, 3) := by decide +kernel
theorem dX1_init_30 : decode cX1_init 30 = .ok (.aload_n 0, 1) := by decide +kernel
theorem dX1_init_31 : decode cX1_init 31 = .ok (.sipush 2401, 3) := by decide +kernel
theorem dX1_init_34 : decode cX1_init 34 = .ok (.newarray .int, 2) := by decide +kernel
theorem dX1_init_36 : decode cX1_init 36 = .ok (.putfield 21, 3) := by decide +kernel
theorem dX1_init_39 : decode cX1_init 39 = .ok (.aload_n 0, 1) := by decide +kernel
theorem dX1_init_40 : decode cX1_init 40 = .ok (.sipush 2401, 3) := by decide +kernel
theorem dX1_init_43 : decode cX1_init 43 = .ok (.newarray .int, 2) := by decide +kernel
theorem dX1_init_45 : decode cX1_init 45 = .ok (.putfield 24, 3) := by decide +kernel
theorem dX1_init_48 : decode cX1_init 48 = .ok (.aload_n 0, 1) := by decide +kernel
theorem dX1_init_49 : decode cX1_init 49 = .ok (.iconst 0, 1) := by decide +kernel
theorem dX1_init_50 : decode cX1_init 50 = .ok (.putfield 27, 3) := by decide +kernel
theorem dX1_init_53 : decode cX1_init 53 = .ok (.return_, 1) := by decide +kernel
theorem dX1_bind_0 : decode cX1_bind 0 = .ok (.iload_n 2, 1) := by decide +kernel
theorem dX1_bind_1 : decode cX1_bind 1 = .ok (.invokestatic 31, 3) := by decide +kernel
theorem dX1_bind_4 : decode cX1_bind 4 = .ok (.ifCond .eq 20, 3) := by decide +kernel
theorem dX1_bind_7 : decode cX1_bind 7 = .ok (.aload_n 1, 1) := by decide +kernel
theorem dX1_bind_8 : decode cX1_bind 8 = .ok (.getfield 35, 3) := by decide +kernel
theorem dX1_bind_11 : decode cX1_bind 11 = .ok (.iconst 1, 1) := by decide +kernel
theorem dX1_bind_12 : decode cX1_bind 12 = .ok (.if_icmp .lt 12, 3) := by decide +kernel
theorem dX1_bind_15 : decode cX1_bind 15 = .ok (.aload_n 1, 1) := by decide +kernel
theorem dX1_bind_16 : decode cX1_bind 16 = .ok (.getfield 35, 3) := by decide +kernel
theorem dX1_bind_19 : decode cX1_bind 19 = .ok (.bipush 100, 2) := by decide +kernel
theorem dX1_bind_21 : decode cX1_bind 21 = .ok (.if_icmp .le 5, 3) := by decide +kernel
theorem dX1_bind_24 : decode cX1_bind 24 = .ok (.aconst_null, 1) := by decide +kernel
theorem dX1_bind_25 : decode cX1_bind 25 = .ok (.areturn, 1) := by decide +kernel
theorem dX1_bind_26 : decode cX1_bind 26 = .ok (.iload_n 2, 1) := by decide +kernel
theorem dX1_bind_27 : decode cX1_bind 27 = .ok (.iconst 5, 1) := by decide +kernel
theorem dX1_bind_28 : decode cX1_bind 28 = .ok (.if_icmp .ne 14, 3) := by decide +kernel
theorem dX1_bind_31 : decode cX1_bind 31 = .ok (.aload_n 1, 1) := by decide +kernel
theorem dX1_bind_32 : decode cX1_bind 32 = .ok (.bipush 8, 2) := by decide +kernel
theorem dX1_bind_34 : decode cX1_bind 34 = .ok (.invokevirtual 40, 3) := by decide +kernel
theorem dX1_bind_37 : decode cX1_bind 37 = .ok (.ifCond .ne 5, 3) := by decide +kernel
theorem dX1_bind_40 : decode cX1_bind 40 = .ok (.aconst_null, 1) := by decide +kernel
theorem dX1_bind_41 : decode cX1_bind 41 = .ok (.areturn, 1) := by decide +kernel
theorem dX1_bind_42 : decode cX1_bind 42 = .ok (.aload_n 1, 1) := by decide +kernel
theorem dX1_bind_43 : decode cX1_bind 43 = .ok (.aload_n 1, 1) := by decide +kernel
theorem dX1_bind_44 : decode cX1_bind 44 = .ok (.getfield 35, 3) := by decide +kernel
theorem dX1_bind_47 : decode cX1_bind 47 = .ok (.invokevirtual 43, 3) := by decide +kernel
theorem dX1_bind_50 : decode cX1_bind 50 = .ok (.astore_n 3, 1) := by decide +kernel
theorem dX1_bind_51 : decode cX1_bind 51 = .ok (.iconst 0, 1) := by decide +kernel
theorem dX1_bind_52 : decode cX1_bind 52 = .ok (.newarray .int, 2) := by decide +kernel
theorem dX1_bind_54 : decode cX1_bind 54 = .ok (.astore 4, 2) := by decide +kernel
theorem dX1_bind_56 : decode cX1_bind 56 = .ok (.iload_n 2, 1) := by decide +kernel
theorem dX1_bind_57 : decode cX1_bind 57 = .ok (.iconst 1, 1) := by decide +kernel
theorem dX1_bind_58 : decode cX1_bind 58 = .ok (.if_icmp .ne 21, 3) := by decide +kernel
theorem dX1_bind_61 : decode cX1_bind 61 = .ok (.new 47, 3) := by decide +kernel
theorem dX1_bind_64 : decode cX1_bind 64 = .ok (.dup, 1) := by decide +kernel
theorem dX1_bind_65 : decode cX1_bind 65 = .ok (.iload_n 2, 1) := by decide +kernel
theorem dX1_bind_66 : decode cX1_bind 66 = .ok (.aload_n 3, 1) := by decide +kernel
theorem dX1_bind_67 : decode cX1_bind 67 = .ok (.aconst_null, 1) := by decide +kernel
theorem dX1_bind_68 : decode cX1_bind 68 = .ok (.iconst 0, 1) := by decide +kernel
theorem dX1_bind_69 : decode cX1_bind 69 = .ok (.aload_n 3, 1) := by decide +kernel
theorem dX1_bind_70 : decode cX1_bind 70 = .ok (.invokevirtual 49, 3) := by decide +kernel
theorem dX1_bind_73 : decode cX1_bind 73 = .ok (.aload 4, 2) := by decide +kernel
theorem dX1_bind_75 : decode cX1_bind 75 = .ok (.invokespecial 53, 3) := by decide +kernel
theorem dX1_bind_78 : decode cX1_bind 78 = .ok (.areturn, 1) := by decide +kernel
theorem dX1_bind_79 : decode cX1_bind 79 = .ok (.iload_n 2, 1) := by decide +kernel
theorem dX1_bind_80 : decode cX1_bind 80 = .ok (.iconst 5, 1) := by decide +kernel
theorem dX1_bind_81 : decode cX1_bind 81 = .ok (.if_icmp .ne 22, 3) := by decide +kernel
theorem dX1_bind_84 : decode cX1_bind 84 = .ok (.new 47, 3) := by decide +kernel
theorem dX1_bind_87 : decode cX1_bind 87 = .ok (.dup, 1) := by decide +kernel
theorem dX1_bind_88 : decode cX1_bind 88 = .ok (.iload_n 2, 1) := by decide +kernel
theorem dX1_bind_89 : decode cX1_bind 89 = .ok (.aload_n 3, 1) := by decide +kernel
theorem dX1_bind_90 : decode cX1_bind 90 = .ok (.aload_n 0, 1) := by decide +kernel
theorem dX1_bind_91 : decode cX1_bind 91 = .ok (.aload_n 3, 1) := by decide +kernel
theorem dX1_bind_92 : decode cX1_bind 92 = .ok (.invokevirtual 56, 3) := by decide +kernel
theorem dX1_bind_95 : decode cX1_bind 95 = .ok (.iconst 0, 1) := by decide +kernel
theorem dX1_bind_96 : decode cX1_bind 96 = .ok (.iconst 0, 1) := by decide +kernel
theorem dX1_bind_97 : decode cX1_bind 97 = .ok (.aload 4, 2) := by decide +kernel
theorem dX1_bind_99 : decode cX1_bind 99 = .ok (.invokespecial 53, 3) := by decide +kernel
theorem dX1_bind_102 : decode cX1_bind 102 = .ok (.areturn, 1) := by decide +kernel
theorem dX1_bind_103 : decode cX1_bind 103 = .ok (.aload_n 0, 1) := by decide +kernel
theorem dX1_bind_104 : decode cX1_bind 104 = .ok (.aload_n 3, 1) := by decide +kernel
theorem dX1_bind_105 : decode cX1_bind 105 = .ok (.iload_n 2, 1) := by decide +kernel
theorem dX1_bind_106 : decode cX1_bind 106 = .ok (.iconst 2, 1) := by decide +kernel
theorem dX1_bind_107 : decode cX1_bind 107 = .ok (.if_icmp .ne 7, 3) := by decide +kernel
theorem dX1_bind_110 : decode cX1_bind 110 = .ok (.iconst 1, 1) := by decide +kernel
theorem dX1_bind_111 : decode cX1_bind 111 = .ok (.goto 4, 3) := by decide +kernel
theorem dX1_bind_114 : decode cX1_bind 114 = .ok (.iconst 0, 1) := by decide +kernel
theorem dX1_bind_115 : decode cX1_bind 115 = .ok (.invokevirtual 60, 3) := by decide +kernel
theorem dX1_bind_118 : decode cX1_bind 118 = .ok (.iload_n 2, 1) := by decide +kernel
theorem dX1_bind_119 : decode cX1_bind 119 = .ok (.iconst 2, 1) := by decide +kernel
theorem dX1_bind_120 : decode cX1_bind 120 = .ok (.if_icmp .ne 11, 3) := by decide +kernel
theorem dX1_bind_123 : decode cX1_bind 123 = .ok (.aload_n 0, 1) := by decide +kernel
theorem dX1_bind_124 : decode cX1_bind 124 = .ok (.aload_n 3, 1) := by decide +kernel
theorem dX1_bind_125 : decode cX1_bind 125 = .ok (.invokevirtual 64, 3) := by decide +kernel
theorem dX1_bind_128 : decode cX1_bind 128 = .ok (.goto 5, 3) := by decide +kernel
theorem dX1_bind_131 : decode cX1_bind 131 = .ok (.aload 4, 2) := by decide +kernel
theorem dX1_bind_133 : decode cX1_bind 133 = .ok (.astore 5, 2) := by decide +kernel
theorem dX1_bind_135 : decode cX1_bind 135 = .ok (.new 47, 3) := by decide +kernel
theorem dX1_bind_138 : decode cX1_bind 138 = .ok (.dup, 1) := by decide +kernel
theorem dX1_bind_139 : decode cX1_bind 139 = .ok (.iload_n 2, 1) := by decide +kernel
theorem dX1_bind_140 : decode cX1_bind 140 = .ok (.aload_n 3, 1) := by decide +kernel
theorem dX1_bind_141 : decode cX1_bind 141 = .ok (.aload_n 0, 1) := by decide +kernel
theorem dX1_bind_142 : decode cX1_bind 142 = .ok (.invokevirtual 68, 3) := by decide +kernel
theorem dX1_bind_145 : decode cX1_bind 145 = .ok (.aload_n 0, 1) := by decide +kernel
theorem dX1_bind_146 : decode cX1_bind 146 = .ok (.getfield 27, 3) := by decide +kernel
theorem dX1_bind_149 : decode cX1_bind 149 = .ok (.iconst 1, 1) := by decide +kernel
theorem dX1_bind_150 : decode cX1_bind 150 = .ok (.isub, 1) := by decide +kernel
theorem dX1_bind_151 : decode cX1_bind 151 = .ok (.aload_n 0, 1) := by decide +kernel
theorem dX1_bind_152 : decode cX1_bind 152 = .ok (.aload_n 3, 1) := by decide +kernel
theorem dX1_bind_153 : decode cX1_bind 153 = .ok (.iload_n 2, 1) := by decide +kernel
theorem dX1_bind_154 : decode cX1_bind 154 = .ok (.iconst 4, 1) := by decide +kernel
theorem dX1_bind_155 : decode cX1_bind 155 = .ok (.if_icmp .ne 7, 3) := by decide +kernel
theorem dX1_bind_158 : decode cX1_bind 158 = .ok (.iconst 1, 1) := by decide +kernel
theorem dX1_bind_159 : decode cX1_bind 159 = .ok (.goto 4, 3) := by decide +kernel
theorem dX1_bind_162 : decode cX1_bind 162 = .ok (.iconst 0, 1) := by decide +kernel
theorem dX1_bind_163 : decode cX1_bind 163 = .ok (.invokevirtual 72, 3) := by decide +kernel
theorem dX1_bind_166 : decode cX1_bind 166 = .ok (.aload 5, 2) := by decide +kernel
theorem dX1_bind_168 : decode cX1_bind 168 = .ok (.invokespecial 53, 3) := by decide +kernel
theorem dX1_bind_171 : decode cX1_bind 171 = .ok (.areturn, 1) := by decide +kernel
theorem dX1_splitRow_0 : decode cX1_splitRow 0 = .ok (.aload_n 1, 1) := by decide +kernel
theorem dX1_splitRow_1 : decode cX1_splitRow 1 = .ok (.invokevirtual 76, 3) := by decide +kernel
theorem dX1_splitRow_4 : decode cX1_splitRow 4 = .ok (.istore_n 2, 1) := by decide +kernel
theorem dX1_splitRow_5 : decode cX1_splitRow 5 = .ok (.new 79, 3) := by decide +kernel
theorem dX1_splitRow_8 : decode cX1_splitRow 8 = .ok (.dup, 1) := by decide +kernel
theorem dX1_splitRow_9 : decode cX1_splitRow 9 = .ok (.aload_n 1, 1) := by decide +kernel
theorem dX1_splitRow_10 : decode cX1_splitRow 10 = .ok (.getfield 35, 3) := by decide +kernel
theorem dX1_splitRow_13 : decode cX1_splitRow 13 = .ok (.iconst 1, 1) := by decide +kernel
theorem dX1_splitRow_14 : decode cX1_splitRow 14 = .ok (.iload_n 2, 1) := by decide +kernel
theorem dX1_splitRow_15 : decode cX1_splitRow 15 = .ok (.ishl, 1) := by decide +kernel
theorem dX1_splitRow_16 : decode cX1_splitRow 16 = .ok (.iadd, 1) := by decide +kernel
theorem dX1_splitRow_17 : decode cX1_splitRow 17 = .ok (.invokespecial 81, 3) := by decide +kernel
theorem dX1_splitRow_20 : decode cX1_splitRow 20 = .ok (.astore_n 3, 1) := by decide +kernel
theorem dX1_splitRow_21 : decode cX1_splitRow 21 = .ok (.iconst 0, 1) := by decide +kernel
theorem dX1_splitRow_22 : decode cX1_splitRow 22 = .ok (.istore 4, 2) := by decide +kernel
theorem dX1_splitRow_24 : decode cX1_splitRow 24 = .ok (.iload 4, 2) := by decide +kernel
theorem dX1_splitRow_26 : decode cX1_splitRow 26 = .ok (.aload_n 1, 1) := by decide +kernel
theorem dX1_splitRow_27 : decode cX1_splitRow 27 = .ok (.getfield 35, 3) := by decide +kernel
theorem dX1_splitRow_30 : decode cX1_splitRow 30 = .ok (.if_icmp .ge 28, 3) := by decide +kernel
theorem dX1_splitRow_33 : decode cX1_splitRow 33 = .ok (.aload_n 3, 1) := by decide +kernel
theorem dX1_splitRow_34 : decode cX1_splitRow 34 = .ok (.aload_n 1, 1) := by decide +kernel
theorem dX1_splitRow_35 : decode cX1_splitRow 35 = .ok (.getfield 84, 3) := by decide +kernel
theorem dX1_splitRow_38 : decode cX1_splitRow 38 = .ok (.iload 4, 2) := by decide +kernel
theorem dX1_splitRow_40 : decode cX1_splitRow 40 = .ok (.aaload, 1) := by decide +kernel
theorem dX1_splitRow_41 : decode cX1_splitRow 41 = .ok (.iload_n 2, 1) := by decide +kernel
theorem dX1_splitRow_42 : decode cX1_splitRow 42 = .ok (.invokevirtual 88, 3) := by decide +kernel
theorem dX1_splitRow_45 : decode cX1_splitRow 45 = .ok (.iload 4, 2) := by decide +kernel
theorem dX1_splitRow_47 : decode cX1_splitRow 47 = .ok (.iadd, 1) := by decide +kernel
theorem dX1_splitRow_48 : decode cX1_splitRow 48 = .ok (.iconst 1, 1) := by decide +kernel
theorem dX1_splitRow_49 : decode cX1_splitRow 49 = .ok (.invokevirtual 94, 3) := by decide +kernel
theorem dX1_splitRow_52 : decode cX1_splitRow 52 = .ok (.iinc 4 1, 3) := by decide +kernel
theorem dX1_splitRow_55 : decode cX1_splitRow 55 = .ok (.goto (-31), 3) := by decide +kernel
theorem dX1_splitRow_58 : decode cX1_splitRow 58 = .ok (.aload_n 3, 1) := by decide +kernel
theorem dX1_splitRow_59 : decode cX1_splitRow 59 = .ok (.invokevirtual 98, 3) := by decide +kernel
theorem dX1_splitRow_62 : decode cX1_splitRow 62 = .ok (.aload_n 3, 1) := by decide +kernel
theorem dX1_splitRow_63 : decode cX1_splitRow 63 = .ok (.areturn, 1) := by decide +kernel
theorem dX1_growTree_0 : decode cX1_growTree 0 = .ok (.iconst 0, 1) := by decide +kernel
theorem dX1_growTree_1 : decode cX1_growTree 1 = .ok (.istore_n 3, 1) := by decide +kernel
theorem dX1_growTree_2 : decode cX1_growTree 2 = .ok (.iload_n 3, 1) := by decide +kernel
theorem dX1_growTree_3 : decode cX1_growTree 3 = .ok (.aload_n 1, 1) := by decide +kernel
theorem dX1_growTree_4 : decode cX1_growTree 4 = .ok (.getfield 35, 3) := by decide +kernel
theorem dX1_growTree_7 : decode cX1_growTree 7 = .ok (.if_icmp .ge 40, 3) := by decide +kernel
theorem dX1_growTree_10 : decode cX1_growTree 10 = .ok (.aload_n 0, 1) := by decide +kernel
theorem dX1_growTree_11 : decode cX1_growTree 11 = .ok (.getfield 9, 3) := by decide +kernel
theorem dX1_growTree_14 : decode cX1_growTree 14 = .ok (.iload_n 3, 1) := by decide +kernel
theorem dX1_growTree_15 : decode cX1_growTree 15 = .ok (.iload_n 3, 1) := by decide +kernel
theorem dX1_growTree_16 : decode cX1_growTree 16 = .ok (.ifCond .ne 7, 3) := by decide +kernel
theorem dX1_growTree_19 : decode cX1_growTree 19 = .ok (.iconst 0, 1) := by decide +kernel
theorem dX1_growTree_20 : decode cX1_growTree 20 = .ok (.goto 20, 3) := by decide +kernel
theorem dX1_growTree_23 : decode cX1_growTree 23 = .ok (.aload_n 1, 1) := by decide +kernel
theorem dX1_growTree_24 : decode cX1_growTree 24 = .ok (.getfield 84, 3) := by decide +kernel
theorem dX1_growTree_27 : decode cX1_growTree 27 = .ok (.iload_n 3, 1) := by decide +kernel
theorem dX1_growTree_28 : decode cX1_growTree 28 = .ok (.aaload, 1) := by decide +kernel
theorem dX1_growTree_29 : decode cX1_growTree 29 = .ok (.aload_n 1, 1) := by decide +kernel
theorem dX1_growTree_30 : decode cX1_growTree 30 = .ok (.getfield 84, 3) := by decide +kernel
theorem dX1_growTree_33 : decode cX1_growTree 33 = .ok (.iload_n 3, 1) := by decide +kernel
theorem dX1_growTree_34 : decode cX1_growTree 34 = .ok (.iconst 1, 1) := by decide +kernel
theorem dX1_growTree_35 : decode cX1_growTree 35 = .ok (.isub, 1) := by decide +kernel
theorem dX1_growTree_36 : decode cX1_growTree 36 = .ok (.aaload, 1) := by decide +kernel
theorem dX1_growTree_37 : decode cX1_growTree 37 = .ok (.invokevirtual 101, 3) := by decide +kernel
theorem dX1_growTree_40 : decode cX1_growTree 40 = .ok (.iastore, 1) := by decide +kernel
theorem dX1_growTree_41 : decode cX1_growTree 41 = .ok (.iinc 3 1, 3) := by decide +kernel
theorem dX1_growTree_44 : decode cX1_growTree 44 = .ok (.goto (-42), 3) := by decide +kernel
theorem dX1_growTree_47 : decode cX1_growTree 47 = .ok (.aload_n 0, 1) := by decide +kernel
theorem dX1_growTree_48 : decode cX1_growTree 48 = .ok (.iconst 0, 1) := by decide +kernel
theorem dX1_growTree_49 : decode cX1_growTree 49 = .ok (.putfield 27, 3) := by decide +kernel
theorem dX1_growTree_52 : decode cX1_growTree 52 = .ok (.aload_n 0, 1) := by decide +kernel
theorem dX1_growTree_53 : decode cX1_growTree 53 = .ok (.iconst 0, 1) := by decide +kernel
theorem dX1_growTree_54 : decode cX1_growTree 54 = .ok (.iconst 0, 1) := by decide +kernel
theorem dX1_growTree_55 : decode cX1_growTree 55 = .ok (.iconst 0, 1) := by decide +kernel
theorem dX1_growTree_56 : decode cX1_growTree 56 = .ok (.invokevirtual 104, 3) := by decide +kernel
theorem dX1_growTree_59 : decode cX1_growTree 59 = .ok (.iconst 0, 1) := by decide +kernel
theorem dX1_growTree_60 : decode cX1_growTree 60 = .ok (.istore_n 3, 1) := by decide +kernel
theorem dX1_growTree_61 : decode cX1_growTree 61 = .ok (.iload_n 3, 1) := by decide +kernel
theorem dX1_growTree_62 : decode cX1_growTree 62 = .ok (.aload_n 0, 1) := by decide +kernel
theorem dX1_growTree_63 : decode cX1_growTree 63 = .ok (.getfield 27, 3) := by decide +kernel
theorem dX1_growTree_66 : decode cX1_growTree 66 = .ok (.if_icmp .ge 42, 3) := by decide +kernel
theorem dX1_growTree_69 : decode cX1_growTree 69 = .ok (.iload_n 3, 1) := by decide +kernel
theorem dX1_growTree_70 : decode cX1_growTree 70 = .ok (.sipush 2401, 3) := by decide +kernel
theorem dX1_growTree_73 : decode cX1_growTree 73 = .ok (.if_icmp .ge 35, 3) := by decide +kernel
theorem dX1_growTree_76 : decode cX1_growTree 76 = .ok (.aload_n 0, 1) := by decide +kernel
theorem dX1_growTree_77 : decode cX1_growTree 77 = .ok (.getfield 27, 3) := by decide +kernel
theorem dX1_growTree_80 : decode cX1_growTree 80 = .ok (.istore 4, 2) := by decide +kernel
theorem dX1_growTree_82 : decode cX1_growTree 82 = .ok (.aload_n 0, 1) := by decide +kernel
theorem dX1_growTree_83 : decode cX1_growTree 83 = .ok (.aload_n 1, 1) := by decide +kernel
theorem dX1_growTree_84 : decode cX1_growTree 84 = .ok (.iload_n 3, 1) := by decide +kernel
theorem dX1_growTree_85 : decode cX1_growTree 85 = .ok (.iload_n 2, 1) := by decide +kernel
theorem dX1_growTree_86 : decode cX1_growTree 86 = .ok (.invokevirtual 108, 3) := by decide +kernel
theorem dX1_growTree_89 : decode cX1_growTree 89 = .ok (.aload_n 0, 1) := by decide +kernel
theorem dX1_growTree_90 : decode cX1_growTree 90 = .ok (.getfield 24, 3) := by decide +kernel
theorem dX1_growTree_93 : decode cX1_growTree 93 = .ok (.iload_n 3, 1) := by decide +kernel
theorem dX1_growTree_94 : decode cX1_growTree 94 = .ok (.aload_n 0, 1) := by decide +kernel
theorem dX1_growTree_95 : decode cX1_growTree 95 = .ok (.getfield 27, 3) := by decide +kernel
theorem dX1_growTree_98 : decode cX1_growTree 98 = .ok (.iload 4, 2) := by decide +kernel
theorem dX1_growTree_100 : decode cX1_growTree 100 = .ok (.isub, 1) := by decide +kernel
theorem dX1_growTree_101 : decode cX1_growTree 101 = .ok (.iastore, 1) := by decide +kernel
theorem dX1_growTree_102 : decode cX1_growTree 102 = .ok (.iinc 3 1, 3) := by decide +kernel
theorem dX1_growTree_105 : decode cX1_growTree 105 = .ok (.goto (-44), 3) := by decide +kernel
theorem dX1_growTree_108 : decode cX1_growTree 108 = .ok (.return_, 1) := by decide +kernel
theorem dX1_addBelow_0 : decode cX1_addBelow 0 = .ok (.aload_n 0, 1) := by decide +kernel
theorem dX1_addBelow_1 : decode cX1_addBelow 1 = .ok (.getfield 18, 3) := by decide +kernel
theorem dX1_addBelow_4 : decode cX1_addBelow 4 = .ok (.iload_n 2, 1) := by decide +kernel
theorem dX1_addBelow_5 : decode cX1_addBelow 5 = .ok (.iaload, 1) := by decide +kernel
theorem dX1_addBelow_6 : decode cX1_addBelow 6 = .ok (.istore 4, 2) := by decide +kernel
theorem dX1_addBelow_8 : decode cX1_addBelow 8 = .ok (.aload_n 0, 1) := by decide +kernel
theorem dX1_addBelow_9 : decode cX1_addBelow 9 = .ok (.aload_n 0, 1) := by decide +kernel
theorem dX1_addBelow_10 : decode cX1_addBelow 10 = .ok (.getfield 15, 3) := by decide +kernel
theorem dX1_addBelow_13 : decode cX1_addBelow 13 = .ok (.iload_n 2, 1) := by decide +kernel
theorem dX1_addBelow_14 : decode cX1_addBelow 14 = .ok (.iaload, 1) := by decide +kernel
theorem dX1_addBelow_15 : decode cX1_addBelow 15 = .ok (.iload 4, 2) := by decide +kernel
theorem dX1_addBelow_17 : decode cX1_addBelow 17 = .ok (.aload_n 1, 1) := by decide +kernel
theorem dX1_addBelow_18 : decode cX1_addBelow 18 = .ok (.getfield 35, 3) := by decide +kernel
theorem dX1_addBelow_21 : decode cX1_addBelow 21 = .ok (.invokevirtual 112, 3) := by decide +kernel
theorem dX1_addBelow_24 : decode cX1_addBelow 24 = .ok (.istore 5, 2) := by decide +kernel
theorem dX1_addBelow_26 : decode cX1_addBelow 26 = .ok (.aload_n 0, 1) := by decide +kernel
theorem dX1_addBelow_27 : decode cX1_addBelow 27 = .ok (.getfield 15, 3) := by decide +kernel
theorem dX1_addBelow_30 : decode cX1_addBelow 30 = .ok (.iload_n 2, 1) := by decide +kernel
theorem dX1_addBelow_31 : decode cX1_addBelow 31 = .ok (.iaload, 1) := by decide +kernel
theorem dX1_addBelow_32 : decode cX1_addBelow 32 = .ok (.istore 6, 2) := by decide +kernel
theorem dX1_addBelow_34 : decode cX1_addBelow 34 = .ok (.iload 6, 2) := by decide +kernel
theorem dX1_addBelow_36 : decode cX1_addBelow 36 = .ok (.iload 5, 2) := by decide +kernel
theorem dX1_addBelow_38 : decode cX1_addBelow 38 = .ok (.if_icmp .ge 91, 3) := by decide +kernel
theorem dX1_addBelow_41 : decode cX1_addBelow 41 = .ok (.aload_n 1, 1) := by decide +kernel
theorem dX1_addBelow_42 : decode cX1_addBelow 42 = .ok (.getfield 84, 3) := by decide +kernel
theorem dX1_addBelow_45 : decode cX1_addBelow 45 = .ok (.iload 6, 2) := by decide +kernel
theorem dX1_addBelow_47 : decode cX1_addBelow 47 = .ok (.aaload, 1) := by decide +kernel
theorem dX1_addBelow_48 : decode cX1_addBelow 48 = .ok (.getfield 116, 3) := by decide +kernel
theorem dX1_addBelow_51 : decode cX1_addBelow 51 = .ok (.arraylength, 1) := by decide +kernel
theorem dX1_addBelow_52 : decode cX1_addBelow 52 = .ok (.iload 4, 2) := by decide +kernel
theorem dX1_addBelow_54 : decode cX1_addBelow 54 = .ok (.if_icmp .le 7, 3) := by decide +kernel
theorem dX1_addBelow_57 : decode cX1_addBelow 57 = .ok (.iconst 1, 1) := by decide +kernel
theorem dX1_addBelow_58 : decode cX1_addBelow 58 = .ok (.goto 4, 3) := by decide +kernel
theorem dX1_addBelow_61 : decode cX1_addBelow 61 = .ok (.iconst 0, 1) := by decide +kernel
theorem dX1_addBelow_62 : decode cX1_addBelow 62 = .ok (.istore 7, 2) := by decide +kernel
theorem dX1_addBelow_64 : decode cX1_addBelow 64 = .ok (.aload_n 0, 1) := by decide +kernel
theorem dX1_addBelow_65 : decode cX1_addBelow 65 = .ok (.getfield 9, 3) := by decide +kernel
theorem dX1_addBelow_68 : decode cX1_addBelow 68 = .ok (.iload 6, 2) := by decide +kernel
theorem dX1_addBelow_70 : decode cX1_addBelow 70 = .ok (.iaload, 1) := by decide +kernel
theorem dX1_addBelow_71 : decode cX1_addBelow 71 = .ok (.iload 4, 2) := by decide +kernel
theorem dX1_addBelow_73 : decode cX1_addBelow 73 = .ok (.if_icmp .gt 7, 3) := by decide +kernel
theorem dX1_addBelow_76 : decode cX1_addBelow 76 = .ok (.iconst 1, 1) := by decide +kernel
theorem dX1_addBelow_77 : decode cX1_addBelow 77 = .ok (.goto 4, 3) := by decide +kernel
theorem dX1_addBelow_80 : decode cX1_addBelow 80 = .ok (.iconst 0, 1) := by decide +kernel
theorem dX1_addBelow_81 : decode cX1_addBelow 81 = .ok (.istore 8, 2) := by decide +kernel
theorem dX1_addBelow_83 : decode cX1_addBelow 83 = .ok (.iload 7, 2) := by decide +kernel
theorem dX1_addBelow_85 : decode cX1_addBelow 85 = .ok (.ifCond .eq 38, 3) := by decide +kernel
theorem dX1_addBelow_88 : decode cX1_addBelow 88 = .ok (.iload 8, 2) := by decide +kernel
theorem dX1_addBelow_90 : decode cX1_addBelow 90 = .ok (.ifCond .eq 33, 3) := by decide +kernel
theorem dX1_addBelow_93 : decode cX1_addBelow 93 = .ok (.aload_n 0, 1) := by decide +kernel
theorem dX1_addBelow_94 : decode cX1_addBelow 94 = .ok (.iload 6, 2) := by decide +kernel
theorem dX1_addBelow_96 : decode cX1_addBelow 96 = .ok (.iload_n 3, 1) := by decide +kernel
theorem dX1_addBelow_97 : decode cX1_addBelow 97 = .ok (.ifCond .eq 10, 3) := by decide +kernel
theorem dX1_addBelow_100 : decode cX1_addBelow 100 = .ok (.iload 4, 2) := by decide +kernel
theorem dX1_addBelow_102 : decode cX1_addBelow 102 = .ok (.iconst 1, 1) := by decide +kernel
theorem dX1_addBelow_103 : decode cX1_addBelow 103 = .ok (.iadd, 1) := by decide +kernel
theorem dX1_addBelow_104 : decode cX1_addBelow 104 = .ok (.goto 14, 3) := by decide +kernel
theorem dX1_addBelow_107 : decode cX1_addBelow 107 = .ok (.aload_n 0, 1) := by decide +kernel
theorem dX1_addBelow_108 : decode cX1_addBelow 108 = .ok (.aload_n 1, 1) := by decide +kernel
theorem dX1_addBelow_109 : decode cX1_addBelow 109 = .ok (.iload 6, 2) := by decide +kernel
theorem dX1_addBelow_111 : decode cX1_addBelow 111 = .ok (.iload 4, 2) := by decide +kernel
theorem dX1_addBelow_113 : decode cX1_addBelow 113 = .ok (.iconst 1, 1) := by decide +kernel
theorem dX1_addBelow_114 : decode cX1_addBelow 114 = .ok (.iadd, 1) := by decide +kernel
theorem dX1_addBelow_115 : decode cX1_addBelow 115 = .ok (.invokevirtual 119, 3) := by decide +kernel
theorem dX1_addBelow_118 : decode cX1_addBelow 118 = .ok (.iload 4, 2) := by decide +kernel
theorem dX1_addBelow_120 : decode cX1_addBelow 120 = .ok (.invokevirtual 104, 3) := by decide +kernel
theorem dX1_addBelow_123 : decode cX1_addBelow 123 = .ok (.iinc 6 1, 3) := by decide +kernel
theorem dX1_addBelow_126 : decode cX1_addBelow 126 = .ok (.goto (-92), 3) := by decide +kernel
theorem dX1_addBelow_129 : decode cX1_addBelow 129 = .ok (.return_, 1) := by decide +kernel
theorem dX1_addNode_0 : decode cX1_addNode 0 = .ok (.aload_n 0, 1) := by decide +kernel
theorem dX1_addNode_1 : decode cX1_addNode 1 = .ok (.getfield 27, 3) := by decide +kernel
theorem dX1_addNode_4 : decode cX1_addNode 4 = .ok (.sipush 2401, 3) := by decide +kernel
theorem dX1_addNode_7 : decode cX1_addNode 7 = .ok (.if_icmp .lt 4, 3) := by decide +kernel
theorem dX1_addNode_10 : decode cX1_addNode 10 = .ok (.return_, 1) := by decide +kernel
theorem dX1_addNode_11 : decode cX1_addNode 11 = .ok (.aload_n 0, 1) := by decide +kernel
theorem dX1_addNode_12 : decode cX1_addNode 12 = .ok (.getfield 15, 3) := by decide +kernel
theorem dX1_addNode_15 : decode cX1_addNode 15 = .ok (.aload_n 0, 1) := by decide +kernel
theorem dX1_addNode_16 : decode cX1_addNode 16 = .ok (.getfield 27, 3) := by decide +kernel
theorem dX1_addNode_19 : decode cX1_addNode 19 = .ok (.iload_n 1, 1) := by decide +kernel
theorem dX1_addNode_20 : decode cX1_addNode 20 = .ok (.iastore, 1) := by decide +kernel
theorem dX1_addNode_21 : decode cX1_addNode 21 = .ok (.aload_n 0, 1) := by decide +kernel
theorem dX1_addNode_22 : decode cX1_addNode 22 = .ok (.getfield 18, 3) := by decide +kernel
theorem dX1_addNode_25 : decode cX1_addNode 25 = .ok (.aload_n 0, 1) := by decide +kernel
theorem dX1_addNode_26 : decode cX1_addNode 26 = .ok (.getfield 27, 3) := by decide +kernel
theorem dX1_addNode_29 : decode cX1_addNode 29 = .ok (.iload_n 2, 1) := by decide +kernel
theorem dX1_addNode_30 : decode cX1_addNode 30 = .ok (.iastore, 1) := by decide +kernel
theorem dX1_addNode_31 : decode cX1_addNode 31 = .ok (.aload_n 0, 1) := by decide +kernel
theorem dX1_addNode_32 : decode cX1_addNode 32 = .ok (.getfield 21, 3) := by decide +kernel
theorem dX1_addNode_35 : decode cX1_addNode 35 = .ok (.aload_n 0, 1) := by decide +kernel
theorem dX1_addNode_36 : decode cX1_addNode 36 = .ok (.getfield 27, 3) := by decide +kernel
theorem dX1_addNode_39 : decode cX1_addNode 39 = .ok (.iload_n 3, 1) := by decide +kernel
theorem dX1_addNode_40 : decode cX1_addNode 40 = .ok (.iastore, 1) := by decide +kernel
theorem dX1_addNode_41 : decode cX1_addNode 41 = .ok (.aload_n 0, 1) := by decide +kernel
theorem dX1_addNode_42 : decode cX1_addNode 42 = .ok (.dup, 1) := by decide +kernel
theorem dX1_addNode_43 : decode cX1_addNode 43 = .ok (.getfield 27, 3) := by decide +kernel
theorem dX1_addNode_46 : decode cX1_addNode 46 = .ok (.iconst 1, 1) := by decide +kernel
theorem dX1_addNode_47 : decode cX1_addNode 47 = .ok (.iadd, 1) := by decide +kernel
theorem dX1_addNode_48 : decode cX1_addNode 48 = .ok (.putfield 27, 3) := by decide +kernel
theorem dX1_addNode_51 : decode cX1_addNode 51 = .ok (.return_, 1) := by decide +kernel
theorem dX1_pastAlike_0 : decode cX1_pastAlike 0 = .ok (.iload_n 1, 1) := by decide +kernel
theorem dX1_pastAlike_1 : decode cX1_pastAlike 1 = .ok (.iconst 1, 1) := by decide +kernel
theorem dX1_pastAlike_2 : decode cX1_pastAlike 2 = .ok (.iadd, 1) := by decide +kernel
theorem dX1_pastAlike_3 : decode cX1_pastAlike 3 = .ok (.istore 4, 2) := by decide +kernel
theorem dX1_pastAlike_5 : decode cX1_pastAlike 5 = .ok (.iload 4, 2) := by decide +kernel
theorem dX1_pastAlike_7 : decode cX1_pastAlike 7 = .ok (.iload_n 3, 1) := by decide +kernel
theorem dX1_pastAlike_8 : decode cX1_pastAlike 8 = .ok (.if_icmp .ge 20, 3) := by decide +kernel
theorem dX1_pastAlike_11 : decode cX1_pastAlike 11 = .ok (.aload_n 0, 1) := by decide +kernel
theorem dX1_pastAlike_12 : decode cX1_pastAlike 12 = .ok (.getfield 9, 3) := by decide +kernel
theorem dX1_pastAlike_15 : decode cX1_pastAlike 15 = .ok (.iload 4, 2) := by decide +kernel
theorem dX1_pastAlike_17 : decode cX1_pastAlike 17 = .ok (.iaload, 1) := by decide +kernel
theorem dX1_pastAlike_18 : decode cX1_pastAlike 18 = .ok (.iload_n 2, 1) := by decide +kernel
theorem dX1_pastAlike_19 : decode cX1_pastAlike 19 = .ok (.if_icmp .lt 9, 3) := by decide +kernel
theorem dX1_pastAlike_22 : decode cX1_pastAlike 22 = .ok (.iinc 4 1, 3) := by decide +kernel
theorem dX1_pastAlike_25 : decode cX1_pastAlike 25 = .ok (.goto (-20), 3) := by decide +kernel
theorem dX1_pastAlike_28 : decode cX1_pastAlike 28 = .ok (.iload 4, 2) := by decide +kernel
theorem dX1_pastAlike_30 : decode cX1_pastAlike 30 = .ok (.ireturn, 1) := by decide +kernel
theorem dX1_lengthInCommon_0 : decode cX1_lengthInCommon 0 = .ok (.aload_n 0, 1) := by decide +kernel
theorem dX1_lengthInCommon_1 : decode cX1_lengthInCommon 1 = .ok (.iload_n 2, 1) := by decide +kernel
theorem dX1_lengthInCommon_2 : decode cX1_lengthInCommon 2 = .ok (.iload_n 3, 1) := by decide +kernel
theorem dX1_lengthInCommon_3 : decode cX1_lengthInCommon 3 = .ok (.aload_n 1, 1) := by decide +kernel
theorem dX1_lengthInCommon_4 : decode cX1_lengthInCommon 4 = .ok (.getfield 35, 3) := by decide +kernel
theorem dX1_lengthInCommon_7 : decode cX1_lengthInCommon 7 = .ok (.invokevirtual 112, 3) := by decide +kernel
theorem dX1_lengthInCommon_10 : decode cX1_lengthInCommon 10 = .ok (.istore 4, 2) := by decide +kernel
theorem dX1_lengthInCommon_12 : decode cX1_lengthInCommon 12 = .ok (.aload_n 1, 1) := by decide +kernel
theorem dX1_lengthInCommon_13 : decode cX1_lengthInCommon 13 = .ok (.getfield 84, 3) := by decide +kernel
theorem dX1_lengthInCommon_16 : decode cX1_lengthInCommon 16 = .ok (.iload_n 2, 1) := by decide +kernel
theorem dX1_lengthInCommon_17 : decode cX1_lengthInCommon 17 = .ok (.aaload, 1) := by decide +kernel
theorem dX1_lengthInCommon_18 : decode cX1_lengthInCommon 18 = .ok (.getfield 116, 3) := by decide +kernel
theorem dX1_lengthInCommon_21 : decode cX1_lengthInCommon 21 = .ok (.arraylength, 1) := by decide +kernel
theorem dX1_lengthInCommon_22 : decode cX1_lengthInCommon 22 = .ok (.istore 5, 2) := by decide +kernel
theorem dX1_lengthInCommon_24 : decode cX1_lengthInCommon 24 = .ok (.iload_n 2, 1) := by decide +kernel
theorem dX1_lengthInCommon_25 : decode cX1_lengthInCommon 25 = .ok (.iconst 1, 1) := by decide +kernel
theorem dX1_lengthInCommon_26 : decode cX1_lengthInCommon 26 = .ok (.iadd, 1) := by decide +kernel
theorem dX1_lengthInCommon_27 : decode cX1_lengthInCommon 27 = .ok (.istore 6, 2) := by decide +kernel
theorem dX1_lengthInCommon_29 : decode cX1_lengthInCommon 29 = .ok (.iload 6, 2) := by decide +kernel
theorem dX1_lengthInCommon_31 : decode cX1_lengthInCommon 31 = .ok (.iload 4, 2) := by decide +kernel
theorem dX1_lengthInCommon_33 : decode cX1_lengthInCommon 33 = .ok (.if_icmp .ge 23, 3) := by decide +kernel
theorem dX1_lengthInCommon_36 : decode cX1_lengthInCommon 36 = .ok (.iload 5, 2) := by decide +kernel
theorem dX1_lengthInCommon_38 : decode cX1_lengthInCommon 38 = .ok (.aload_n 0, 1) := by decide +kernel
theorem dX1_lengthInCommon_39 : decode cX1_lengthInCommon 39 = .ok (.getfield 9, 3) := by decide +kernel
theorem dX1_lengthInCommon_42 : decode cX1_lengthInCommon 42 = .ok (.iload 6, 2) := by decide +kernel
theorem dX1_lengthInCommon_44 : decode cX1_lengthInCommon 44 = .ok (.iaload, 1) := by decide +kernel
theorem dX1_lengthInCommon_45 : decode cX1_lengthInCommon 45 = .ok (.invokestatic 123, 3) := by decide +kernel
theorem dX1_lengthInCommon_48 : decode cX1_lengthInCommon 48 = .ok (.istore 5, 2) := by decide +kernel
theorem dX1_lengthInCommon_50 : decode cX1_lengthInCommon 50 = .ok (.iinc 6 1, 3) := by decide +kernel
theorem dX1_lengthInCommon_53 : decode cX1_lengthInCommon 53 = .ok (.goto (-24), 3) := by decide +kernel
theorem dX1_lengthInCommon_56 : decode cX1_lengthInCommon 56 = .ok (.iload 5, 2) := by decide +kernel
theorem dX1_lengthInCommon_58 : decode cX1_lengthInCommon 58 = .ok (.ireturn, 1) := by decide +kernel
theorem dX1_treeRow_0 : decode cX1_treeRow 0 = .ok (.new 79, 3) := by decide +kernel
theorem dX1_treeRow_3 : decode cX1_treeRow 3 = .ok (.dup, 1) := by decide +kernel
theorem dX1_treeRow_4 : decode cX1_treeRow 4 = .ok (.iconst 2, 1) := by decide +kernel
theorem dX1_treeRow_5 : decode cX1_treeRow 5 = .ok (.aload_n 0, 1) := by decide +kernel
theorem dX1_treeRow_6 : decode cX1_treeRow 6 = .ok (.getfield 27, 3) := by decide +kernel
theorem dX1_treeRow_9 : decode cX1_treeRow 9 = .ok (.imul, 1) := by decide +kernel
theorem dX1_treeRow_10 : decode cX1_treeRow 10 = .ok (.iconst 1, 1) := by decide +kernel
theorem dX1_treeRow_11 : decode cX1_treeRow 11 = .ok (.isub, 1) := by decide +kernel
theorem dX1_treeRow_12 : decode cX1_treeRow 12 = .ok (.invokespecial 81, 3) := by decide +kernel
theorem dX1_treeRow_15 : decode cX1_treeRow 15 = .ok (.astore_n 1, 1) := by decide +kernel
theorem dX1_treeRow_16 : decode cX1_treeRow 16 = .ok (.iconst 0, 1) := by decide +kernel
theorem dX1_treeRow_17 : decode cX1_treeRow 17 = .ok (.istore_n 2, 1) := by decide +kernel
theorem dX1_treeRow_18 : decode cX1_treeRow 18 = .ok (.iconst 0, 1) := by decide +kernel
theorem dX1_treeRow_19 : decode cX1_treeRow 19 = .ok (.istore_n 3, 1) := by decide +kernel
theorem dX1_treeRow_20 : decode cX1_treeRow 20 = .ok (.iload_n 3, 1) := by decide +kernel
theorem dX1_treeRow_21 : decode cX1_treeRow 21 = .ok (.aload_n 0, 1) := by decide +kernel
theorem dX1_treeRow_22 : decode cX1_treeRow 22 = .ok (.getfield 27, 3) := by decide +kernel
theorem dX1_treeRow_25 : decode cX1_treeRow 25 = .ok (.if_icmp .ge 41, 3) := by decide +kernel
theorem dX1_treeRow_28 : decode cX1_treeRow 28 = .ok (.iconst 0, 1) := by decide +kernel
theorem dX1_treeRow_29 : decode cX1_treeRow 29 = .ok (.istore 4, 2) := by decide +kernel
theorem dX1_treeRow_31 : decode cX1_treeRow 31 = .ok (.iload 4, 2) := by decide +kernel
theorem dX1_treeRow_33 : decode cX1_treeRow 33 = .ok (.aload_n 0, 1) := by decide +kernel
theorem dX1_treeRow_34 : decode cX1_treeRow 34 = .ok (.getfield 24, 3) := by decide +kernel
theorem dX1_treeRow_37 : decode cX1_treeRow 37 = .ok (.iload_n 3, 1) := by decide +kernel
theorem dX1_treeRow_38 : decode cX1_treeRow 38 = .ok (.iaload, 1) := by decide +kernel
theorem dX1_treeRow_39 : decode cX1_treeRow 39 = .ok (.if_icmp .ge 18, 3) := by decide +kernel
theorem dX1_treeRow_42 : decode cX1_treeRow 42 = .ok (.aload_n 1, 1) := by decide +kernel
theorem dX1_treeRow_43 : decode cX1_treeRow 43 = .ok (.iload_n 2, 1) := by decide +kernel
theorem dX1_treeRow_44 : decode cX1_treeRow 44 = .ok (.iconst 1, 1) := by decide +kernel
theorem dX1_treeRow_45 : decode cX1_treeRow 45 = .ok (.invokevirtual 94, 3) := by decide +kernel
theorem dX1_treeRow_48 : decode cX1_treeRow 48 = .ok (.iinc 2 1, 3) := by decide +kernel
theorem dX1_treeRow_51 : decode cX1_treeRow 51 = .ok (.iinc 4 1, 3) := by decide +kernel
theorem dX1_treeRow_54 : decode cX1_treeRow 54 = .ok (.goto (-23), 3) := by decide +kernel
theorem dX1_treeRow_57 : decode cX1_treeRow 57 = .ok (.iinc 2 1, 3) := by decide +kernel
theorem dX1_treeRow_60 : decode cX1_treeRow 60 = .ok (.iinc 3 1, 3) := by decide +kernel
theorem dX1_treeRow_63 : decode cX1_treeRow 63 = .ok (.goto (-43), 3) := by decide +kernel
theorem dX1_treeRow_66 : decode cX1_treeRow 66 = .ok (.aload_n 1, 1) := by decide +kernel
theorem dX1_treeRow_67 : decode cX1_treeRow 67 = .ok (.invokevirtual 98, 3) := by decide +kernel
theorem dX1_treeRow_70 : decode cX1_treeRow 70 = .ok (.aload_n 1, 1) := by decide +kernel
theorem dX1_treeRow_71 : decode cX1_treeRow 71 = .ok (.areturn, 1) := by decide +kernel
theorem dX1_edgeBytes_0 : decode cX1_edgeBytes 0 = .ok (.aload_n 0, 1) := by decide +kernel
theorem dX1_edgeBytes_1 : decode cX1_edgeBytes 1 = .ok (.getfield 27, 3) := by decide +kernel
theorem dX1_edgeBytes_4 : decode cX1_edgeBytes 4 = .ok (.iconst 1, 1) := by decide +kernel
theorem dX1_edgeBytes_5 : decode cX1_edgeBytes 5 = .ok (.isub, 1) := by decide +kernel
theorem dX1_edgeBytes_6 : decode cX1_edgeBytes 6 = .ok (.newarray .int, 2) := by decide +kernel
theorem dX1_edgeBytes_8 : decode cX1_edgeBytes 8 = .ok (.astore_n 2, 1) := by decide +kernel
theorem dX1_edgeBytes_9 : decode cX1_edgeBytes 9 = .ok (.iconst 0, 1) := by decide +kernel
theorem dX1_edgeBytes_10 : decode cX1_edgeBytes 10 = .ok (.istore_n 3, 1) := by decide +kernel
theorem dX1_edgeBytes_11 : decode cX1_edgeBytes 11 = .ok (.iload_n 3, 1) := by decide +kernel
theorem dX1_edgeBytes_12 : decode cX1_edgeBytes 12 = .ok (.aload_n 2, 1) := by decide +kernel
theorem dX1_edgeBytes_13 : decode cX1_edgeBytes 13 = .ok (.arraylength, 1) := by decide +kernel
theorem dX1_edgeBytes_14 : decode cX1_edgeBytes 14 = .ok (.if_icmp .ge 37, 3) := by decide +kernel
theorem dX1_edgeBytes_17 : decode cX1_edgeBytes 17 = .ok (.aload_n 2, 1) := by decide +kernel
theorem dX1_edgeBytes_18 : decode cX1_edgeBytes 18 = .ok (.iload_n 3, 1) := by decide +kernel
theorem dX1_edgeBytes_19 : decode cX1_edgeBytes 19 = .ok (.aload_n 1, 1) := by decide +kernel
theorem dX1_edgeBytes_20 : decode cX1_edgeBytes 20 = .ok (.getfield 84, 3) := by decide +kernel
theorem dX1_edgeBytes_23 : decode cX1_edgeBytes 23 = .ok (.aload_n 0, 1) := by decide +kernel
theorem dX1_edgeBytes_24 : decode cX1_edgeBytes 24 = .ok (.getfield 15, 3) := by decide +kernel
theorem dX1_edgeBytes_27 : decode cX1_edgeBytes 27 = .ok (.iload_n 3, 1) := by decide +kernel
theorem dX1_edgeBytes_28 : decode cX1_edgeBytes 28 = .ok (.iconst 1, 1) := by decide +kernel
theorem dX1_edgeBytes_29 : decode cX1_edgeBytes 29 = .ok (.iadd, 1) := by decide +kernel
theorem dX1_edgeBytes_30 : decode cX1_edgeBytes 30 = .ok (.iaload, 1) := by decide +kernel
theorem dX1_edgeBytes_31 : decode cX1_edgeBytes 31 = .ok (.aaload, 1) := by decide +kernel
theorem dX1_edgeBytes_32 : decode cX1_edgeBytes 32 = .ok (.getfield 116, 3) := by decide +kernel
theorem dX1_edgeBytes_35 : decode cX1_edgeBytes 35 = .ok (.aload_n 0, 1) := by decide +kernel
theorem dX1_edgeBytes_36 : decode cX1_edgeBytes 36 = .ok (.getfield 21, 3) := by decide +kernel
theorem dX1_edgeBytes_39 : decode cX1_edgeBytes 39 = .ok (.iload_n 3, 1) := by decide +kernel
theorem dX1_edgeBytes_40 : decode cX1_edgeBytes 40 = .ok (.iconst 1, 1) := by decide +kernel
theorem dX1_edgeBytes_41 : decode cX1_edgeBytes 41 = .ok (.iadd, 1) := by decide +kernel
theorem dX1_edgeBytes_42 : decode cX1_edgeBytes 42 = .ok (.iaload, 1) := by decide +kernel
theorem dX1_edgeBytes_43 : decode cX1_edgeBytes 43 = .ok (.iaload, 1) := by decide +kernel
theorem dX1_edgeBytes_44 : decode cX1_edgeBytes 44 = .ok (.iastore, 1) := by decide +kernel
theorem dX1_edgeBytes_45 : decode cX1_edgeBytes 45 = .ok (.iinc 3 1, 3) := by decide +kernel
theorem dX1_edgeBytes_48 : decode cX1_edgeBytes 48 = .ok (.goto (-37), 3) := by decide +kernel
theorem dX1_edgeBytes_51 : decode cX1_edgeBytes 51 = .ok (.aload_n 2, 1) := by decide +kernel
theorem dX1_edgeBytes_52 : decode cX1_edgeBytes 52 = .ok (.areturn, 1) := by decide +kernel
theorem dX1_stringBytes_0 : decode cX1_stringBytes 0 = .ok (.iconst 0, 1) := by decide +kernel
theorem dX1_stringBytes_1 : decode cX1_stringBytes 1 = .ok (.istore_n 3, 1) := by decide +kernel
theorem dX1_stringBytes_2 : decode cX1_stringBytes 2 = .ok (.iconst 1, 1) := by decide +kernel
theorem dX1_stringBytes_3 : decode cX1_stringBytes 3 = .ok (.istore 4, 2) := by decide +kernel
theorem dX1_stringBytes_5 : decode cX1_stringBytes 5 = .ok (.iload 4, 2) := by decide +kernel
theorem dX1_stringBytes_7 : decode cX1_stringBytes 7 = .ok (.aload_n 0, 1) := by decide +kernel
theorem dX1_stringBytes_8 : decode cX1_stringBytes 8 = .ok (.getfield 27, 3) := by decide +kernel
theorem dX1_stringBytes_11 : decode cX1_stringBytes 11 = .ok (.if_icmp .ge 41, 3) := by decide +kernel
theorem dX1_stringBytes_14 : decode cX1_stringBytes 14 = .ok (.iload_n 2, 1) := by decide +kernel
theorem dX1_stringBytes_15 : decode cX1_stringBytes 15 = .ok (.ifCond .eq 13, 3) := by decide +kernel
theorem dX1_stringBytes_18 : decode cX1_stringBytes 18 = .ok (.aload_n 0, 1) := by decide +kernel
theorem dX1_stringBytes_19 : decode cX1_stringBytes 19 = .ok (.aload_n 1, 1) := by decide +kernel
theorem dX1_stringBytes_20 : decode cX1_stringBytes 20 = .ok (.iload 4, 2) := by decide +kernel
theorem dX1_stringBytes_22 : decode cX1_stringBytes 22 = .ok (.invokevirtual 129, 3) := by decide +kernel
theorem dX1_stringBytes_25 : decode cX1_stringBytes 25 = .ok (.ifCond .ne 21, 3) := by decide +kernel
theorem dX1_stringBytes_28 : decode cX1_stringBytes 28 = .ok (.iload_n 3, 1) := by decide +kernel
theorem dX1_stringBytes_29 : decode cX1_stringBytes 29 = .ok (.aload_n 0, 1) := by decide +kernel
theorem dX1_stringBytes_30 : decode cX1_stringBytes 30 = .ok (.getfield 18, 3) := by decide +kernel
theorem dX1_stringBytes_33 : decode cX1_stringBytes 33 = .ok (.iload 4, 2) := by decide +kernel
theorem dX1_stringBytes_35 : decode cX1_stringBytes 35 = .ok (.iaload, 1) := by decide +kernel
theorem dX1_stringBytes_36 : decode cX1_stringBytes 36 = .ok (.aload_n 0, 1) := by decide +kernel
theorem dX1_stringBytes_37 : decode cX1_stringBytes 37 = .ok (.getfield 21, 3) := by decide +kernel
theorem dX1_stringBytes_40 : decode cX1_stringBytes 40 = .ok (.iload 4, 2) := by decide +kernel
theorem dX1_stringBytes_42 : decode cX1_stringBytes 42 = .ok (.iaload, 1) := by decide +kernel
theorem dX1_stringBytes_43 : decode cX1_stringBytes 43 = .ok (.isub, 1) := by decide +kernel
theorem dX1_stringBytes_44 : decode cX1_stringBytes 44 = .ok (.iadd, 1) := by decide +kernel
theorem dX1_stringBytes_45 : decode cX1_stringBytes 45 = .ok (.istore_n 3, 1) := by decide +kernel
theorem dX1_stringBytes_46 : decode cX1_stringBytes 46 = .ok (.iinc 4 1, 3) := by decide +kernel
theorem dX1_stringBytes_49 : decode cX1_stringBytes 49 = .ok (.goto (-44), 3) := by decide +kernel
theorem dX1_stringBytes_52 : decode cX1_stringBytes 52 = .ok (.iload_n 3, 1) := by decide +kernel
theorem dX1_stringBytes_53 : decode cX1_stringBytes 53 = .ok (.ireturn, 1) := by decide +kernel
theorem dX1_isStringBefore_0 : decode cX1_isStringBefore 0 = .ok (.iconst 1, 1) := by decide +kernel
theorem dX1_isStringBefore_1 : decode cX1_isStringBefore 1 = .ok (.istore_n 3, 1) := by decide +kernel
theorem dX1_isStringBefore_2 : decode cX1_isStringBefore 2 = .ok (.iload_n 3, 1) := by decide +kernel
theorem dX1_isStringBefore_3 : decode cX1_isStringBefore 3 = .ok (.iload_n 2, 1) := by decide +kernel
theorem dX1_isStringBefore_4 : decode cX1_isStringBefore 4 = .ok (.if_icmp .ge 21, 3) := by decide +kernel
theorem dX1_isStringBefore_7 : decode cX1_isStringBefore 7 = .ok (.aload_n 0, 1) := by decide +kernel
theorem dX1_isStringBefore_8 : decode cX1_isStringBefore 8 = .ok (.aload_n 1, 1) := by decide +kernel
theorem dX1_isStringBefore_9 : decode cX1_isStringBefore 9 = .ok (.iload_n 3, 1) := by decide +kernel
theorem dX1_isStringBefore_10 : decode cX1_isStringBefore 10 = .ok (.iload_n 2, 1) := by decide +kernel
theorem dX1_isStringBefore_11 : decode cX1_isStringBefore 11 = .ok (.invokevirtual 133, 3) := by decide +kernel
theorem dX1_isStringBefore_14 : decode cX1_isStringBefore 14 = .ok (.ifCond .eq 5, 3) := by decide +kernel
theorem dX1_isStringBefore_17 : decode cX1_isStringBefore 17 = .ok (.iconst 1, 1) := by decide +kernel
theorem dX1_isStringBefore_18 : decode cX1_isStringBefore 18 = .ok (.ireturn, 1) := by decide +kernel
theorem dX1_isStringBefore_19 : decode cX1_isStringBefore 19 = .ok (.iinc 3 1, 3) := by decide +kernel
theorem dX1_isStringBefore_22 : decode cX1_isStringBefore 22 = .ok (.goto (-20), 3) := by decide +kernel
theorem dX1_isStringBefore_25 : decode cX1_isStringBefore 25 = .ok (.iconst 0, 1) := by decide +kernel
theorem dX1_isStringBefore_26 : decode cX1_isStringBefore 26 = .ok (.ireturn, 1) := by decide +kernel
theorem dX1_isSameString_0 : decode cX1_isSameString 0 = .ok (.aload_n 0, 1) := by decide +kernel
theorem dX1_isSameString_1 : decode cX1_isSameString 1 = .ok (.getfield 18, 3) := by decide +kernel
theorem dX1_isSameString_4 : decode cX1_isSameString 4 = .ok (.iload_n 2, 1) := by decide +kernel
theorem dX1_isSameString_5 : decode cX1_isSameString 5 = .ok (.iaload, 1) := by decide +kernel
theorem dX1_isSameString_6 : decode cX1_isSameString 6 = .ok (.aload_n 0, 1) := by decide +kernel
theorem dX1_isSameString_7 : decode cX1_isSameString 7 = .ok (.getfield 21, 3) := by decide +kernel
theorem dX1_isSameString_10 : decode cX1_isSameString 10 = .ok (.iload_n 2, 1) := by decide +kernel
theorem dX1_isSameString_11 : decode cX1_isSameString 11 = .ok (.iaload, 1) := by decide +kernel
theorem dX1_isSameString_12 : decode cX1_isSameString 12 = .ok (.isub, 1) := by decide +kernel
theorem dX1_isSameString_13 : decode cX1_isSameString 13 = .ok (.istore 4, 2) := by decide +kernel
theorem dX1_isSameString_15 : decode cX1_isSameString 15 = .ok (.iload 4, 2) := by decide +kernel
theorem dX1_isSameString_17 : decode cX1_isSameString 17 = .ok (.aload_n 0, 1) := by decide +kernel
theorem dX1_isSameString_18 : decode cX1_isSameString 18 = .ok (.getfield 18, 3) := by decide +kernel
theorem dX1_isSameString_21 : decode cX1_isSameString 21 = .ok (.iload_n 3, 1) := by decide +kernel
theorem dX1_isSameString_22 : decode cX1_isSameString 22 = .ok (.iaload, 1) := by decide +kernel
theorem dX1_isSameString_23 : decode cX1_isSameString 23 = .ok (.aload_n 0, 1) := by decide +kernel
theorem dX1_isSameString_24 : decode cX1_isSameString 24 = .ok (.getfield 21, 3) := by decide +kernel
theorem dX1_isSameString_27 : decode cX1_isSameString 27 = .ok (.iload_n 3, 1) := by decide +kernel
theorem dX1_isSameString_28 : decode cX1_isSameString 28 = .ok (.iaload, 1) := by decide +kernel
theorem dX1_isSameString_29 : decode cX1_isSameString 29 = .ok (.isub, 1) := by decide +kernel
theorem dX1_isSameString_30 : decode cX1_isSameString 30 = .ok (.if_icmp .eq 5, 3) := by decide +kernel
theorem dX1_isSameString_33 : decode cX1_isSameString 33 = .ok (.iconst 0, 1) := by decide +kernel
theorem dX1_isSameString_34 : decode cX1_isSameString 34 = .ok (.ireturn, 1) := by decide +kernel
theorem dX1_isSameString_35 : decode cX1_isSameString 35 = .ok (.aload_n 1, 1) := by decide +kernel
theorem dX1_isSameString_36 : decode cX1_isSameString 36 = .ok (.getfield 84, 3) := by decide +kernel
theorem dX1_isSameString_39 : decode cX1_isSameString 39 = .ok (.aload_n 0, 1) := by decide +kernel
theorem dX1_isSameString_40 : decode cX1_isSameString 40 = .ok (.getfield 15, 3) := by decide +kernel
theorem dX1_isSameString_43 : decode cX1_isSameString 43 = .ok (.iload_n 2, 1) := by decide +kernel
theorem dX1_isSameString_44 : decode cX1_isSameString 44 = .ok (.iaload, 1) := by decide +kernel
theorem dX1_isSameString_45 : decode cX1_isSameString 45 = .ok (.aaload, 1) := by decide +kernel
theorem dX1_isSameString_46 : decode cX1_isSameString 46 = .ok (.getfield 116, 3) := by decide +kernel
theorem dX1_isSameString_49 : decode cX1_isSameString 49 = .ok (.astore 5, 2) := by decide +kernel
theorem dX1_isSameString_51 : decode cX1_isSameString 51 = .ok (.aload_n 1, 1) := by decide +kernel
theorem dX1_isSameString_52 : decode cX1_isSameString 52 = .ok (.getfield 84, 3) := by decide +kernel
theorem dX1_isSameString_55 : decode cX1_isSameString 55 = .ok (.aload_n 0, 1) := by decide +kernel
theorem dX1_isSameString_56 : decode cX1_isSameString 56 = .ok (.getfield 15, 3) := by decide +kernel
theorem dX1_isSameString_59 : decode cX1_isSameString 59 = .ok (.iload_n 3, 1) := by decide +kernel
theorem dX1_isSameString_60 : decode cX1_isSameString 60 = .ok (.iaload, 1) := by decide +kernel
theorem dX1_isSameString_61 : decode cX1_isSameString 61 = .ok (.aaload, 1) := by decide +kernel
theorem dX1_isSameString_62 : decode cX1_isSameString 62 = .ok (.getfield 116, 3) := by decide +kernel
theorem dX1_isSameString_65 : decode cX1_isSameString 65 = .ok (.astore 6, 2) := by decide +kernel
theorem dX1_isSameString_67 : decode cX1_isSameString 67 = .ok (.iconst 0, 1) := by decide +kernel
theorem dX1_isSameString_68 : decode cX1_isSameString 68 = .ok (.istore 7, 2) := by decide +kernel
theorem dX1_isSameString_70 : decode cX1_isSameString 70 = .ok (.iload 7, 2) := by decide +kernel
theorem dX1_isSameString_72 : decode cX1_isSameString 72 = .ok (.iload 4, 2) := by decide +kernel
theorem dX1_isSameString_74 : decode cX1_isSameString 74 = .ok (.if_icmp .ge 38, 3) := by decide +kernel
theorem dX1_isSameString_77 : decode cX1_isSameString 77 = .ok (.aload 5, 2) := by decide +kernel
theorem dX1_isSameString_79 : decode cX1_isSameString 79 = .ok (.aload_n 0, 1) := by decide +kernel
theorem dX1_isSameString_80 : decode cX1_isSameString 80 = .ok (.getfield 21, 3) := by decide +kernel
theorem dX1_isSameString_83 : decode cX1_isSameString 83 = .ok (.iload_n 2, 1) := by decide +kernel
theorem dX1_isSameString_84 : decode cX1_isSameString 84 = .ok (.iaload, 1) := by decide +kernel
theorem dX1_isSameString_85 : decode cX1_isSameString 85 = .ok (.iload 7, 2) := by decide +kernel
theorem dX1_isSameString_87 : decode cX1_isSameString 87 = .ok (.iadd, 1) := by decide +kernel
theorem dX1_isSameString_88 : decode cX1_isSameString 88 = .ok (.iaload, 1) := by decide +kernel
theorem dX1_isSameString_89 : decode cX1_isSameString 89 = .ok (.aload 6, 2) := by decide +kernel
theorem dX1_isSameString_91 : decode cX1_isSameString 91 = .ok (.aload_n 0, 1) := by decide +kernel
theorem dX1_isSameString_92 : decode cX1_isSameString 92 = .ok (.getfield 21, 3) := by decide +kernel
theorem dX1_isSameString_95 : decode cX1_isSameString 95 = .ok (.iload_n 3, 1) := by decide +kernel
theorem dX1_isSameString_96 : decode cX1_isSameString 96 = .ok (.iaload, 1) := by decide +kernel
theorem dX1_isSameString_97 : decode cX1_isSameString 97 = .ok (.iload 7, 2) := by decide +kernel
theorem dX1_isSameString_99 : decode cX1_isSameString 99 = .ok (.iadd, 1) := by decide +kernel
theorem dX1_isSameString_100 : decode cX1_isSameString 100 = .ok (.iaload, 1) := by decide +kernel
theorem dX1_isSameString_101 : decode cX1_isSameString 101 = .ok (.if_icmp .eq 5, 3) := by decide +kernel
theorem dX1_isSameString_104 : decode cX1_isSameString 104 = .ok (.iconst 0, 1) := by decide +kernel
theorem dX1_isSameString_105 : decode cX1_isSameString 105 = .ok (.ireturn, 1) := by decide +kernel
theorem dX1_isSameString_106 : decode cX1_isSameString 106 = .ok (.iinc 7 1, 3) := by decide +kernel
theorem dX1_isSameString_109 : decode cX1_isSameString 109 = .ok (.goto (-39), 3) := by decide +kernel
theorem dX1_isSameString_112 : decode cX1_isSameString 112 = .ok (.iconst 1, 1) := by decide +kernel
theorem dX1_isSameString_113 : decode cX1_isSameString 113 = .ok (.ireturn, 1) := by decide +kernel
theorem dX2_init_0 : decode cX2_init 0 = .ok (.aload_n 0, 1) := by decide +kernel
theorem dX2_init_1 : decode cX2_init 1 = .ok (.iload_n 1, 1) := by decide +kernel
theorem dX2_init_2 : decode cX2_init 2 = .ok (.invokespecial 3, 3) := by decide +kernel
theorem dX2_init_5 : decode cX2_init 5 = .ok (.aload_n 0, 1) := by decide +kernel
theorem dX2_init_6 : decode cX2_init 6 = .ok (.aload_n 2, 1) := by decide +kernel
theorem dX2_init_7 : decode cX2_init 7 = .ok (.putfield 9, 3) := by decide +kernel
theorem dX2_init_10 : decode cX2_init 10 = .ok (.aload_n 0, 1) := by decide +kernel
theorem dX2_init_11 : decode cX2_init 11 = .ok (.aload_n 3, 1) := by decide +kernel
theorem dX2_init_12 : decode cX2_init 12 = .ok (.putfield 15, 3) := by decide +kernel
theorem dX2_init_15 : decode cX2_init 15 = .ok (.aload_n 0, 1) := by decide +kernel
theorem dX2_init_16 : decode cX2_init 16 = .ok (.iload 4, 2) := by decide +kernel
theorem dX2_init_18 : decode cX2_init 18 = .ok (.putfield 19, 3) := by decide +kernel
theorem dX2_init_21 : decode cX2_init 21 = .ok (.aload_n 0, 1) := by decide +kernel
theorem dX2_init_22 : decode cX2_init 22 = .ok (.iload 5, 2) := by decide +kernel
theorem dX2_init_24 : decode cX2_init 24 = .ok (.putfield 23, 3) := by decide +kernel
theorem dX2_init_27 : decode cX2_init 27 = .ok (.aload_n 0, 1) := by decide +kernel
theorem dX2_init_28 : decode cX2_init 28 = .ok (.aload 6, 2) := by decide +kernel
theorem dX2_init_30 : decode cX2_init 30 = .ok (.putfield 26, 3) := by decide +kernel
theorem dX2_init_33 : decode cX2_init 33 = .ok (.return_, 1) := by decide +kernel
theorem dX2_size_0 : decode cX2_size 0 = .ok (.aload_n 0, 1) := by decide +kernel
theorem dX2_size_1 : decode cX2_size 1 = .ok (.getfield 9, 3) := by decide +kernel
theorem dX2_size_4 : decode cX2_size 4 = .ok (.getfield 30, 3) := by decide +kernel
theorem dX2_size_7 : decode cX2_size 7 = .ok (.ireturn, 1) := by decide +kernel
theorem dX2_isTree_0 : decode cX2_isTree 0 = .ok (.aload_n 0, 1) := by decide +kernel
theorem dX2_isTree_1 : decode cX2_isTree 1 = .ok (.getfield 35, 3) := by decide +kernel
theorem dX2_isTree_4 : decode cX2_isTree 4 = .ok (.iconst 2, 1) := by decide +kernel
theorem dX2_isTree_5 : decode cX2_isTree 5 = .ok (.if_icmp .lt 15, 3) := by decide +kernel
theorem dX2_isTree_8 : decode cX2_isTree 8 = .ok (.aload_n 0, 1) := by decide +kernel
theorem dX2_isTree_9 : decode cX2_isTree 9 = .ok (.getfield 35, 3) := by decide +kernel
theorem dX2_isTree_12 : decode cX2_isTree 12 = .ok (.iconst 4, 1) := by decide +kernel
theorem dX2_isTree_13 : decode cX2_isTree 13 = .ok (.if_icmp .gt 7, 3) := by decide +kernel
theorem dX2_isTree_16 : decode cX2_isTree 16 = .ok (.iconst 1, 1) := by decide +kernel
theorem dX2_isTree_17 : decode cX2_isTree 17 = .ok (.goto 4, 3) := by decide +kernel
theorem dX2_isTree_20 : decode cX2_isTree 20 = .ok (.iconst 0, 1) := by decide +kernel
theorem dX2_isTree_21 : decode cX2_isTree 21 = .ok (.ireturn, 1) := by decide +kernel
theorem dX2_lacksTable_0 : decode cX2_lacksTable 0 = .ok (.aload_n 0, 1) := by decide +kernel
theorem dX2_lacksTable_1 : decode cX2_lacksTable 1 = .ok (.getfield 15, 3) := by decide +kernel
theorem dX2_lacksTable_4 : decode cX2_lacksTable 4 = .ok (.ifnull 17, 3) := by decide +kernel
theorem dX2_lacksTable_7 : decode cX2_lacksTable 7 = .ok (.aload_n 0, 1) := by decide +kernel
theorem dX2_lacksTable_8 : decode cX2_lacksTable 8 = .ok (.getfield 15, 3) := by decide +kernel
theorem dX2_lacksTable_11 : decode cX2_lacksTable 11 = .ok (.invokevirtual 38, 3) := by decide +kernel
theorem dX2_lacksTable_14 : decode cX2_lacksTable 14 = .ok (.ifCond .eq 7, 3) := by decide +kernel
theorem dX2_lacksTable_17 : decode cX2_lacksTable 17 = .ok (.iconst 1, 1) := by decide +kernel
theorem dX2_lacksTable_18 : decode cX2_lacksTable 18 = .ok (.goto 4, 3) := by decide +kernel
theorem dX2_lacksTable_21 : decode cX2_lacksTable 21 = .ok (.iconst 0, 1) := by decide +kernel
theorem dX2_lacksTable_22 : decode cX2_lacksTable 22 = .ok (.ireturn, 1) := by decide +kernel
theorem dX2_lowBits_0 : decode cX2_lowBits 0 = .ok (.aload_n 0, 1) := by decide +kernel
theorem dX2_lowBits_1 : decode cX2_lowBits 1 = .ok (.getfield 35, 3) := by decide +kernel
theorem dX2_lowBits_4 : decode cX2_lowBits 4 = .ok (.iconst 5, 1) := by decide +kernel
theorem dX2_lowBits_5 : decode cX2_lowBits 5 = .ok (.if_icmp .ne 24, 3) := by decide +kernel
theorem dX2_lowBits_8 : decode cX2_lowBits 8 = .ok (.aload_n 0, 1) := by decide +kernel
theorem dX2_lowBits_9 : decode cX2_lowBits 9 = .ok (.getfield 9, 3) := by decide +kernel
theorem dX2_lowBits_12 : decode cX2_lowBits 12 = .ok (.getfield 30, 3) := by decide +kernel
theorem dX2_lowBits_15 : decode cX2_lowBits 15 = .ok (.bipush 64, 2) := by decide +kernel
theorem dX2_lowBits_17 : decode cX2_lowBits 17 = .ok (.aload_n 0, 1) := by decide +kernel
theorem dX2_lowBits_18 : decode cX2_lowBits 18 = .ok (.getfield 9, 3) := by decide +kernel
theorem dX2_lowBits_21 : decode cX2_lowBits 21 = .ok (.invokevirtual 44, 3) := by decide +kernel
theorem dX2_lowBits_24 : decode cX2_lowBits 24 = .ok (.isub, 1) := by decide +kernel
theorem dX2_lowBits_25 : decode cX2_lowBits 25 = .ok (.imul, 1) := by decide +kernel
theorem dX2_lowBits_26 : decode cX2_lowBits 26 = .ok (.goto 4, 3) := by decide +kernel
theorem dX2_lowBits_29 : decode cX2_lowBits 29 = .ok (.iconst 0, 1) := by decide +kernel
theorem dX2_lowBits_30 : decode cX2_lowBits 30 = .ok (.ireturn, 1) := by decide +kernel
theorem dX2_imageBytes_0 : decode cX2_imageBytes 0 = .ok (.iconst 2, 1) := by decide +kernel
theorem dX2_imageBytes_1 : decode cX2_imageBytes 1 = .ok (.aload_n 0, 1) := by decide +kernel
theorem dX2_imageBytes_2 : decode cX2_imageBytes 2 = .ok (.getfield 9, 3) := by decide +kernel
theorem dX2_imageBytes_5 : decode cX2_imageBytes 5 = .ok (.invokevirtual 48, 3) := by decide +kernel
theorem dX2_imageBytes_8 : decode cX2_imageBytes 8 = .ok (.iadd, 1) := by decide +kernel
theorem dX2_imageBytes_9 : decode cX2_imageBytes 9 = .ok (.aload_n 0, 1) := by decide +kernel
theorem dX2_imageBytes_10 : decode cX2_imageBytes 10 = .ok (.getfield 9, 3) := by decide +kernel
theorem dX2_imageBytes_13 : decode cX2_imageBytes 13 = .ok (.getfield 30, 3) := by decide +kernel
theorem dX2_imageBytes_16 : decode cX2_imageBytes 16 = .ok (.iconst 1, 1) := by decide +kernel
theorem dX2_imageBytes_17 : decode cX2_imageBytes 17 = .ok (.aload_n 0, 1) := by decide +kernel
theorem dX2_imageBytes_18 : decode cX2_imageBytes 18 = .ok (.getfield 9, 3) := by decide +kernel
theorem dX2_imageBytes_21 : decode cX2_imageBytes 21 = .ok (.invokevirtual 51, 3) := by decide +kernel
theorem dX2_imageBytes_24 : decode cX2_imageBytes 24 = .ok (.iadd, 1) := by decide +kernel
theorem dX2_imageBytes_25 : decode cX2_imageBytes 25 = .ok (.imul, 1) := by decide +kernel
theorem dX2_imageBytes_26 : decode cX2_imageBytes 26 = .ok (.iadd, 1) := by decide +kernel
theorem dX2_imageBytes_27 : decode cX2_imageBytes 27 = .ok (.iconst 2, 1) := by decide +kernel
theorem dX2_imageBytes_28 : decode cX2_imageBytes 28 = .ok (.iadd, 1) := by decide +kernel
theorem dX2_imageBytes_29 : decode cX2_imageBytes 29 = .ok (.ireturn, 1) := by decide +kernel
theorem dX2_edgeFrom_0 : decode cX2_edgeFrom 0 = .ok (.aload_n 0, 1) := by decide +kernel
theorem dX2_edgeFrom_1 : decode cX2_edgeFrom 1 = .ok (.getfield 15, 3) := by decide +kernel
theorem dX2_edgeFrom_4 : decode cX2_edgeFrom 4 = .ok (.ifnonnull 5, 3) := by decide +kernel
theorem dX2_edgeFrom_7 : decode cX2_edgeFrom 7 = .ok (.iconst (-1), 1) := by decide +kernel
theorem dX2_edgeFrom_8 : decode cX2_edgeFrom 8 = .ok (.ireturn, 1) := by decide +kernel
theorem dX2_edgeFrom_9 : decode cX2_edgeFrom 9 = .ok (.aload_n 0, 1) := by decide +kernel
theorem dX2_edgeFrom_10 : decode cX2_edgeFrom 10 = .ok (.getfield 15, 3) := by decide +kernel
theorem dX2_edgeFrom_13 : decode cX2_edgeFrom 13 = .ok (.aload_n 0, 1) := by decide +kernel
theorem dX2_edgeFrom_14 : decode cX2_edgeFrom 14 = .ok (.getfield 15, 3) := by decide +kernel
theorem dX2_edgeFrom_17 : decode cX2_edgeFrom 17 = .ok (.iload_n 1, 1) := by decide +kernel
theorem dX2_edgeFrom_18 : decode cX2_edgeFrom 18 = .ok (.invokevirtual 54, 3) := by decide +kernel
theorem dX2_edgeFrom_21 : decode cX2_edgeFrom 21 = .ok (.invokevirtual 58, 3) := by decide +kernel
theorem dX2_edgeFrom_24 : decode cX2_edgeFrom 24 = .ok (.istore_n 3, 1) := by decide +kernel
theorem dX2_edgeFrom_25 : decode cX2_edgeFrom 25 = .ok (.iload_n 3, 1) := by decide +kernel
theorem dX2_edgeFrom_26 : decode cX2_edgeFrom 26 = .ok (.aload_n 0, 1) := by decide +kernel
theorem dX2_edgeFrom_27 : decode cX2_edgeFrom 27 = .ok (.getfield 26, 3) := by decide +kernel
theorem dX2_edgeFrom_30 : decode cX2_edgeFrom 30 = .ok (.arraylength, 1) := by decide +kernel
theorem dX2_edgeFrom_31 : decode cX2_edgeFrom 31 = .ok (.if_icmp .ge 48, 3) := by decide +kernel
theorem dX2_edgeFrom_34 : decode cX2_edgeFrom 34 = .ok (.aload_n 0, 1) := by decide +kernel
theorem dX2_edgeFrom_35 : decode cX2_edgeFrom 35 = .ok (.getfield 15, 3) := by decide +kernel
theorem dX2_edgeFrom_38 : decode cX2_edgeFrom 38 = .ok (.iload_n 3, 1) := by decide +kernel
theorem dX2_edgeFrom_39 : decode cX2_edgeFrom 39 = .ok (.iload_n 1, 1) := by decide +kernel
theorem dX2_edgeFrom_40 : decode cX2_edgeFrom 40 = .ok (.iadd, 1) := by decide +kernel
theorem dX2_edgeFrom_41 : decode cX2_edgeFrom 41 = .ok (.invokevirtual 61, 3) := by decide +kernel
theorem dX2_edgeFrom_44 : decode cX2_edgeFrom 44 = .ok (.ifCond .eq 35, 3) := by decide +kernel
theorem dX2_edgeFrom_47 : decode cX2_edgeFrom 47 = .ok (.aload_n 0, 1) := by decide +kernel
theorem dX2_edgeFrom_48 : decode cX2_edgeFrom 48 = .ok (.getfield 15, 3) := by decide +kernel
theorem dX2_edgeFrom_51 : decode cX2_edgeFrom 51 = .ok (.iload_n 3, 1) := by decide +kernel
theorem dX2_edgeFrom_52 : decode cX2_edgeFrom 52 = .ok (.iload_n 1, 1) := by decide +kernel
theorem dX2_edgeFrom_53 : decode cX2_edgeFrom 53 = .ok (.iadd, 1) := by decide +kernel
theorem dX2_edgeFrom_54 : decode cX2_edgeFrom 54 = .ok (.invokevirtual 65, 3) := by decide +kernel
theorem dX2_edgeFrom_57 : decode cX2_edgeFrom 57 = .ok (.iconst 1, 1) := by decide +kernel
theorem dX2_edgeFrom_58 : decode cX2_edgeFrom 58 = .ok (.if_icmp .ne 21, 3) := by decide +kernel
theorem dX2_edgeFrom_61 : decode cX2_edgeFrom 61 = .ok (.aload_n 0, 1) := by decide +kernel
theorem dX2_edgeFrom_62 : decode cX2_edgeFrom 62 = .ok (.getfield 26, 3) := by decide +kernel
theorem dX2_edgeFrom_65 : decode cX2_edgeFrom 65 = .ok (.iload_n 3, 1) := by decide +kernel
theorem dX2_edgeFrom_66 : decode cX2_edgeFrom 66 = .ok (.iaload, 1) := by decide +kernel
theorem dX2_edgeFrom_67 : decode cX2_edgeFrom 67 = .ok (.iload_n 2, 1) := by decide +kernel
theorem dX2_edgeFrom_68 : decode cX2_edgeFrom 68 = .ok (.if_icmp .ne 5, 3) := by decide +kernel
theorem dX2_edgeFrom_71 : decode cX2_edgeFrom 71 = .ok (.iload_n 3, 1) := by decide +kernel
theorem dX2_edgeFrom_72 : decode cX2_edgeFrom 72 = .ok (.ireturn, 1) := by decide +kernel
theorem dX2_edgeFrom_73 : decode cX2_edgeFrom 73 = .ok (.iinc 3 1, 3) := by decide +kernel
theorem dX2_edgeFrom_76 : decode cX2_edgeFrom 76 = .ok (.goto (-51), 3) := by decide +kernel
theorem dX2_edgeFrom_79 : decode cX2_edgeFrom 79 = .ok (.iconst (-1), 1) := by decide +kernel
theorem dX2_edgeFrom_80 : decode cX2_edgeFrom 80 = .ok (.ireturn, 1) := by decide +kernel
theorem dX3_init_0 : decode cX3_init 0 = .ok (.aload_n 0, 1) := by decide +kernel
theorem dX3_init_1 : decode cX3_init 1 = .ok (.bipush 6, 2) := by decide +kernel
theorem dX3_init_3 : decode cX3_init 3 = .ok (.invokespecial 3, 3) := by decide +kernel
theorem dX3_init_6 : decode cX3_init 6 = .ok (.aload_n 0, 1) := by decide +kernel
theorem dX3_init_7 : decode cX3_init 7 = .ok (.aload_n 1, 1) := by decide +kernel
theorem dX3_init_8 : decode cX3_init 8 = .ok (.putfield 9, 3) := by decide +kernel
theorem dX3_init_11 : decode cX3_init 11 = .ok (.return_, 1) := by decide +kernel
theorem dX3_size_0 : decode cX3_size 0 = .ok (.aload_n 0, 1) := by decide +kernel
theorem dX3_size_1 : decode cX3_size 1 = .ok (.getfield 9, 3) := by decide +kernel
theorem dX3_size_4 : decode cX3_size 4 = .ok (.getfield 15, 3) := by decide +kernel
theorem dX3_size_7 : decode cX3_size 7 = .ok (.ireturn, 1) := by decide +kernel
theorem dX4_init_0 : decode cX4_init 0 = .ok (.aload_n 0, 1) := by decide +kernel
theorem dX4_init_1 : decode cX4_init 1 = .ok (.invokespecial 3, 3) := by decide +kernel
theorem dX4_init_4 : decode cX4_init 4 = .ok (.aload_n 0, 1) := by decide +kernel
theorem dX4_init_5 : decode cX4_init 5 = .ok (.iconst 0, 1) := by decide +kernel
theorem dX4_init_6 : decode cX4_init 6 = .ok (.putfield 9, 3) := by decide +kernel
theorem dX4_init_9 : decode cX4_init 9 = .ok (.aload_n 0, 1) := by decide +kernel
theorem dX4_init_10 : decode cX4_init 10 = .ok (.iload_n 1, 1) := by decide +kernel
theorem dX4_init_11 : decode cX4_init 11 = .ok (.anewarray 15, 3) := by decide +kernel
theorem dX4_init_14 : decode cX4_init 14 = .ok (.putfield 17, 3) := by decide +kernel
theorem dX4_init_17 : decode cX4_init 17 = .ok (.aload_n 0, 1) := by decide +kernel
theorem dX4_init_18 : decode cX4_init 18 = .ok (.iload_n 1, 1) := by decide +kernel
theorem dX4_init_19 : decode cX4_init 19 = .ok (.newarray .long, 2) := by decide +kernel
theorem dX4_init_21 : decode cX4_init 21 = .ok (.putfield 21, 3) := by decide +kernel
theorem dX4_init_24 : decode cX4_init 24 = .ok (.return_, 1) := by decide +kernel
theorem dX4_hasNumber_0 : decode cX4_hasNumber 0 = .ok (.iload_n 1, 1) := by decide +kernel
theorem dX4_hasNumber_1 : decode cX4_hasNumber 1 = .ok (.ifCond .lt 15, 3) := by decide +kernel
theorem dX4_hasNumber_4 : decode cX4_hasNumber 4 = .ok (.iload_n 1, 1) := by decide +kernel
theorem dX4_hasNumber_5 : decode cX4_hasNumber 5 = .ok (.aload_n 0, 1) := by decide +kernel
theorem dX4_hasNumber_6 : decode cX4_hasNumber 6 = .ok (.getfield 9, 3) := by decide +kernel
theorem dX4_hasNumber_9 : decode cX4_hasNumber 9 = .ok (.if_icmp .ge 7, 3) := by decide +kernel
theorem dX4_hasNumber_12 : decode cX4_hasNumber 12 = .ok (.iconst 1, 1) := by decide +kernel
theorem dX4_hasNumber_13 : decode cX4_hasNumber 13 = .ok (.goto 4, 3) := by decide +kernel
theorem dX4_hasNumber_16 : decode cX4_hasNumber 16 = .ok (.iconst 0, 1) := by decide +kernel
theorem dX4_hasNumber_17 : decode cX4_hasNumber 17 = .ok (.ireturn, 1) := by decide +kernel
theorem dX4_ahead_0 : decode cX4_ahead 0 = .ok (.iconst 0, 1) := by decide +kernel
theorem dX4_ahead_1 : decode cX4_ahead 1 = .ok (.istore_n 2, 1) := by decide +kernel
theorem dX4_ahead_2 : decode cX4_ahead 2 = .ok (.iload_n 2, 1) := by decide +kernel
theorem dX4_ahead_3 : decode cX4_ahead 3 = .ok (.aload_n 0, 1) := by decide +kernel
theorem dX4_ahead_4 : decode cX4_ahead 4 = .ok (.getfield 9, 3) := by decide +kernel
theorem dX4_ahead_7 : decode cX4_ahead 7 = .ok (.if_icmp .ge 22, 3) := by decide +kernel
theorem dX4_ahead_10 : decode cX4_ahead 10 = .ok (.aload_n 0, 1) := by decide +kernel
theorem dX4_ahead_11 : decode cX4_ahead 11 = .ok (.getfield 17, 3) := by decide +kernel
theorem dX4_ahead_14 : decode cX4_ahead 14 = .ok (.iload_n 2, 1) := by decide +kernel
theorem dX4_ahead_15 : decode cX4_ahead 15 = .ok (.aaload, 1) := by decide +kernel
theorem dX4_ahead_16 : decode cX4_ahead 16 = .ok (.aload_n 1, 1) := by decide +kernel
theorem dX4_ahead_17 : decode cX4_ahead 17 = .ok (.invokevirtual 25, 3) := by decide +kernel
theorem dX4_ahead_20 : decode cX4_ahead 20 = .ok (.ifCond .ge 9, 3) := by decide +kernel
theorem dX4_ahead_23 : decode cX4_ahead 23 = .ok (.iinc 2 1, 3) := by decide +kernel
theorem dX4_ahead_26 : decode cX4_ahead 26 = .ok (.goto (-24), 3) := by decide +kernel
theorem dX4_ahead_29 : decode cX4_ahead 29 = .ok (.iload_n 2, 1) := by decide +kernel
theorem dX4_ahead_30 : decode cX4_ahead 30 = .ok (.ireturn, 1) := by decide +kernel
theorem dX4_hasAt_0 : decode cX4_hasAt 0 = .ok (.aload_n 0, 1) := by decide +kernel
theorem dX4_hasAt_1 : decode cX4_hasAt 1 = .ok (.iload_n 1, 1) := by decide +kernel
theorem dX4_hasAt_2 : decode cX4_hasAt 2 = .ok (.invokevirtual 29, 3) := by decide +kernel
theorem dX4_hasAt_5 : decode cX4_hasAt 5 = .ok (.ifCond .eq 20, 3) := by decide +kernel
theorem dX4_hasAt_8 : decode cX4_hasAt 8 = .ok (.aload_n 0, 1) := by decide +kernel
theorem dX4_hasAt_9 : decode cX4_hasAt 9 = .ok (.getfield 17, 3) := by decide +kernel
theorem dX4_hasAt_12 : decode cX4_hasAt 12 = .ok (.iload_n 1, 1) := by decide +kernel
theorem dX4_hasAt_13 : decode cX4_hasAt 13 = .ok (.aaload, 1) := by decide +kernel
theorem dX4_hasAt_14 : decode cX4_hasAt 14 = .ok (.aload_n 2, 1) := by decide +kernel
theorem dX4_hasAt_15 : decode cX4_hasAt 15 = .ok (.invokevirtual 25, 3) := by decide +kernel
theorem dX4_hasAt_18 : decode cX4_hasAt 18 = .ok (.ifCond .ne 7, 3) := by decide +kernel
theorem dX4_hasAt_21 : decode cX4_hasAt 21 = .ok (.iconst 1, 1) := by decide +kernel
theorem dX4_hasAt_22 : decode cX4_hasAt 22 = .ok (.goto 4, 3) := by decide +kernel
theorem dX4_hasAt_25 : decode cX4_hasAt 25 = .ok (.iconst 0, 1) := by decide +kernel
theorem dX4_hasAt_26 : decode cX4_hasAt 26 = .ok (.ireturn, 1) := by decide +kernel
theorem dX4_pastBeginningWith_0 : decode cX4_pastBeginningWith 0 = .ok (.iload_n 1, 1) := by decide +kernel
theorem dX4_pastBeginningWith_1 : decode cX4_pastBeginningWith 1 = .ok (.iconst 0, 1) := by decide +kernel
theorem dX4_pastBeginningWith_2 : decode cX4_pastBeginningWith 2 = .ok (.invokestatic 33, 3) := by decide +kernel
theorem dX4_pastBeginningWith_5 : decode cX4_pastBeginningWith 5 = .ok (.istore_n 3, 1) := by decide +kernel
theorem dX4_pastBeginningWith_6 : decode cX4_pastBeginningWith 6 = .ok (.iload_n 3, 1) := by decide +kernel
theorem dX4_pastBeginningWith_7 : decode cX4_pastBeginningWith 7 = .ok (.aload_n 0, 1) := by decide +kernel
theorem dX4_pastBeginningWith_8 : decode cX4_pastBeginningWith 8 = .ok (.getfield 9, 3) := by decide +kernel
theorem dX4_pastBeginningWith_11 : decode cX4_pastBeginningWith 11 = .ok (.if_icmp .ge 22, 3) := by decide +kernel
theorem dX4_pastBeginningWith_14 : decode cX4_pastBeginningWith 14 = .ok (.aload_n 0, 1) := by decide +kernel
theorem dX4_pastBeginningWith_15 : decode cX4_pastBeginningWith 15 = .ok (.getfield 17, 3) := by decide +kernel
theorem dX4_pastBeginningWith_18 : decode cX4_pastBeginningWith 18 = .ok (.iload_n 3, 1) := by decide +kernel
theorem dX4_pastBeginningWith_19 : decode cX4_pastBeginningWith 19 = .ok (.aaload, 1) := by decide +kernel
theorem dX4_pastBeginningWith_20 : decode cX4_pastBeginningWith 20 = .ok (.aload_n 2, 1) := by decide +kernel
theorem dX4_pastBeginningWith_21 : decode cX4_pastBeginningWith 21 = .ok (.invokevirtual 39, 3) := by decide +kernel
theorem dX4_pastBeginningWith_24 : decode cX4_pastBeginningWith 24 = .ok (.ifCond .eq 9, 3) := by decide +kernel
theorem dX4_pastBeginningWith_27 : decode cX4_pastBeginningWith 27 = .ok (.iinc 3 1, 3) := by decide +kernel
theorem dX4_pastBeginningWith_30 : decode cX4_pastBeginningWith 30 = .ok (.goto (-24), 3) := by decide +kernel
theorem dX4_pastBeginningWith_33 : decode cX4_pastBeginningWith 33 = .ok (.iload_n 3, 1) := by decide +kernel
theorem dX4_pastBeginningWith_34 : decode cX4_pastBeginningWith 34 = .ok (.ireturn, 1) := by decide +kernel
theorem dX4_longestWithin_0 : decode cX4_longestWithin 0 = .ok (.aload_n 0, 1) := by decide +kernel
theorem dX4_longestWithin_1 : decode cX4_longestWithin 1 = .ok (.getfield 9, 3) := by decide +kernel
theorem dX4_longestWithin_4 : decode cX4_longestWithin 4 = .ok (.iconst 1, 1) := by decide +kernel
theorem dX4_longestWithin_5 : decode cX4_longestWithin 5 = .ok (.isub, 1) := by decide +kernel
theorem dX4_longestWithin_6 : decode cX4_longestWithin 6 = .ok (.istore_n 2, 1) := by decide +kernel
theorem dX4_longestWithin_7 : decode cX4_longestWithin 7 = .ok (.iload_n 2, 1) := by decide +kernel
theorem dX4_longestWithin_8 : decode cX4_longestWithin 8 = .ok (.ifCond .lt 24, 3) := by decide +kernel
theorem dX4_longestWithin_11 : decode cX4_longestWithin 11 = .ok (.aload_n 1, 1) := by decide +kernel
theorem dX4_longestWithin_12 : decode cX4_longestWithin 12 = .ok (.aload_n 0, 1) := by decide +kernel
theorem dX4_longestWithin_13 : decode cX4_longestWithin 13 = .ok (.getfield 17, 3) := by decide +kernel
theorem dX4_longestWithin_16 : decode cX4_longestWithin 16 = .ok (.iload_n 2, 1) := by decide +kernel
theorem dX4_longestWithin_17 : decode cX4_longestWithin 17 = .ok (.aaload, 1) := by decide +kernel
theorem dX4_longestWithin_18 : decode cX4_longestWithin 18 = .ok (.invokevirtual 39, 3) := by decide +kernel
theorem dX4_longestWithin_21 : decode cX4_longestWithin 21 = .ok (.ifCond .eq 5, 3) := by decide +kernel
theorem dX4_longestWithin_24 : decode cX4_longestWithin 24 = .ok (.iload_n 2, 1) := by decide +kernel
theorem dX4_longestWithin_25 : decode cX4_longestWithin 25 = .ok (.ireturn, 1) := by decide +kernel
theorem dX4_longestWithin_26 : decode cX4_longestWithin 26 = .ok (.iinc 2 (-1), 3) := by decide +kernel
theorem dX4_longestWithin_29 : decode cX4_longestWithin 29 = .ok (.goto (-22), 3) := by decide +kernel
theorem dX4_longestWithin_32 : decode cX4_longestWithin 32 = .ok (.iconst (-1), 1) := by decide +kernel
theorem dX4_longestWithin_33 : decode cX4_longestWithin 33 = .ok (.ireturn, 1) := by decide +kernel
theorem dX4_enter_0 : decode cX4_enter 0 = .ok (.aload_n 0, 1) := by decide +kernel
theorem dX4_enter_1 : decode cX4_enter 1 = .ok (.aload_n 1, 1) := by decide +kernel
theorem dX4_enter_2 : decode cX4_enter 2 = .ok (.invokevirtual 43, 3) := by decide +kernel
theorem dX4_enter_5 : decode cX4_enter 5 = .ok (.istore 4, 2) := by decide +kernel
theorem dX4_enter_7 : decode cX4_enter 7 = .ok (.aload_n 0, 1) := by decide +kernel
theorem dX4_enter_8 : decode cX4_enter 8 = .ok (.iload 4, 2) := by decide +kernel
theorem dX4_enter_10 : decode cX4_enter 10 = .ok (.aload_n 1, 1) := by decide +kernel
theorem dX4_enter_11 : decode cX4_enter 11 = .ok (.invokevirtual 46, 3) := by decide +kernel
theorem dX4_enter_14 : decode cX4_enter 14 = .ok (.ifCond .eq 13, 3) := by decide +kernel
theorem dX4_enter_17 : decode cX4_enter 17 = .ok (.aload_n 0, 1) := by decide +kernel
theorem dX4_enter_18 : decode cX4_enter 18 = .ok (.getfield 21, 3) := by decide +kernel
theorem dX4_enter_21 : decode cX4_enter 21 = .ok (.iload 4, 2) := by decide +kernel
theorem dX4_enter_23 : decode cX4_enter 23 = .ok (.lload_n 2, 1) := by decide +kernel
theorem dX4_enter_24 : decode cX4_enter 24 = .ok (.lastore, 1) := by decide +kernel
theorem dX4_enter_25 : decode cX4_enter 25 = .ok (.iconst 0, 1) := by decide +kernel
theorem dX4_enter_26 : decode cX4_enter 26 = .ok (.ireturn, 1) := by decide +kernel
theorem dX4_enter_27 : decode cX4_enter 27 = .ok (.aload_n 0, 1) := by decide +kernel
theorem dX4_enter_28 : decode cX4_enter 28 = .ok (.getfield 9, 3) := by decide +kernel
theorem dX4_enter_31 : decode cX4_enter 31 = .ok (.aload_n 0, 1) := by decide +kernel
theorem dX4_enter_32 : decode cX4_enter 32 = .ok (.getfield 17, 3) := by decide +kernel
theorem dX4_enter_35 : decode cX4_enter 35 = .ok (.arraylength, 1) := by decide +kernel
theorem dX4_enter_36 : decode cX4_enter 36 = .ok (.if_icmp .lt 6, 3) := by decide +kernel
theorem dX4_enter_39 : decode cX4_enter 39 = .ok (.bipush (-7), 2) := by decide +kernel
theorem dX4_enter_41 : decode cX4_enter 41 = .ok (.ireturn, 1) := by decide +kernel
theorem dX4_enter_42 : decode cX4_enter 42 = .ok (.aload_n 0, 1) := by decide +kernel
theorem dX4_enter_43 : decode cX4_enter 43 = .ok (.getfield 9, 3) := by decide +kernel
theorem dX4_enter_46 : decode cX4_enter 46 = .ok (.istore 5, 2) := by decide +kernel
theorem dX4_enter_48 : decode cX4_enter 48 = .ok (.iload 5, 2) := by decide +kernel
theorem dX4_enter_50 : decode cX4_enter 50 = .ok (.iload 4, 2) := by decide +kernel
theorem dX4_enter_52 : decode cX4_enter 52 = .ok (.if_icmp .le 41, 3) := by decide +kernel
theorem dX4_enter_55 : decode cX4_enter 55 = .ok (.aload_n 0, 1) := by decide +kernel
theorem dX4_enter_56 : decode cX4_enter 56 = .ok (.getfield 17, 3) := by decide +kernel
theorem dX4_enter_59 : decode cX4_enter 59 = .ok (.iload 5, 2) := by decide +kernel
theorem dX4_enter_61 : decode cX4_enter 61 = .ok (.aload_n 0, 1) := by decide +kernel
theorem dX4_enter_62 : decode cX4_enter 62 = .ok (.getfield 17, 3) := by decide +kernel
theorem dX4_enter_65 : decode cX4_enter 65 = .ok (.iload 5, 2) := by decide +kernel
theorem dX4_enter_67 : decode cX4_enter 67 = .ok (.iconst 1, 1) := by decide +kernel
theorem dX4_enter_68 : decode cX4_enter 68 = .ok (.isub, 1) := by decide +kernel
theorem dX4_enter_69 : decode cX4_enter 69 = .ok (.aaload, 1) := by decide +kernel
theorem dX4_enter_70 : decode cX4_enter 70 = .ok (.aastore, 1) := by decide +kernel
theorem dX4_enter_71 : decode cX4_enter 71 = .ok (.aload_n 0, 1) := by decide +kernel
theorem dX4_enter_72 : decode cX4_enter 72 = .ok (.getfield 21, 3) := by decide +kernel
theorem dX4_enter_75 : decode cX4_enter 75 = .ok (.iload 5, 2) := by decide +kernel
theorem dX4_enter_77 : decode cX4_enter 77 = .ok (.aload_n 0, 1) := by decide +kernel
theorem dX4_enter_78 : decode cX4_enter 78 = .ok (.getfield 21, 3) := by decide +kernel
theorem dX4_enter_81 : decode cX4_enter 81 = .ok (.iload 5, 2) := by decide +kernel
theorem dX4_enter_83 : decode cX4_enter 83 = .ok (.iconst 1, 1) := by decide +kernel
theorem dX4_enter_84 : decode cX4_enter 84 = .ok (.isub, 1) := by decide +kernel
theorem dX4_enter_85 : decode cX4_enter 85 = .ok (.laload, 1) := by decide +kernel
theorem dX4_enter_86 : decode cX4_enter 86 = .ok (.lastore, 1) := by decide +kernel
theorem dX4_enter_87 : decode cX4_enter 87 = .ok (.iinc 5 (-1), 3) := by decide +kernel
theorem dX4_enter_90 : decode cX4_enter 90 = .ok (.goto (-42), 3) := by decide +kernel
theorem dX4_enter_93 : decode cX4_enter 93 = .ok (.aload_n 0, 1) := by decide +kernel
theorem dX4_enter_94 : decode cX4_enter 94 = .ok (.getfield 17, 3) := by decide +kernel
theorem dX4_enter_97 : decode cX4_enter 97 = .ok (.iload 4, 2) := by decide +kernel
theorem dX4_enter_99 : decode cX4_enter 99 = .ok (.aload_n 1, 1) := by decide +kernel
theorem dX4_enter_100 : decode cX4_enter 100 = .ok (.aastore, 1) := by decide +kernel
theorem dX4_enter_101 : decode cX4_enter 101 = .ok (.aload_n 0, 1) := by decide +kernel
theorem dX4_enter_102 : decode cX4_enter 102 = .ok (.getfield 21, 3) := by decide +kernel
theorem dX4_enter_105 : decode cX4_enter 105 = .ok (.iload 4, 2) := by decide +kernel
theorem dX4_enter_107 : decode cX4_enter 107 = .ok (.lload_n 2, 1) := by decide +kernel
theorem dX4_enter_108 : decode cX4_enter 108 = .ok (.lastore, 1) := by decide +kernel
theorem dX4_enter_109 : decode cX4_enter 109 = .ok (.aload_n 0, 1) := by decide +kernel
theorem dX4_enter_110 : decode cX4_enter 110 = .ok (.dup, 1) := by decide +kernel
theorem dX4_enter_111 : decode cX4_enter 111 = .ok (.getfield 9, 3) := by decide +kernel
theorem dX4_enter_114 : decode cX4_enter 114 = .ok (.iconst 1, 1) := by decide +kernel
theorem dX4_enter_115 : decode cX4_enter 115 = .ok (.iadd, 1) := by decide +kernel
theorem dX4_enter_116 : decode cX4_enter 116 = .ok (.putfield 9, 3) := by decide +kernel
theorem dX4_enter_119 : decode cX4_enter 119 = .ok (.iconst 1, 1) := by decide +kernel
theorem dX4_enter_120 : decode cX4_enter 120 = .ok (.ireturn, 1) := by decide +kernel
theorem dX4_strike_0 : decode cX4_strike 0 = .ok (.aload_n 0, 1) := by decide +kernel
theorem dX4_strike_1 : decode cX4_strike 1 = .ok (.aload_n 1, 1) := by decide +kernel
theorem dX4_strike_2 : decode cX4_strike 2 = .ok (.invokevirtual 43, 3) := by decide +kernel
theorem dX4_strike_5 : decode cX4_strike 5 = .ok (.istore_n 2, 1) := by decide +kernel
theorem dX4_strike_6 : decode cX4_strike 6 = .ok (.aload_n 0, 1) := by decide +kernel
theorem dX4_strike_7 : decode cX4_strike 7 = .ok (.iload_n 2, 1) := by decide +kernel
theorem dX4_strike_8 : decode cX4_strike 8 = .ok (.aload_n 1, 1) := by decide +kernel
theorem dX4_strike_9 : decode cX4_strike 9 = .ok (.invokevirtual 46, 3) := by decide +kernel
theorem dX4_strike_12 : decode cX4_strike 12 = .ok (.ifCond .ne 5, 3) := by decide +kernel
theorem dX4_strike_15 : decode cX4_strike 15 = .ok (.iconst 0, 1) := by decide +kernel
theorem dX4_strike_16 : decode cX4_strike 16 = .ok (.ireturn, 1) := by decide +kernel
theorem dX4_strike_17 : decode cX4_strike 17 = .ok (.aload_n 0, 1) := by decide +kernel
theorem dX4_strike_18 : decode cX4_strike 18 = .ok (.dup, 1) := by decide +kernel
theorem dX4_strike_19 : decode cX4_strike 19 = .ok (.getfield 9, 3) := by decide +kernel
theorem dX4_strike_22 : decode cX4_strike 22 = .ok (.iconst 1, 1) := by decide +kernel
theorem dX4_strike_23 : decode cX4_strike 23 = .ok (.isub, 1) := by decide +kernel
theorem dX4_strike_24 : decode cX4_strike 24 = .ok (.putfield 9, 3) := by decide +kernel
theorem dX4_strike_27 : decode cX4_strike 27 = .ok (.iload_n 2, 1) := by decide +kernel
theorem dX4_strike_28 : decode cX4_strike 28 = .ok (.istore_n 3, 1) := by decide +kernel
theorem dX4_strike_29 : decode cX4_strike 29 = .ok (.iload_n 3, 1) := by decide +kernel
theorem dX4_strike_30 : decode cX4_strike 30 = .ok (.aload_n 0, 1) := by decide +kernel
theorem dX4_strike_31 : decode cX4_strike 31 = .ok (.getfield 9, 3) := by decide +kernel
theorem dX4_strike_34 : decode cX4_strike 34 = .ok (.if_icmp .ge 37, 3) := by decide +kernel
theorem dX4_strike_37 : decode cX4_strike 37 = .ok (.aload_n 0, 1) := by decide +kernel
theorem dX4_strike_38 : decode cX4_strike 38 = .ok (.getfield 17, 3) := by decide +kernel
theorem dX4_strike_41 : decode cX4_strike 41 = .ok (.iload_n 3, 1) := by decide +kernel
theorem dX4_strike_42 : decode cX4_strike 42 = .ok (.aload_n 0, 1) := by decide +kernel
theorem dX4_strike_43 : decode cX4_strike 43 = .ok (.getfield 17, 3) := by decide +kernel
theorem dX4_strike_46 : decode cX4_strike 46 = .ok (.iload_n 3, 1) := by decide +kernel
theorem dX4_strike_47 : decode cX4_strike 47 = .ok (.iconst 1, 1) := by decide +kernel
theorem dX4_strike_48 : decode cX4_strike 48 = .ok (.iadd, 1) := by decide +kernel
theorem dX4_strike_49 : decode cX4_strike 49 = .ok (.aaload, 1) := by decide +kernel
theorem dX4_strike_50 : decode cX4_strike 50 = .ok (.aastore, 1) := by decide +kernel
theorem dX4_strike_51 : decode cX4_strike 51 = .ok (.aload_n 0, 1) := by decide +kernel
theorem dX4_strike_52 : decode cX4_strike 52 = .ok (.getfield 21, 3) := by decide +kernel
theorem dX4_strike_55 : decode cX4_strike 55 = .ok (.iload_n 3, 1) := by decide +kernel
theorem dX4_strike_56 : decode cX4_strike 56 = .ok (.aload_n 0, 1) := by decide +kernel
theorem dX4_strike_57 : decode cX4_strike 57 = .ok (.getfield 21, 3) := by decide +kernel
theorem dX4_strike_60 : decode cX4_strike 60 = .ok (.iload_n 3, 1) := by decide +kernel
theorem dX4_strike_61 : decode cX4_strike 61 = .ok (.iconst 1, 1) := by decide +kernel
theorem dX4_strike_62 : decode cX4_strike 62 = .ok (.iadd, 1) := by decide +kernel
theorem dX4_strike_63 : decode cX4_strike 63 = .ok (.laload, 1) := by decide +kernel
theorem dX4_strike_64 : decode cX4_strike 64 = .ok (.lastore, 1) := by decide +kernel
theorem dX4_strike_65 : decode cX4_strike 65 = .ok (.iinc 3 1, 3) := by decide +kernel
theorem dX4_strike_68 : decode cX4_strike 68 = .ok (.goto (-39), 3) := by decide +kernel
theorem dX4_strike_71 : decode cX4_strike 71 = .ok (.aload_n 0, 1) := by decide +kernel
theorem dX4_strike_72 : decode cX4_strike 72 = .ok (.getfield 17, 3) := by decide +kernel
theorem dX4_strike_75 : decode cX4_strike 75 = .ok (.aload_n 0, 1) := by decide +kernel
theorem dX4_strike_76 : decode cX4_strike 76 = .ok (.getfield 9, 3) := by decide +kernel
theorem dX4_strike_79 : decode cX4_strike 79 = .ok (.aconst_null, 1) := by decide +kernel
theorem dX4_strike_80 : decode cX4_strike 80 = .ok (.aastore, 1) := by decide +kernel
theorem dX4_strike_81 : decode cX4_strike 81 = .ok (.iconst 1, 1) := by decide +kernel
theorem dX4_strike_82 : decode cX4_strike 82 = .ok (.ireturn, 1) := by decide +kernel
theorem dX4_append_0 : decode cX4_append 0 = .ok (.aload_n 0, 1) := by decide +kernel
theorem dX4_append_1 : decode cX4_append 1 = .ok (.getfield 9, 3) := by decide +kernel
theorem dX4_append_4 : decode cX4_append 4 = .ok (.aload_n 0, 1) := by decide +kernel
theorem dX4_append_5 : decode cX4_append 5 = .ok (.getfield 17, 3) := by decide +kernel
theorem dX4_append_8 : decode cX4_append 8 = .ok (.arraylength, 1) := by decide +kernel
theorem dX4_append_9 : decode cX4_append 9 = .ok (.if_icmp .lt 7, 3) := by decide +kernel
theorem dX4_append_12 : decode cX4_append 12 = .ok (.iconst 1, 1) := by decide +kernel
theorem dX4_append_13 : decode cX4_append 13 = .ok (.goto 4, 3) := by decide +kernel
theorem dX4_append_16 : decode cX4_append 16 = .ok (.iconst 0, 1) := by decide +kernel
theorem dX4_append_17 : decode cX4_append 17 = .ok (.istore 4, 2) := by decide +kernel
theorem dX4_append_19 : decode cX4_append 19 = .ok (.aload_n 0, 1) := by decide +kernel
theorem dX4_append_20 : decode cX4_append 20 = .ok (.getfield 9, 3) := by decide +kernel
theorem dX4_append_23 : decode cX4_append 23 = .ok (.ifCond .eq 21, 3) := by decide +kernel
theorem dX4_append_26 : decode cX4_append 26 = .ok (.aload_n 0, 1) := by decide +kernel
theorem dX4_append_27 : decode cX4_append 27 = .ok (.getfield 17, 3) := by decide +kernel
theorem dX4_append_30 : decode cX4_append 30 = .ok (.aload_n 0, 1) := by decide +kernel
theorem dX4_append_31 : decode cX4_append 31 = .ok (.getfield 9, 3) := by decide +kernel
theorem dX4_append_34 : decode cX4_append 34 = .ok (.iconst 1, 1) := by decide +kernel
theorem dX4_append_35 : decode cX4_append 35 = .ok (.isub, 1) := by decide +kernel
theorem dX4_append_36 : decode cX4_append 36 = .ok (.aaload, 1) := by decide +kernel
theorem dX4_append_37 : decode cX4_append 37 = .ok (.aload_n 1, 1) := by decide +kernel
theorem dX4_append_38 : decode cX4_append 38 = .ok (.invokevirtual 25, 3) := by decide +kernel
theorem dX4_append_41 : decode cX4_append 41 = .ok (.ifCond .ge 7, 3) := by decide +kernel
theorem dX4_append_44 : decode cX4_append 44 = .ok (.iconst 1, 1) := by decide +kernel
theorem dX4_append_45 : decode cX4_append 45 = .ok (.goto 4, 3) := by decide +kernel
theorem dX4_append_48 : decode cX4_append 48 = .ok (.iconst 0, 1) := by decide +kernel
theorem dX4_append_49 : decode cX4_append 49 = .ok (.istore 5, 2) := by decide +kernel
theorem dX4_append_51 : decode cX4_append 51 = .ok (.iload 4, 2) := by decide +kernel
theorem dX4_append_53 : decode cX4_append 53 = .ok (.ifCond .ne 8, 3) := by decide +kernel
theorem dX4_append_56 : decode cX4_append 56 = .ok (.iload 5, 2) := by decide +kernel
theorem dX4_append_58 : decode cX4_append 58 = .ok (.ifCond .ne 5, 3) := by decide +kernel
theorem dX4_append_61 : decode cX4_append 61 = .ok (.iconst 0, 1) := by decide +kernel
theorem dX4_append_62 : decode cX4_append 62 = .ok (.ireturn, 1) := by decide +kernel
theorem dX4_append_63 : decode cX4_append 63 = .ok (.aload_n 0, 1) := by decide +kernel
theorem dX4_append_64 : decode cX4_append 64 = .ok (.getfield 17, 3) := by decide +kernel
theorem dX4_append_67 : decode cX4_append 67 = .ok (.aload_n 0, 1) := by decide +kernel
theorem dX4_append_68 : decode cX4_append 68 = .ok (.getfield 9, 3) := by decide +kernel
theorem dX4_append_71 : decode cX4_append 71 = .ok (.aload_n 1, 1) := by decide +kernel
theorem dX4_append_72 : decode cX4_append 72 = .ok (.aastore, 1) := by decide +kernel
theorem dX4_append_73 : decode cX4_append 73 = .ok (.aload_n 0, 1) := by decide +kernel
theorem dX4_append_74 : decode cX4_append 74 = .ok (.getfield 21, 3) := by decide +kernel
theorem dX4_append_77 : decode cX4_append 77 = .ok (.aload_n 0, 1) := by decide +kernel
theorem dX4_append_78 : decode cX4_append 78 = .ok (.getfield 9, 3) := by decide +kernel
theorem dX4_append_81 : decode cX4_append 81 = .ok (.lload_n 2, 1) := by decide +kernel
theorem dX4_append_82 : decode cX4_append 82 = .ok (.lastore, 1) := by decide +kernel
theorem dX4_append_83 : decode cX4_append 83 = .ok (.aload_n 0, 1) := by decide +kernel
theorem dX4_append_84 : decode cX4_append 84 = .ok (.dup, 1) := by decide +kernel
theorem dX4_append_85 : decode cX4_append 85 = .ok (.getfield 9, 3) := by decide +kernel
theorem dX4_append_88 : decode cX4_append 88 = .ok (.iconst 1, 1) := by decide +kernel
theorem dX4_append_89 : decode cX4_append 89 = .ok (.iadd, 1) := by decide +kernel
theorem dX4_append_90 : decode cX4_append 90 = .ok (.putfield 9, 3) := by decide +kernel
theorem dX4_append_93 : decode cX4_append 93 = .ok (.iconst 1, 1) := by decide +kernel
theorem dX4_append_94 : decode cX4_append 94 = .ok (.ireturn, 1) := by decide +kernel
theorem dX4_copyWithRoom_0 : decode cX4_copyWithRoom 0 = .ok (.new 10, 3) := by decide +kernel
theorem dX4_copyWithRoom_3 : decode cX4_copyWithRoom 3 = .ok (.dup, 1) := by decide +kernel
theorem dX4_copyWithRoom_4 : decode cX4_copyWithRoom 4 = .ok (.iload_n 1, 1) := by decide +kernel
theorem dX4_copyWithRoom_5 : decode cX4_copyWithRoom 5 = .ok (.aload_n 0, 1) := by decide +kernel
theorem dX4_copyWithRoom_6 : decode cX4_copyWithRoom 6 = .ok (.getfield 9, 3) := by decide +kernel
theorem dX4_copyWithRoom_9 : decode cX4_copyWithRoom 9 = .ok (.invokestatic 33, 3) := by decide +kernel
theorem dX4_copyWithRoom_12 : decode cX4_copyWithRoom 12 = .ok (.invokespecial 50, 3) := by decide +kernel
theorem dX4_copyWithRoom_15 : decode cX4_copyWithRoom 15 = .ok (.astore_n 2, 1) := by decide +kernel
theorem dX4_copyWithRoom_16 : decode cX4_copyWithRoom 16 = .ok (.iconst 0, 1) := by decide +kernel
theorem dX4_copyWithRoom_17 : decode cX4_copyWithRoom 17 = .ok (.istore_n 3, 1) := by decide +kernel
theorem dX4_copyWithRoom_18 : decode cX4_copyWithRoom 18 = .ok (.iload_n 3, 1) := by decide +kernel
theorem dX4_copyWithRoom_19 : decode cX4_copyWithRoom 19 = .ok (.aload_n 0, 1) := by decide +kernel
theorem dX4_copyWithRoom_20 : decode cX4_copyWithRoom 20 = .ok (.getfield 9, 3) := by decide +kernel
theorem dX4_copyWithRoom_23 : decode cX4_copyWithRoom 23 = .ok (.if_icmp .ge 33, 3) := by decide +kernel
theorem dX4_copyWithRoom_26 : decode cX4_copyWithRoom 26 = .ok (.aload_n 2, 1) := by decide +kernel
theorem dX4_copyWithRoom_27 : decode cX4_copyWithRoom 27 = .ok (.getfield 17, 3) := by decide +kernel
theorem dX4_copyWithRoom_30 : decode cX4_copyWithRoom 30 = .ok (.iload_n 3, 1) := by decide +kernel
theorem dX4_copyWithRoom_31 : decode cX4_copyWithRoom 31 = .ok (.aload_n 0, 1) := by decide +kernel
theorem dX4_copyWithRoom_32 : decode cX4_copyWithRoom 32 = .ok (.getfield 17, 3) := by decide +kernel
theorem dX4_copyWithRoom_35 : decode cX4_copyWithRoom 35 = .ok (.iload_n 3, 1) := by decide +kernel
theorem dX4_copyWithRoom_36 : decode cX4_copyWithRoom 36 = .ok (.aaload, 1) := by decide +kernel
theorem dX4_copyWithRoom_37 : decode cX4_copyWithRoom 37 = .ok (.aastore, 1) := by decide +kernel
theorem dX4_copyWithRoom_38 : decode cX4_copyWithRoom 38 = .ok (.aload_n 2, 1) := by decide +kernel
theorem dX4_copyWithRoom_39 : decode cX4_copyWithRoom 39 = .ok (.getfield 21, 3) := by decide +kernel
theorem dX4_copyWithRoom_42 : decode cX4_copyWithRoom 42 = .ok (.iload_n 3, 1) := by decide +kernel
theorem dX4_copyWithRoom_43 : decode cX4_copyWithRoom 43 = .ok (.aload_n 0, 1) := by decide +kernel
theorem dX4_copyWithRoom_44 : decode cX4_copyWithRoom 44 = .ok (.getfield 21, 3) := by decide +kernel
theorem dX4_copyWithRoom_47 : decode cX4_copyWithRoom 47 = .ok (.iload_n 3, 1) := by decide +kernel
theorem dX4_copyWithRoom_48 : decode cX4_copyWithRoom 48 = .ok (.laload, 1) := by decide +kernel
theorem dX4_copyWithRoom_49 : decode cX4_copyWithRoom 49 = .ok (.lastore, 1) := by decide +kernel
theorem dX4_copyWithRoom_50 : decode cX4_copyWithRoom 50 = .ok (.iinc 3 1, 3) := by decide +kernel
theorem dX4_copyWithRoom_53 : decode cX4_copyWithRoom 53 = .ok (.goto (-35), 3) := by decide +kernel
theorem dX4_copyWithRoom_56 : decode cX4_copyWithRoom 56 = .ok (.aload_n 2, 1) := by decide +kernel
theorem dX4_copyWithRoom_57 : decode cX4_copyWithRoom 57 = .ok (.aload_n 0, 1) := by decide +kernel
theorem dX4_copyWithRoom_58 : decode cX4_copyWithRoom 58 = .ok (.getfield 9, 3) := by decide +kernel
theorem dX4_copyWithRoom_61 : decode cX4_copyWithRoom 61 = .ok (.putfield 9, 3) := by decide +kernel
theorem dX4_copyWithRoom_64 : decode cX4_copyWithRoom 64 = .ok (.aload_n 2, 1) := by decide +kernel
theorem dX4_copyWithRoom_65 : decode cX4_copyWithRoom 65 = .ok (.areturn, 1) := by decide +kernel
theorem dX4_takeMerged_0 : decode cX4_takeMerged 0 = .ok (.aload_n 0, 1) := by decide +kernel
theorem dX4_takeMerged_1 : decode cX4_takeMerged 1 = .ok (.iconst 0, 1) := by decide +kernel
theorem dX4_takeMerged_2 : decode cX4_takeMerged 2 = .ok (.putfield 9, 3) := by decide +kernel
theorem dX4_takeMerged_5 : decode cX4_takeMerged 5 = .ok (.iconst 0, 1) := by decide +kernel
theorem dX4_takeMerged_6 : decode cX4_takeMerged 6 = .ok (.istore 4, 2) := by decide +kernel
theorem dX4_takeMerged_8 : decode cX4_takeMerged 8 = .ok (.iconst 0, 1) := by decide +kernel
theorem dX4_takeMerged_9 : decode cX4_takeMerged 9 = .ok (.istore 5, 2) := by decide +kernel
theorem dX4_takeMerged_11 : decode cX4_takeMerged 11 = .ok (.iconst 0, 1) := by decide +kernel
theorem dX4_takeMerged_12 : decode cX4_takeMerged 12 = .ok (.istore 6, 2) := by decide +kernel
theorem dX4_takeMerged_14 : decode cX4_takeMerged 14 = .ok (.iload 6, 2) := by decide +kernel
theorem dX4_takeMerged_16 : decode cX4_takeMerged 16 = .ok (.sipush 200, 3) := by decide +kernel
theorem dX4_takeMerged_19 : decode cX4_takeMerged 19 = .ok (.if_icmp .ge 171, 3) := by decide +kernel
theorem dX4_takeMerged_22 : decode cX4_takeMerged 22 = .ok (.aload_n 1, 1) := by decide +kernel
theorem dX4_takeMerged_23 : decode cX4_takeMerged 23 = .ok (.iload 4, 2) := by decide +kernel
theorem dX4_takeMerged_25 : decode cX4_takeMerged 25 = .ok (.invokevirtual 29, 3) := by decide +kernel
theorem dX4_takeMerged_28 : decode cX4_takeMerged 28 = .ok (.ifCond .ne 12, 3) := by decide +kernel
theorem dX4_takeMerged_31 : decode cX4_takeMerged 31 = .ok (.aload_n 2, 1) := by decide +kernel
theorem dX4_takeMerged_32 : decode cX4_takeMerged 32 = .ok (.iload 5, 2) := by decide +kernel
theorem dX4_takeMerged_34 : decode cX4_takeMerged 34 = .ok (.invokevirtual 29, 3) := by decide +kernel
theorem dX4_takeMerged_37 : decode cX4_takeMerged 37 = .ok (.ifCond .eq 153, 3) := by decide +kernel
theorem dX4_takeMerged_40 : decode cX4_takeMerged 40 = .ok (.aload_n 1, 1) := by decide +kernel
theorem dX4_takeMerged_41 : decode cX4_takeMerged 41 = .ok (.iload 4, 2) := by decide +kernel
theorem dX4_takeMerged_43 : decode cX4_takeMerged 43 = .ok (.aload_n 2, 1) := by decide +kernel
theorem dX4_takeMerged_44 : decode cX4_takeMerged 44 = .ok (.iload 5, 2) := by decide +kernel
theorem dX4_takeMerged_46 : decode cX4_takeMerged 46 = .ok (.invokevirtual 53, 3) := by decide +kernel
theorem dX4_takeMerged_49 : decode cX4_takeMerged 49 = .ok (.istore 7, 2) := by decide +kernel
theorem dX4_takeMerged_51 : decode cX4_takeMerged 51 = .ok (.iload 7, 2) := by decide +kernel
theorem dX4_takeMerged_53 : decode cX4_takeMerged 53 = .ok (.ifCond .ne 16, 3) := by decide +kernel
theorem dX4_takeMerged_56 : decode cX4_takeMerged 56 = .ok (.iload_n 3, 1) := by decide +kernel
theorem dX4_takeMerged_57 : decode cX4_takeMerged 57 = .ok (.iconst 2, 1) := by decide +kernel
theorem dX4_takeMerged_58 : decode cX4_takeMerged 58 = .ok (.if_icmp .eq 7, 3) := by decide +kernel
theorem dX4_takeMerged_61 : decode cX4_takeMerged 61 = .ok (.iconst 1, 1) := by decide +kernel
theorem dX4_takeMerged_62 : decode cX4_takeMerged 62 = .ok (.goto 34, 3) := by decide +kernel
theorem dX4_takeMerged_65 : decode cX4_takeMerged 65 = .ok (.iconst 0, 1) := by decide +kernel
theorem dX4_takeMerged_66 : decode cX4_takeMerged 66 = .ok (.goto 30, 3) := by decide +kernel
theorem dX4_takeMerged_69 : decode cX4_takeMerged 69 = .ok (.iload 7, 2) := by decide +kernel
theorem dX4_takeMerged_71 : decode cX4_takeMerged 71 = .ok (.ifCond .ge 16, 3) := by decide +kernel
theorem dX4_takeMerged_74 : decode cX4_takeMerged 74 = .ok (.iload_n 3, 1) := by decide +kernel
theorem dX4_takeMerged_75 : decode cX4_takeMerged 75 = .ok (.iconst 1, 1) := by decide +kernel
theorem dX4_takeMerged_76 : decode cX4_takeMerged 76 = .ok (.if_icmp .eq 7, 3) := by decide +kernel
theorem dX4_takeMerged_79 : decode cX4_takeMerged 79 = .ok (.iconst 1, 1) := by decide +kernel
theorem dX4_takeMerged_80 : decode cX4_takeMerged 80 = .ok (.goto 16, 3) := by decide +kernel
theorem dX4_takeMerged_83 : decode cX4_takeMerged 83 = .ok (.iconst 0, 1) := by decide +kernel
theorem dX4_takeMerged_84 : decode cX4_takeMerged 84 = .ok (.goto 12, 3) := by decide +kernel
theorem dX4_takeMerged_87 : decode cX4_takeMerged 87 = .ok (.iload_n 3, 1) := by decide +kernel
theorem dX4_takeMerged_88 : decode cX4_takeMerged 88 = .ok (.ifCond .ne 7, 3) := by decide +kernel
theorem dX4_takeMerged_91 : decode cX4_takeMerged 91 = .ok (.iconst 1, 1) := by decide +kernel
theorem dX4_takeMerged_92 : decode cX4_takeMerged 92 = .ok (.goto 4, 3) := by decide +kernel
theorem dX4_takeMerged_95 : decode cX4_takeMerged 95 = .ok (.iconst 0, 1) := by decide +kernel
theorem dX4_takeMerged_96 : decode cX4_takeMerged 96 = .ok (.istore 8, 2) := by decide +kernel
theorem dX4_takeMerged_98 : decode cX4_takeMerged 98 = .ok (.iload 7, 2) := by decide +kernel
theorem dX4_takeMerged_100 : decode cX4_takeMerged 100 = .ok (.ifCond .gt 7, 3) := by decide +kernel
theorem dX4_takeMerged_103 : decode cX4_takeMerged 103 = .ok (.aload_n 1, 1) := by decide +kernel
theorem dX4_takeMerged_104 : decode cX4_takeMerged 104 = .ok (.goto 4, 3) := by decide +kernel
theorem dX4_takeMerged_107 : decode cX4_takeMerged 107 = .ok (.aload_n 2, 1) := by decide +kernel
theorem dX4_takeMerged_108 : decode cX4_takeMerged 108 = .ok (.astore 9, 2) := by decide +kernel
theorem dX4_takeMerged_110 : decode cX4_takeMerged 110 = .ok (.iload 7, 2) := by decide +kernel
theorem dX4_takeMerged_112 : decode cX4_takeMerged 112 = .ok (.ifCond .gt 8, 3) := by decide +kernel
theorem dX4_takeMerged_115 : decode cX4_takeMerged 115 = .ok (.iload 4, 2) := by decide +kernel
theorem dX4_takeMerged_117 : decode cX4_takeMerged 117 = .ok (.goto 5, 3) := by decide +kernel
theorem dX4_takeMerged_120 : decode cX4_takeMerged 120 = .ok (.iload 5, 2) := by decide +kernel
theorem dX4_takeMerged_122 : decode cX4_takeMerged 122 = .ok (.istore 10, 2) := by decide +kernel
theorem dX4_takeMerged_124 : decode cX4_takeMerged 124 = .ok (.iload 8, 2) := by decide +kernel
theorem dX4_takeMerged_126 : decode cX4_takeMerged 126 = .ok (.ifCond .eq 28, 3) := by decide +kernel
theorem dX4_takeMerged_129 : decode cX4_takeMerged 129 = .ok (.aload_n 0, 1) := by decide +kernel
theorem dX4_takeMerged_130 : decode cX4_takeMerged 130 = .ok (.aload 9, 2) := by decide +kernel
theorem dX4_takeMerged_132 : decode cX4_takeMerged 132 = .ok (.getfield 17, 3) := by decide +kernel
theorem dX4_takeMerged_135 : decode cX4_takeMerged 135 = .ok (.iload 10, 2) := by decide +kernel
theorem dX4_takeMerged_137 : decode cX4_takeMerged 137 = .ok (.aaload, 1) := by decide +kernel
theorem dX4_takeMerged_138 : decode cX4_takeMerged 138 = .ok (.aload 9, 2) := by decide +kernel
theorem dX4_takeMerged_140 : decode cX4_takeMerged 140 = .ok (.getfield 21, 3) := by decide +kernel
theorem dX4_takeMerged_143 : decode cX4_takeMerged 143 = .ok (.iload 10, 2) := by decide +kernel
theorem dX4_takeMerged_145 : decode cX4_takeMerged 145 = .ok (.laload, 1) := by decide +kernel
theorem dX4_takeMerged_146 : decode cX4_takeMerged 146 = .ok (.invokevirtual 57, 3) := by decide +kernel
theorem dX4_takeMerged_149 : decode cX4_takeMerged 149 = .ok (.ifCond .ne 5, 3) := by decide +kernel
theorem dX4_takeMerged_152 : decode cX4_takeMerged 152 = .ok (.iconst 0, 1) := by decide +kernel
theorem dX4_takeMerged_153 : decode cX4_takeMerged 153 = .ok (.ireturn, 1) := by decide +kernel
theorem dX4_takeMerged_154 : decode cX4_takeMerged 154 = .ok (.iload 4, 2) := by decide +kernel
theorem dX4_takeMerged_156 : decode cX4_takeMerged 156 = .ok (.iload 7, 2) := by decide +kernel
theorem dX4_takeMerged_158 : decode cX4_takeMerged 158 = .ok (.ifCond .gt 7, 3) := by decide +kernel
theorem dX4_takeMerged_161 : decode cX4_takeMerged 161 = .ok (.iconst 1, 1) := by decide +kernel
theorem dX4_takeMerged_162 : decode cX4_takeMerged 162 = .ok (.goto 4, 3) := by decide +kernel
theorem dX4_takeMerged_165 : decode cX4_takeMerged 165 = .ok (.iconst 0, 1) := by decide +kernel
theorem dX4_takeMerged_166 : decode cX4_takeMerged 166 = .ok (.iadd, 1) := by decide +kernel
theorem dX4_takeMerged_167 : decode cX4_takeMerged 167 = .ok (.istore 4, 2) := by decide +kernel
theorem dX4_takeMerged_169 : decode cX4_takeMerged 169 = .ok (.iload 5, 2) := by decide +kernel
theorem dX4_takeMerged_171 : decode cX4_takeMerged 171 = .ok (.iload 7, 2) := by decide +kernel
theorem dX4_takeMerged_173 : decode cX4_takeMerged 173 = .ok (.ifCond .lt 7, 3) := by decide +kernel
theorem dX4_takeMerged_176 : decode cX4_takeMerged 176 = .ok (.iconst 1, 1) := by decide +kernel
theorem dX4_takeMerged_177 : decode cX4_takeMerged 177 = .ok (.goto 4, 3) := by decide +kernel
theorem dX4_takeMerged_180 : decode cX4_takeMerged 180 = .ok (.iconst 0, 1) := by decide +kernel
theorem dX4_takeMerged_181 : decode cX4_takeMerged 181 = .ok (.iadd, 1) := by decide +kernel
theorem dX4_takeMerged_182 : decode cX4_takeMerged 182 = .ok (.istore 5, 2) := by decide +kernel
theorem dX4_takeMerged_184 : decode cX4_takeMerged 184 = .ok (.iinc 6 1, 3) := by decide +kernel
theorem dX4_takeMerged_187 : decode cX4_takeMerged 187 = .ok (.goto (-173), 3) := by decide +kernel
theorem dX4_takeMerged_190 : decode cX4_takeMerged 190 = .ok (.iconst 1, 1) := by decide +kernel
theorem dX4_takeMerged_191 : decode cX4_takeMerged 191 = .ok (.ireturn, 1) := by decide +kernel
theorem dX4_orderOf_0 : decode cX4_orderOf 0 = .ok (.aload_n 0, 1) := by decide +kernel
theorem dX4_orderOf_1 : decode cX4_orderOf 1 = .ok (.iload_n 1, 1) := by decide +kernel
theorem dX4_orderOf_2 : decode cX4_orderOf 2 = .ok (.invokevirtual 29, 3) := by decide +kernel
theorem dX4_orderOf_5 : decode cX4_orderOf 5 = .ok (.ifCond .ne 5, 3) := by decide +kernel
theorem dX4_orderOf_8 : decode cX4_orderOf 8 = .ok (.iconst 1, 1) := by decide +kernel
theorem dX4_orderOf_9 : decode cX4_orderOf 9 = .ok (.ireturn, 1) := by decide +kernel
theorem dX4_orderOf_10 : decode cX4_orderOf 10 = .ok (.aload_n 2, 1) := by decide +kernel
theorem dX4_orderOf_11 : decode cX4_orderOf 11 = .ok (.iload_n 3, 1) := by decide +kernel
theorem dX4_orderOf_12 : decode cX4_orderOf 12 = .ok (.invokevirtual 29, 3) := by decide +kernel
theorem dX4_orderOf_15 : decode cX4_orderOf 15 = .ok (.ifCond .eq 21, 3) := by decide +kernel
theorem dX4_orderOf_18 : decode cX4_orderOf 18 = .ok (.aload_n 0, 1) := by decide +kernel
theorem dX4_orderOf_19 : decode cX4_orderOf 19 = .ok (.getfield 17, 3) := by decide +kernel
theorem dX4_orderOf_22 : decode cX4_orderOf 22 = .ok (.iload_n 1, 1) := by decide +kernel
theorem dX4_orderOf_23 : decode cX4_orderOf 23 = .ok (.aaload, 1) := by decide +kernel
theorem dX4_orderOf_24 : decode cX4_orderOf 24 = .ok (.aload_n 2, 1) := by decide +kernel
theorem dX4_orderOf_25 : decode cX4_orderOf 25 = .ok (.getfield 17, 3) := by decide +kernel
theorem dX4_orderOf_28 : decode cX4_orderOf 28 = .ok (.iload_n 3, 1) := by decide +kernel
theorem dX4_orderOf_29 : decode cX4_orderOf 29 = .ok (.aaload, 1) := by decide +kernel
theorem dX4_orderOf_30 : decode cX4_orderOf 30 = .ok (.invokevirtual 25, 3) := by decide +kernel
theorem dX4_orderOf_33 : decode cX4_orderOf 33 = .ok (.goto 4, 3) := by decide +kernel
theorem dX4_orderOf_36 : decode cX4_orderOf 36 = .ok (.iconst (-1), 1) := by decide +kernel
theorem dX4_orderOf_37 : decode cX4_orderOf 37 = .ok (.ireturn, 1) := by decide +kernel
theorem dX4_nameBytes_0 : decode cX4_nameBytes 0 = .ok (.iconst 0, 1) := by decide +kernel
theorem dX4_nameBytes_1 : decode cX4_nameBytes 1 = .ok (.istore_n 1, 1) := by decide +kernel
theorem dX4_nameBytes_2 : decode cX4_nameBytes 2 = .ok (.iconst 0, 1) := by decide +kernel
theorem dX4_nameBytes_3 : decode cX4_nameBytes 3 = .ok (.istore_n 2, 1) := by decide +kernel
theorem dX4_nameBytes_4 : decode cX4_nameBytes 4 = .ok (.iload_n 2, 1) := by decide +kernel
theorem dX4_nameBytes_5 : decode cX4_nameBytes 5 = .ok (.aload_n 0, 1) := by decide +kernel
theorem dX4_nameBytes_6 : decode cX4_nameBytes 6 = .ok (.getfield 9, 3) := by decide +kernel
theorem dX4_nameBytes_9 : decode cX4_nameBytes 9 = .ok (.if_icmp .ge 22, 3) := by decide +kernel
theorem dX4_nameBytes_12 : decode cX4_nameBytes 12 = .ok (.iload_n 1, 1) := by decide +kernel
theorem dX4_nameBytes_13 : decode cX4_nameBytes 13 = .ok (.aload_n 0, 1) := by decide +kernel
theorem dX4_nameBytes_14 : decode cX4_nameBytes 14 = .ok (.getfield 17, 3) := by decide +kernel
theorem dX4_nameBytes_17 : decode cX4_nameBytes 17 = .ok (.iload_n 2, 1) := by decide +kernel
theorem dX4_nameBytes_18 : decode cX4_nameBytes 18 = .ok (.aaload, 1) := by decide +kernel
theorem dX4_nameBytes_19 : decode cX4_nameBytes 19 = .ok (.getfield 61, 3) := by decide +kernel
theorem dX4_nameBytes_22 : decode cX4_nameBytes 22 = .ok (.arraylength, 1) := by decide +kernel
theorem dX4_nameBytes_23 : decode cX4_nameBytes 23 = .ok (.iadd, 1) := by decide +kernel
theorem dX4_nameBytes_24 : decode cX4_nameBytes 24 = .ok (.istore_n 1, 1) := by decide +kernel
theorem dX4_nameBytes_25 : decode cX4_nameBytes 25 = .ok (.iinc 2 1, 3) := by decide +kernel
theorem dX4_nameBytes_28 : decode cX4_nameBytes 28 = .ok (.goto (-24), 3) := by decide +kernel
theorem dX4_nameBytes_31 : decode cX4_nameBytes 31 = .ok (.iload_n 1, 1) := by decide +kernel
theorem dX4_nameBytes_32 : decode cX4_nameBytes 32 = .ok (.ireturn, 1) := by decide +kernel
theorem dX4_allHaveBytes_0 : decode cX4_allHaveBytes 0 = .ok (.iconst 0, 1) := by decide +kernel
theorem dX4_allHaveBytes_1 : decode cX4_allHaveBytes 1 = .ok (.istore_n 2, 1) := by decide +kernel
theorem dX4_allHaveBytes_2 : decode cX4_allHaveBytes 2 = .ok (.iload_n 2, 1) := by decide +kernel
theorem dX4_allHaveBytes_3 : decode cX4_allHaveBytes 3 = .ok (.aload_n 0, 1) := by decide +kernel
theorem dX4_allHaveBytes_4 : decode cX4_allHaveBytes 4 = .ok (.getfield 9, 3) := by decide +kernel
theorem dX4_allHaveBytes_7 : decode cX4_allHaveBytes 7 = .ok (.if_icmp .ge 25, 3) := by decide +kernel
theorem dX4_allHaveBytes_10 : decode cX4_allHaveBytes 10 = .ok (.aload_n 0, 1) := by decide +kernel
theorem dX4_allHaveBytes_11 : decode cX4_allHaveBytes 11 = .ok (.getfield 17, 3) := by decide +kernel
theorem dX4_allHaveBytes_14 : decode cX4_allHaveBytes 14 = .ok (.iload_n 2, 1) := by decide +kernel
theorem dX4_allHaveBytes_15 : decode cX4_allHaveBytes 15 = .ok (.aaload, 1) := by decide +kernel
theorem dX4_allHaveBytes_16 : decode cX4_allHaveBytes 16 = .ok (.getfield 61, 3) := by decide +kernel
theorem dX4_allHaveBytes_19 : decode cX4_allHaveBytes 19 = .ok (.arraylength, 1) := by decide +kernel
theorem dX4_allHaveBytes_20 : decode cX4_allHaveBytes 20 = .ok (.iload_n 1, 1) := by decide +kernel
theorem dX4_allHaveBytes_21 : decode cX4_allHaveBytes 21 = .ok (.if_icmp .eq 5, 3) := by decide +kernel
theorem dX4_allHaveBytes_24 : decode cX4_allHaveBytes 24 = .ok (.iconst 0, 1) := by decide +kernel
theorem dX4_allHaveBytes_25 : decode cX4_allHaveBytes 25 = .ok (.ireturn, 1) := by decide +kernel
theorem dX4_allHaveBytes_26 : decode cX4_allHaveBytes 26 = .ok (.iinc 2 1, 3) := by decide +kernel
theorem dX4_allHaveBytes_29 : decode cX4_allHaveBytes 29 = .ok (.goto (-27), 3) := by decide +kernel
theorem dX4_allHaveBytes_32 : decode cX4_allHaveBytes 32 = .ok (.iconst 1, 1) := by decide +kernel
theorem dX4_allHaveBytes_33 : decode cX4_allHaveBytes 33 = .ok (.ireturn, 1) := by decide +kernel
theorem dX4_width_0 : decode cX4_width 0 = .ok (.iconst 1, 1) := by decide +kernel
theorem dX4_width_1 : decode cX4_width 1 = .ok (.istore_n 1, 1) := by decide +kernel
theorem dX4_width_2 : decode cX4_width 2 = .ok (.iconst 0, 1) := by decide +kernel
theorem dX4_width_3 : decode cX4_width 3 = .ok (.istore_n 2, 1) := by decide +kernel
theorem dX4_width_4 : decode cX4_width 4 = .ok (.iload_n 2, 1) := by decide +kernel
theorem dX4_width_5 : decode cX4_width 5 = .ok (.aload_n 0, 1) := by decide +kernel
theorem dX4_width_6 : decode cX4_width 6 = .ok (.getfield 9, 3) := by decide +kernel
theorem dX4_width_9 : decode cX4_width 9 = .ok (.if_icmp .ge 35, 3) := by decide +kernel
theorem dX4_width_12 : decode cX4_width 12 = .ok (.iload_n 1, 1) := by decide +kernel
theorem dX4_width_13 : decode cX4_width 13 = .ok (.bipush 8, 2) := by decide +kernel
theorem dX4_width_15 : decode cX4_width 15 = .ok (.if_icmp .ge 23, 3) := by decide +kernel
theorem dX4_width_18 : decode cX4_width 18 = .ok (.aload_n 0, 1) := by decide +kernel
theorem dX4_width_19 : decode cX4_width 19 = .ok (.getfield 21, 3) := by decide +kernel
theorem dX4_width_22 : decode cX4_width 22 = .ok (.iload_n 2, 1) := by decide +kernel
theorem dX4_width_23 : decode cX4_width 23 = .ok (.laload, 1) := by decide +kernel
theorem dX4_width_24 : decode cX4_width 24 = .ok (.iload_n 1, 1) := by decide +kernel
theorem dX4_width_25 : decode cX4_width 25 = .ok (.invokestatic 65, 3) := by decide +kernel
theorem dX4_width_28 : decode cX4_width 28 = .ok (.ifCond .ne 10, 3) := by decide +kernel
theorem dX4_width_31 : decode cX4_width 31 = .ok (.iload_n 1, 1) := by decide +kernel
theorem dX4_width_32 : decode cX4_width 32 = .ok (.iconst 2, 1) := by decide +kernel
theorem dX4_width_33 : decode cX4_width 33 = .ok (.imul, 1) := by decide +kernel
theorem dX4_width_34 : decode cX4_width 34 = .ok (.istore_n 1, 1) := by decide +kernel
theorem dX4_width_35 : decode cX4_width 35 = .ok (.goto (-23), 3) := by decide +kernel
theorem dX4_width_38 : decode cX4_width 38 = .ok (.iinc 2 1, 3) := by decide +kernel
theorem dX4_width_41 : decode cX4_width 41 = .ok (.goto (-37), 3) := by decide +kernel
theorem dX4_width_44 : decode cX4_width 44 = .ok (.iload_n 1, 1) := by decide +kernel
theorem dX4_width_45 : decode cX4_width 45 = .ok (.ireturn, 1) := by decide +kernel
theorem dX4_fits_0 : decode cX4_fits 0 = .ok (.bipush 64, 2) := by decide +kernel
theorem dX4_fits_2 : decode cX4_fits 2 = .ok (.bipush 8, 2) := by decide +kernel
theorem dX4_fits_4 : decode cX4_fits 4 = .ok (.iload_n 2, 1) := by decide +kernel
theorem dX4_fits_5 : decode cX4_fits 5 = .ok (.imul, 1) := by decide +kernel
theorem dX4_fits_6 : decode cX4_fits 6 = .ok (.isub, 1) := by decide +kernel
theorem dX4_fits_7 : decode cX4_fits 7 = .ok (.istore_n 3, 1) := by decide +kernel
theorem dX4_fits_8 : decode cX4_fits 8 = .ok (.lload_n 0, 1) := by decide +kernel
theorem dX4_fits_9 : decode cX4_fits 9 = .ok (.iload_n 3, 1) := by decide +kernel
theorem dX4_fits_10 : decode cX4_fits 10 = .ok (.lshl, 1) := by decide +kernel
theorem dX4_fits_11 : decode cX4_fits 11 = .ok (.iload_n 3, 1) := by decide +kernel
theorem dX4_fits_12 : decode cX4_fits 12 = .ok (.lshr, 1) := by decide +kernel
theorem dX4_fits_13 : decode cX4_fits 13 = .ok (.lload_n 0, 1) := by decide +kernel
theorem dX4_fits_14 : decode cX4_fits 14 = .ok (.lcmp, 1) := by decide +kernel
theorem dX4_fits_15 : decode cX4_fits 15 = .ok (.ifCond .ne 7, 3) := by decide +kernel
theorem dX4_fits_18 : decode cX4_fits 18 = .ok (.iconst 1, 1) := by decide +kernel
theorem dX4_fits_19 : decode cX4_fits 19 = .ok (.goto 4, 3) := by decide +kernel
theorem dX4_fits_22 : decode cX4_fits 22 = .ok (.iconst 0, 1) := by decide +kernel
theorem dX4_fits_23 : decode cX4_fits 23 = .ok (.ireturn, 1) := by decide +kernel
theorem dX4_highBits_0 : decode cX4_highBits 0 = .ok (.iconst 0, 1) := by decide +kernel
theorem dX4_highBits_1 : decode cX4_highBits 1 = .ok (.istore_n 1, 1) := by decide +kernel
theorem dX4_highBits_2 : decode cX4_highBits 2 = .ok (.iload_n 1, 1) := by decide +kernel
theorem dX4_highBits_3 : decode cX4_highBits 3 = .ok (.bipush 31, 2) := by decide +kernel
theorem dX4_highBits_5 : decode cX4_highBits 5 = .ok (.if_icmp .ge 19, 3) := by decide +kernel
theorem dX4_highBits_8 : decode cX4_highBits 8 = .ok (.iconst 1, 1) := by decide +kernel
theorem dX4_highBits_9 : decode cX4_highBits 9 = .ok (.iload_n 1, 1) := by decide +kernel
theorem dX4_highBits_10 : decode cX4_highBits 10 = .ok (.ishl, 1) := by decide +kernel
theorem dX4_highBits_11 : decode cX4_highBits 11 = .ok (.aload_n 0, 1) := by decide +kernel
theorem dX4_highBits_12 : decode cX4_highBits 12 = .ok (.getfield 9, 3) := by decide +kernel
theorem dX4_highBits_15 : decode cX4_highBits 15 = .ok (.if_icmp .gt 9, 3) := by decide +kernel
theorem dX4_highBits_18 : decode cX4_highBits 18 = .ok (.iinc 1 1, 3) := by decide +kernel
theorem dX4_highBits_21 : decode cX4_highBits 21 = .ok (.goto (-19), 3) := by decide +kernel
theorem dX4_highBits_24 : decode cX4_highBits 24 = .ok (.iload_n 1, 1) := by decide +kernel
theorem dX4_highBits_25 : decode cX4_highBits 25 = .ok (.ireturn, 1) := by decide +kernel
theorem dX5_init_0 : decode cX5_init 0 = .ok (.aload_n 0, 1) := by decide +kernel
theorem dX5_init_1 : decode cX5_init 1 = .ok (.invokespecial 3, 3) := by decide +kernel
theorem dX5_init_4 : decode cX5_init 4 = .ok (.aload_n 0, 1) := by decide +kernel
theorem dX5_init_5 : decode cX5_init 5 = .ok (.aload_n 1, 1) := by decide +kernel
theorem dX5_init_6 : decode cX5_init 6 = .ok (.putfield 9, 3) := by decide +kernel
theorem dX5_init_9 : decode cX5_init 9 = .ok (.return_, 1) := by decide +kernel
theorem dX5_alike_0 : decode cX5_alike 0 = .ok (.aload_n 0, 1) := by decide +kernel
theorem dX5_alike_1 : decode cX5_alike 1 = .ok (.getfield 9, 3) := by decide +kernel
theorem dX5_alike_4 : decode cX5_alike 4 = .ok (.arraylength, 1) := by decide +kernel
theorem dX5_alike_5 : decode cX5_alike 5 = .ok (.aload_n 1, 1) := by decide +kernel
theorem dX5_alike_6 : decode cX5_alike 6 = .ok (.getfield 9, 3) := by decide +kernel
theorem dX5_alike_9 : decode cX5_alike 9 = .ok (.arraylength, 1) := by decide +kernel
theorem dX5_alike_10 : decode cX5_alike 10 = .ok (.invokestatic 15, 3) := by decide +kernel
theorem dX5_alike_13 : decode cX5_alike 13 = .ok (.istore_n 2, 1) := by decide +kernel
theorem dX5_alike_14 : decode cX5_alike 14 = .ok (.iconst 0, 1) := by decide +kernel
theorem dX5_alike_15 : decode cX5_alike 15 = .ok (.istore_n 3, 1) := by decide +kernel
theorem dX5_alike_16 : decode cX5_alike 16 = .ok (.iload_n 3, 1) := by decide +kernel
theorem dX5_alike_17 : decode cX5_alike 17 = .ok (.iload_n 2, 1) := by decide +kernel
theorem dX5_alike_18 : decode cX5_alike 18 = .ok (.if_icmp .ge 24, 3) := by decide +kernel
theorem dX5_alike_21 : decode cX5_alike 21 = .ok (.aload_n 0, 1) := by decide +kernel
theorem dX5_alike_22 : decode cX5_alike 22 = .ok (.getfield 9, 3) := by decide +kernel
theorem dX5_alike_25 : decode cX5_alike 25 = .ok (.iload_n 3, 1) := by decide +kernel
theorem dX5_alike_26 : decode cX5_alike 26 = .ok (.iaload, 1) := by decide +kernel
theorem dX5_alike_27 : decode cX5_alike 27 = .ok (.aload_n 1, 1) := by decide +kernel
theorem dX5_alike_28 : decode cX5_alike 28 = .ok (.getfield 9, 3) := by decide +kernel
theorem dX5_alike_31 : decode cX5_alike 31 = .ok (.iload_n 3, 1) := by decide +kernel
theorem dX5_alike_32 : decode cX5_alike 32 = .ok (.iaload, 1) := by decide +kernel
theorem dX5_alike_33 : decode cX5_alike 33 = .ok (.if_icmp .ne 9, 3) := by decide +kernel
theorem dX5_alike_36 : decode cX5_alike 36 = .ok (.iinc 3 1, 3) := by decide +kernel
theorem dX5_alike_39 : decode cX5_alike 39 = .ok (.goto (-23), 3) := by decide +kernel
theorem dX5_alike_42 : decode cX5_alike 42 = .ok (.iload_n 3, 1) := by decide +kernel
theorem dX5_alike_43 : decode cX5_alike 43 = .ok (.ireturn, 1) := by decide +kernel
theorem dX5_beginsWith_0 : decode cX5_beginsWith 0 = .ok (.aload_n 0, 1) := by decide +kernel
theorem dX5_beginsWith_1 : decode cX5_beginsWith 1 = .ok (.aload_n 1, 1) := by decide +kernel
theorem dX5_beginsWith_2 : decode cX5_beginsWith 2 = .ok (.invokevirtual 21, 3) := by decide +kernel
theorem dX5_beginsWith_5 : decode cX5_beginsWith 5 = .ok (.aload_n 1, 1) := by decide +kernel
theorem dX5_beginsWith_6 : decode cX5_beginsWith 6 = .ok (.getfield 9, 3) := by decide +kernel
theorem dX5_beginsWith_9 : decode cX5_beginsWith 9 = .ok (.arraylength, 1) := by decide +kernel
theorem dX5_beginsWith_10 : decode cX5_beginsWith 10 = .ok (.if_icmp .ne 7, 3) := by decide +kernel
theorem dX5_beginsWith_13 : decode cX5_beginsWith 13 = .ok (.iconst 1, 1) := by decide +kernel
theorem dX5_beginsWith_14 : decode cX5_beginsWith 14 = .ok (.goto 4, 3) := by decide +kernel
theorem dX5_beginsWith_17 : decode cX5_beginsWith 17 = .ok (.iconst 0, 1) := by decide +kernel
theorem dX5_beginsWith_18 : decode cX5_beginsWith 18 = .ok (.ireturn, 1) := by decide +kernel
theorem dX5_compareWith_0 : decode cX5_compareWith 0 = .ok (.aload_n 0, 1) := by decide +kernel
theorem dX5_compareWith_1 : decode cX5_compareWith 1 = .ok (.aload_n 1, 1) := by decide +kernel
theorem dX5_compareWith_2 : decode cX5_compareWith 2 = .ok (.invokevirtual 21, 3) := by decide +kernel
theorem dX5_compareWith_5 : decode cX5_compareWith 5 = .ok (.istore_n 2, 1) := by decide +kernel
theorem dX5_compareWith_6 : decode cX5_compareWith 6 = .ok (.iload_n 2, 1) := by decide +kernel
theorem dX5_compareWith_7 : decode cX5_compareWith 7 = .ok (.aload_n 0, 1) := by decide +kernel
theorem dX5_compareWith_8 : decode cX5_compareWith 8 = .ok (.getfield 9, 3) := by decide +kernel
theorem dX5_compareWith_11 : decode cX5_compareWith 11 = .ok (.arraylength, 1) := by decide +kernel
theorem dX5_compareWith_12 : decode cX5_compareWith 12 = .ok (.if_icmp .ge 28, 3) := by decide +kernel
theorem dX5_compareWith_15 : decode cX5_compareWith 15 = .ok (.iload_n 2, 1) := by decide +kernel
theorem dX5_compareWith_16 : decode cX5_compareWith 16 = .ok (.aload_n 1, 1) := by decide +kernel
theorem dX5_compareWith_17 : decode cX5_compareWith 17 = .ok (.getfield 9, 3) := by decide +kernel
theorem dX5_compareWith_20 : decode cX5_compareWith 20 = .ok (.arraylength, 1) := by decide +kernel
theorem dX5_compareWith_21 : decode cX5_compareWith 21 = .ok (.if_icmp .ge 19, 3) := by decide +kernel
theorem dX5_compareWith_24 : decode cX5_compareWith 24 = .ok (.aload_n 0, 1) := by decide +kernel
theorem dX5_compareWith_25 : decode cX5_compareWith 25 = .ok (.getfield 9, 3) := by decide +kernel
theorem dX5_compareWith_28 : decode cX5_compareWith 28 = .ok (.iload_n 2, 1) := by decide +kernel
theorem dX5_compareWith_29 : decode cX5_compareWith 29 = .ok (.iaload, 1) := by decide +kernel
theorem dX5_compareWith_30 : decode cX5_compareWith 30 = .ok (.aload_n 1, 1) := by decide +kernel
theorem dX5_compareWith_31 : decode cX5_compareWith 31 = .ok (.getfield 9, 3) := by decide +kernel
theorem dX5_compareWith_34 : decode cX5_compareWith 34 = .ok (.iload_n 2, 1) := by decide +kernel
theorem dX5_compareWith_35 : decode cX5_compareWith 35 = .ok (.iaload, 1) := by decide +kernel
theorem dX5_compareWith_36 : decode cX5_compareWith 36 = .ok (.invokestatic 25, 3) := by decide +kernel
theorem dX5_compareWith_39 : decode cX5_compareWith 39 = .ok (.ireturn, 1) := by decide +kernel
theorem dX5_compareWith_40 : decode cX5_compareWith 40 = .ok (.aload_n 0, 1) := by decide +kernel
theorem dX5_compareWith_41 : decode cX5_compareWith 41 = .ok (.getfield 9, 3) := by decide +kernel
theorem dX5_compareWith_44 : decode cX5_compareWith 44 = .ok (.arraylength, 1) := by decide +kernel
theorem dX5_compareWith_45 : decode cX5_compareWith 45 = .ok (.aload_n 1, 1) := by decide +kernel
theorem dX5_compareWith_46 : decode cX5_compareWith 46 = .ok (.getfield 9, 3) := by decide +kernel
theorem dX5_compareWith_49 : decode cX5_compareWith 49 = .ok (.arraylength, 1) := by decide +kernel
theorem dX5_compareWith_50 : decode cX5_compareWith 50 = .ok (.invokestatic 25, 3) := by decide +kernel
theorem dX5_compareWith_53 : decode cX5_compareWith 53 = .ok (.ireturn, 1) := by decide +kernel
theorem dX5_highPart_0 : decode cX5_highPart 0 = .ok (.lconst 0, 1) := by decide +kernel
theorem dX5_highPart_1 : decode cX5_highPart 1 = .ok (.lstore_n 2, 1) := by decide +kernel
theorem dX5_highPart_2 : decode cX5_highPart 2 = .ok (.iconst 0, 1) := by decide +kernel
theorem dX5_highPart_3 : decode cX5_highPart 3 = .ok (.istore 4, 2) := by decide +kernel
theorem dX5_highPart_5 : decode cX5_highPart 5 = .ok (.iload 4, 2) := by decide +kernel
theorem dX5_highPart_7 : decode cX5_highPart 7 = .ok (.bipush 8, 2) := by decide +kernel
theorem dX5_highPart_9 : decode cX5_highPart 9 = .ok (.if_icmp .ge 33, 3) := by decide +kernel
theorem dX5_highPart_12 : decode cX5_highPart 12 = .ok (.iload 4, 2) := by decide +kernel
theorem dX5_highPart_14 : decode cX5_highPart 14 = .ok (.aload_n 0, 1) := by decide +kernel
theorem dX5_highPart_15 : decode cX5_highPart 15 = .ok (.getfield 9, 3) := by decide +kernel
theorem dX5_highPart_18 : decode cX5_highPart 18 = .ok (.arraylength, 1) := by decide +kernel
theorem dX5_highPart_19 : decode cX5_highPart 19 = .ok (.if_icmp .ge 23, 3) := by decide +kernel
theorem dX5_highPart_22 : decode cX5_highPart 22 = .ok (.lload_n 2, 1) := by decide +kernel
theorem dX5_highPart_23 : decode cX5_highPart 23 = .ok (.bipush 8, 2) := by decide +kernel
theorem dX5_highPart_25 : decode cX5_highPart 25 = .ok (.lshl, 1) := by decide +kernel
theorem dX5_highPart_26 : decode cX5_highPart 26 = .ok (.aload_n 0, 1) := by decide +kernel
theorem dX5_highPart_27 : decode cX5_highPart 27 = .ok (.getfield 9, 3) := by decide +kernel
theorem dX5_highPart_30 : decode cX5_highPart 30 = .ok (.iload 4, 2) := by decide +kernel
theorem dX5_highPart_32 : decode cX5_highPart 32 = .ok (.iaload, 1) := by decide +kernel
theorem dX5_highPart_33 : decode cX5_highPart 33 = .ok (.i2l, 1) := by decide +kernel
theorem dX5_highPart_34 : decode cX5_highPart 34 = .ok (.lor, 1) := by decide +kernel
theorem dX5_highPart_35 : decode cX5_highPart 35 = .ok (.lstore_n 2, 1) := by decide +kernel
theorem dX5_highPart_36 : decode cX5_highPart 36 = .ok (.iinc 4 1, 3) := by decide +kernel
theorem dX5_highPart_39 : decode cX5_highPart 39 = .ok (.goto (-34), 3) := by decide +kernel
theorem dX5_highPart_42 : decode cX5_highPart 42 = .ok (.lload_n 2, 1) := by decide +kernel
theorem dX5_highPart_43 : decode cX5_highPart 43 = .ok (.bipush 64, 2) := by decide +kernel
theorem dX5_highPart_45 : decode cX5_highPart 45 = .ok (.iload_n 1, 1) := by decide +kernel
theorem dX5_highPart_46 : decode cX5_highPart 46 = .ok (.isub, 1) := by decide +kernel
theorem dX5_highPart_47 : decode cX5_highPart 47 = .ok (.lushr, 1) := by decide +kernel
theorem dX5_highPart_48 : decode cX5_highPart 48 = .ok (.l2i, 1) := by decide +kernel
theorem dX5_highPart_49 : decode cX5_highPart 49 = .ok (.ireturn, 1) := by decide +kernel
theorem dX6_init_0 : decode cX6_init 0 = .ok (.aload_n 0, 1) := by decide +kernel
theorem dX6_init_1 : decode cX6_init 1 = .ok (.invokespecial 3, 3) := by decide +kernel
theorem dX6_init_4 : decode cX6_init 4 = .ok (.aload_n 0, 1) := by decide +kernel
theorem dX6_init_5 : decode cX6_init 5 = .ok (.iconst 0, 1) := by decide +kernel
theorem dX6_init_6 : decode cX6_init 6 = .ok (.putfield 9, 3) := by decide +kernel
theorem dX6_init_9 : decode cX6_init 9 = .ok (.aload_n 0, 1) := by decide +kernel
theorem dX6_init_10 : decode cX6_init 10 = .ok (.iconst 0, 1) := by decide +kernel
theorem dX6_init_11 : decode cX6_init 11 = .ok (.putfield 15, 3) := by decide +kernel
theorem dX6_init_14 : decode cX6_init 14 = .ok (.aload_n 0, 1) := by decide +kernel
theorem dX6_init_15 : decode cX6_init 15 = .ok (.iconst 0, 1) := by decide +kernel
theorem dX6_init_16 : decode cX6_init 16 = .ok (.putfield 18, 3) := by decide +kernel
theorem dX6_init_19 : decode cX6_init 19 = .ok (.aload_n 0, 1) := by decide +kernel
theorem dX6_init_20 : decode cX6_init 20 = .ok (.iload_n 1, 1) := by decide +kernel
theorem dX6_init_21 : decode cX6_init 21 = .ok (.putfield 22, 3) := by decide +kernel
theorem dX6_init_24 : decode cX6_init 24 = .ok (.aload_n 0, 1) := by decide +kernel
theorem dX6_init_25 : decode cX6_init 25 = .ok (.iload_n 1, 1) := by decide +kernel
theorem dX6_init_26 : decode cX6_init 26 = .ok (.bipush 64, 2) := by decide +kernel
theorem dX6_init_28 : decode cX6_init 28 = .ok (.idiv, 1) := by decide +kernel
theorem dX6_init_29 : decode cX6_init 29 = .ok (.iconst 1, 1) := by decide +kernel
theorem dX6_init_30 : decode cX6_init 30 = .ok (.iadd, 1) := by decide +kernel
theorem dX6_init_31 : decode cX6_init 31 = .ok (.newarray .long, 2) := by decide +kernel
theorem dX6_init_33 : decode cX6_init 33 = .ok (.putfield 25, 3) := by decide +kernel
theorem dX6_init_36 : decode cX6_init 36 = .ok (.aload_n 0, 1) := by decide +kernel
theorem dX6_init_37 : decode cX6_init 37 = .ok (.iload_n 1, 1) := by decide +kernel
theorem dX6_init_38 : decode cX6_init 38 = .ok (.sipush 512, 3) := by decide +kernel
theorem dX6_init_41 : decode cX6_init 41 = .ok (.idiv, 1) := by decide +kernel
theorem dX6_init_42 : decode cX6_init 42 = .ok (.iconst 1, 1) := by decide +kernel
theorem dX6_init_43 : decode cX6_init 43 = .ok (.iadd, 1) := by decide +kernel
theorem dX6_init_44 : decode cX6_init 44 = .ok (.newarray .int, 2) := by decide +kernel
theorem dX6_init_46 : decode cX6_init 46 = .ok (.putfield 29, 3) := by decide +kernel
theorem dX6_init_49 : decode cX6_init 49 = .ok (.aload_n 0, 1) := by decide +kernel
theorem dX6_init_50 : decode cX6_init 50 = .ok (.iload_n 1, 1) := by decide +kernel
theorem dX6_init_51 : decode cX6_init 51 = .ok (.bipush 64, 2) := by decide +kernel
theorem dX6_init_53 : decode cX6_init 53 = .ok (.idiv, 1) := by decide +kernel
theorem dX6_init_54 : decode cX6_init 54 = .ok (.iconst 1, 1) := by decide +kernel
theorem dX6_init_55 : decode cX6_init 55 = .ok (.iadd, 1) := by decide +kernel
theorem dX6_init_56 : decode cX6_init 56 = .ok (.newarray .int, 2) := by decide +kernel
theorem dX6_init_58 : decode cX6_init 58 = .ok (.putfield 33, 3) := by decide +kernel
theorem dX6_init_61 : decode cX6_init 61 = .ok (.return_, 1) := by decide +kernel
theorem dX6_hasBit_0 : decode cX6_hasBit 0 = .ok (.iload_n 1, 1) := by decide +kernel
theorem dX6_hasBit_1 : decode cX6_hasBit 1 = .ok (.ifCond .lt 15, 3) := by decide +kernel
theorem dX6_hasBit_4 : decode cX6_hasBit 4 = .ok (.iload_n 1, 1) := by decide +kernel
theorem dX6_hasBit_5 : decode cX6_hasBit 5 = .ok (.aload_n 0, 1) := by decide +kernel
theorem dX6_hasBit_6 : decode cX6_hasBit 6 = .ok (.getfield 22, 3) := by decide +kernel
theorem dX6_hasBit_9 : decode cX6_hasBit 9 = .ok (.if_icmp .ge 7, 3) := by decide +kernel
theorem dX6_hasBit_12 : decode cX6_hasBit 12 = .ok (.iconst 1, 1) := by decide +kernel
theorem dX6_hasBit_13 : decode cX6_hasBit 13 = .ok (.goto 4, 3) := by decide +kernel
theorem dX6_hasBit_16 : decode cX6_hasBit 16 = .ok (.iconst 0, 1) := by decide +kernel
theorem dX6_hasBit_17 : decode cX6_hasBit 17 = .ok (.ireturn, 1) := by decide +kernel
theorem dX6_bitAt_0 : decode cX6_bitAt 0 = .ok (.aload_n 0, 1) := by decide +kernel
theorem dX6_bitAt_1 : decode cX6_bitAt 1 = .ok (.getfield 25, 3) := by decide +kernel
theorem dX6_bitAt_4 : decode cX6_bitAt 4 = .ok (.iload_n 1, 1) := by decide +kernel
theorem dX6_bitAt_5 : decode cX6_bitAt 5 = .ok (.bipush 64, 2) := by decide +kernel
theorem dX6_bitAt_7 : decode cX6_bitAt 7 = .ok (.idiv, 1) := by decide +kernel
theorem dX6_bitAt_8 : decode cX6_bitAt 8 = .ok (.laload, 1) := by decide +kernel
theorem dX6_bitAt_9 : decode cX6_bitAt 9 = .ok (.iload_n 1, 1) := by decide +kernel
theorem dX6_bitAt_10 : decode cX6_bitAt 10 = .ok (.bipush 64, 2) := by decide +kernel
theorem dX6_bitAt_12 : decode cX6_bitAt 12 = .ok (.irem, 1) := by decide +kernel
theorem dX6_bitAt_13 : decode cX6_bitAt 13 = .ok (.lushr, 1) := by decide +kernel
theorem dX6_bitAt_14 : decode cX6_bitAt 14 = .ok (.l2i, 1) := by decide +kernel
theorem dX6_bitAt_15 : decode cX6_bitAt 15 = .ok (.iconst 1, 1) := by decide +kernel
theorem dX6_bitAt_16 : decode cX6_bitAt 16 = .ok (.iand, 1) := by decide +kernel
theorem dX6_bitAt_17 : decode cX6_bitAt 17 = .ok (.ireturn, 1) := by decide +kernel
theorem dX6_write_0 : decode cX6_write 0 = .ok (.aload_n 0, 1) := by decide +kernel
theorem dX6_write_1 : decode cX6_write 1 = .ok (.iload_n 1, 1) := by decide +kernel
theorem dX6_write_2 : decode cX6_write 2 = .ok (.invokevirtual 36, 3) := by decide +kernel
theorem dX6_write_5 : decode cX6_write 5 = .ok (.ifCond .ne 4, 3) := by decide +kernel
theorem dX6_write_8 : decode cX6_write 8 = .ok (.return_, 1) := by decide +kernel
theorem dX6_write_9 : decode cX6_write 9 = .ok (.aload_n 0, 1) := by decide +kernel
theorem dX6_write_10 : decode cX6_write 10 = .ok (.dup, 1) := by decide +kernel
theorem dX6_write_11 : decode cX6_write 11 = .ok (.getfield 18, 3) := by decide +kernel
theorem dX6_write_14 : decode cX6_write 14 = .ok (.aload_n 0, 1) := by decide +kernel
theorem dX6_write_15 : decode cX6_write 15 = .ok (.iload_n 1, 1) := by decide +kernel
theorem dX6_write_16 : decode cX6_write 16 = .ok (.invokevirtual 40, 3) := by decide +kernel
theorem dX6_write_19 : decode cX6_write 19 = .ok (.isub, 1) := by decide +kernel
theorem dX6_write_20 : decode cX6_write 20 = .ok (.putfield 18, 3) := by decide +kernel
theorem dX6_write_23 : decode cX6_write 23 = .ok (.aload_n 0, 1) := by decide +kernel
theorem dX6_write_24 : decode cX6_write 24 = .ok (.getfield 25, 3) := by decide +kernel
theorem dX6_write_27 : decode cX6_write 27 = .ok (.iload_n 1, 1) := by decide +kernel
theorem dX6_write_28 : decode cX6_write 28 = .ok (.bipush 64, 2) := by decide +kernel
theorem dX6_write_30 : decode cX6_write 30 = .ok (.idiv, 1) := by decide +kernel
theorem dX6_write_31 : decode cX6_write 31 = .ok (.dup2, 1) := by decide +kernel
theorem dX6_write_32 : decode cX6_write 32 = .ok (.laload, 1) := by decide +kernel
theorem dX6_write_33 : decode cX6_write 33 = .ok (.lconst 1, 1) := by decide +kernel
theorem dX6_write_34 : decode cX6_write 34 = .ok (.iload_n 1, 1) := by decide +kernel
theorem dX6_write_35 : decode cX6_write 35 = .ok (.bipush 64, 2) := by decide +kernel
theorem dX6_write_37 : decode cX6_write 37 = .ok (.irem, 1) := by decide +kernel
theorem dX6_write_38 : decode cX6_write 38 = .ok (.lshl, 1) := by decide +kernel
theorem dX6_write_39 : decode cX6_write 39 = .ok (.ldc2_w 44, 3) := by decide +kernel
theorem dX6_write_42 : decode cX6_write 42 = .ok (.lxor, 1) := by decide +kernel
theorem dX6_write_43 : decode cX6_write 43 = .ok (.land, 1) := by decide +kernel
theorem dX6_write_44 : decode cX6_write 44 = .ok (.lastore, 1) := by decide +kernel
theorem dX6_write_45 : decode cX6_write 45 = .ok (.iload_n 2, 1) := by decide +kernel
theorem dX6_write_46 : decode cX6_write 46 = .ok (.ifCond .eq 31, 3) := by decide +kernel
theorem dX6_write_49 : decode cX6_write 49 = .ok (.aload_n 0, 1) := by decide +kernel
theorem dX6_write_50 : decode cX6_write 50 = .ok (.getfield 25, 3) := by decide +kernel
theorem dX6_write_53 : decode cX6_write 53 = .ok (.iload_n 1, 1) := by decide +kernel
theorem dX6_write_54 : decode cX6_write 54 = .ok (.bipush 64, 2) := by decide +kernel
theorem dX6_write_56 : decode cX6_write 56 = .ok (.idiv, 1) := by decide +kernel
theorem dX6_write_57 : decode cX6_write 57 = .ok (.dup2, 1) := by decide +kernel
theorem dX6_write_58 : decode cX6_write 58 = .ok (.laload, 1) := by decide +kernel
theorem dX6_write_59 : decode cX6_write 59 = .ok (.lconst 1, 1) := by decide +kernel
theorem dX6_write_60 : decode cX6_write 60 = .ok (.iload_n 1, 1) := by decide +kernel
theorem dX6_write_61 : decode cX6_write 61 = .ok (.bipush 64, 2) := by decide +kernel
theorem dX6_write_63 : decode cX6_write 63 = .ok (.irem, 1) := by decide +kernel
theorem dX6_write_64 : decode cX6_write 64 = .ok (.lshl, 1) := by decide +kernel
theorem dX6_write_65 : decode cX6_write 65 = .ok (.lor, 1) := by decide +kernel
theorem dX6_write_66 : decode cX6_write 66 = .ok (.lastore, 1) := by decide +kernel
theorem dX6_write_67 : decode cX6_write 67 = .ok (.aload_n 0, 1) := by decide +kernel
theorem dX6_write_68 : decode cX6_write 68 = .ok (.dup, 1) := by decide +kernel
theorem dX6_write_69 : decode cX6_write 69 = .ok (.getfield 18, 3) := by decide +kernel
theorem dX6_write_72 : decode cX6_write 72 = .ok (.iconst 1, 1) := by decide +kernel
theorem dX6_write_73 : decode cX6_write 73 = .ok (.iadd, 1) := by decide +kernel
theorem dX6_write_74 : decode cX6_write 74 = .ok (.putfield 18, 3) := by decide +kernel
theorem dX6_write_77 : decode cX6_write 77 = .ok (.return_, 1) := by decide +kernel
theorem dX6_lacksTable_0 : decode cX6_lacksTable 0 = .ok (.aload_n 0, 1) := by decide +kernel
theorem dX6_lacksTable_1 : decode cX6_lacksTable 1 = .ok (.getfield 9, 3) := by decide +kernel
theorem dX6_lacksTable_4 : decode cX6_lacksTable 4 = .ok (.ifCond .ne 10, 3) := by decide +kernel
theorem dX6_lacksTable_7 : decode cX6_lacksTable 7 = .ok (.aload_n 0, 1) := by decide +kernel
theorem dX6_lacksTable_8 : decode cX6_lacksTable 8 = .ok (.getfield 15, 3) := by decide +kernel
theorem dX6_lacksTable_11 : decode cX6_lacksTable 11 = .ok (.ifCond .eq 7, 3) := by decide +kernel
theorem dX6_lacksTable_14 : decode cX6_lacksTable 14 = .ok (.iconst 1, 1) := by decide +kernel
theorem dX6_lacksTable_15 : decode cX6_lacksTable 15 = .ok (.goto 4, 3) := by decide +kernel
theorem dX6_lacksTable_18 : decode cX6_lacksTable 18 = .ok (.iconst 0, 1) := by decide +kernel
theorem dX6_lacksTable_19 : decode cX6_lacksTable 19 = .ok (.ireturn, 1) := by decide +kernel
theorem dX6_fillTables_0 : decode cX6_fillTables 0 = .ok (.iconst 0, 1) := by decide +kernel
theorem dX6_fillTables_1 : decode cX6_fillTables 1 = .ok (.istore_n 1, 1) := by decide +kernel
theorem dX6_fillTables_2 : decode cX6_fillTables 2 = .ok (.iconst 0, 1) := by decide +kernel
theorem dX6_fillTables_3 : decode cX6_fillTables 3 = .ok (.istore_n 2, 1) := by decide +kernel
theorem dX6_fillTables_4 : decode cX6_fillTables 4 = .ok (.iconst 0, 1) := by decide +kernel
theorem dX6_fillTables_5 : decode cX6_fillTables 5 = .ok (.istore_n 3, 1) := by decide +kernel
theorem dX6_fillTables_6 : decode cX6_fillTables 6 = .ok (.iload_n 3, 1) := by decide +kernel
theorem dX6_fillTables_7 : decode cX6_fillTables 7 = .ok (.aload_n 0, 1) := by decide +kernel
theorem dX6_fillTables_8 : decode cX6_fillTables 8 = .ok (.getfield 25, 3) := by decide +kernel
theorem dX6_fillTables_11 : decode cX6_fillTables 11 = .ok (.arraylength, 1) := by decide +kernel
theorem dX6_fillTables_12 : decode cX6_fillTables 12 = .ok (.if_icmp .ge 70, 3) := by decide +kernel
theorem dX6_fillTables_15 : decode cX6_fillTables 15 = .ok (.iload_n 3, 1) := by decide +kernel
theorem dX6_fillTables_16 : decode cX6_fillTables 16 = .ok (.bipush 8, 2) := by decide +kernel
theorem dX6_fillTables_18 : decode cX6_fillTables 18 = .ok (.irem, 1) := by decide +kernel
theorem dX6_fillTables_19 : decode cX6_fillTables 19 = .ok (.ifCond .ne 22, 3) := by decide +kernel
theorem dX6_fillTables_22 : decode cX6_fillTables 22 = .ok (.iconst 0, 1) := by decide +kernel
theorem dX6_fillTables_23 : decode cX6_fillTables 23 = .ok (.istore_n 2, 1) := by decide +kernel
theorem dX6_fillTables_24 : decode cX6_fillTables 24 = .ok (.aload_n 0, 1) := by decide +kernel
theorem dX6_fillTables_25 : decode cX6_fillTables 25 = .ok (.getfield 9, 3) := by decide +kernel
theorem dX6_fillTables_28 : decode cX6_fillTables 28 = .ok (.ifCond .ne 13, 3) := by decide +kernel
theorem dX6_fillTables_31 : decode cX6_fillTables 31 = .ok (.aload_n 0, 1) := by decide +kernel
theorem dX6_fillTables_32 : decode cX6_fillTables 32 = .ok (.getfield 29, 3) := by decide +kernel
theorem dX6_fillTables_35 : decode cX6_fillTables 35 = .ok (.iload_n 3, 1) := by decide +kernel
theorem dX6_fillTables_36 : decode cX6_fillTables 36 = .ok (.bipush 8, 2) := by decide +kernel
theorem dX6_fillTables_38 : decode cX6_fillTables 38 = .ok (.idiv, 1) := by decide +kernel
theorem dX6_fillTables_39 : decode cX6_fillTables 39 = .ok (.iload_n 1, 1) := by decide +kernel
theorem dX6_fillTables_40 : decode cX6_fillTables 40 = .ok (.iastore, 1) := by decide +kernel
theorem dX6_fillTables_41 : decode cX6_fillTables 41 = .ok (.aload_n 0, 1) := by decide +kernel
theorem dX6_fillTables_42 : decode cX6_fillTables 42 = .ok (.getfield 15, 3) := by decide +kernel
theorem dX6_fillTables_45 : decode cX6_fillTables 45 = .ok (.ifCond .ne 10, 3) := by decide +kernel
theorem dX6_fillTables_48 : decode cX6_fillTables 48 = .ok (.aload_n 0, 1) := by decide +kernel
theorem dX6_fillTables_49 : decode cX6_fillTables 49 = .ok (.getfield 33, 3) := by decide +kernel
theorem dX6_fillTables_52 : decode cX6_fillTables 52 = .ok (.iload_n 3, 1) := by decide +kernel
theorem dX6_fillTables_53 : decode cX6_fillTables 53 = .ok (.iload_n 2, 1) := by decide +kernel
theorem dX6_fillTables_54 : decode cX6_fillTables 54 = .ok (.iastore, 1) := by decide +kernel
theorem dX6_fillTables_55 : decode cX6_fillTables 55 = .ok (.aload_n 0, 1) := by decide +kernel
theorem dX6_fillTables_56 : decode cX6_fillTables 56 = .ok (.getfield 25, 3) := by decide +kernel
theorem dX6_fillTables_59 : decode cX6_fillTables 59 = .ok (.iload_n 3, 1) := by decide +kernel
theorem dX6_fillTables_60 : decode cX6_fillTables 60 = .ok (.laload, 1) := by decide +kernel
theorem dX6_fillTables_61 : decode cX6_fillTables 61 = .ok (.invokestatic 46, 3) := by decide +kernel
theorem dX6_fillTables_64 : decode cX6_fillTables 64 = .ok (.istore 4, 2) := by decide +kernel
theorem dX6_fillTables_66 : decode cX6_fillTables 66 = .ok (.iload_n 1, 1) := by decide +kernel
theorem dX6_fillTables_67 : decode cX6_fillTables 67 = .ok (.iload 4, 2) := by decide +kernel
theorem dX6_fillTables_69 : decode cX6_fillTables 69 = .ok (.iadd, 1) := by decide +kernel
theorem dX6_fillTables_70 : decode cX6_fillTables 70 = .ok (.istore_n 1, 1) := by decide +kernel
theorem dX6_fillTables_71 : decode cX6_fillTables 71 = .ok (.iload_n 2, 1) := by decide +kernel
theorem dX6_fillTables_72 : decode cX6_fillTables 72 = .ok (.iload 4, 2) := by decide +kernel
theorem dX6_fillTables_74 : decode cX6_fillTables 74 = .ok (.iadd, 1) := by decide +kernel
theorem dX6_fillTables_75 : decode cX6_fillTables 75 = .ok (.istore_n 2, 1) := by decide +kernel
theorem dX6_fillTables_76 : decode cX6_fillTables 76 = .ok (.iinc 3 1, 3) := by decide +kernel
theorem dX6_fillTables_79 : decode cX6_fillTables 79 = .ok (.goto (-73), 3) := by decide +kernel
theorem dX6_fillTables_82 : decode cX6_fillTables 82 = .ok (.return_, 1) := by decide +kernel
theorem dX6_tableNumbers_0 : decode cX6_tableNumbers 0 = .ok (.aload_n 0, 1) := by decide +kernel
theorem dX6_tableNumbers_1 : decode cX6_tableNumbers 1 = .ok (.getfield 9, 3) := by decide +kernel
theorem dX6_tableNumbers_4 : decode cX6_tableNumbers 4 = .ok (.ifCond .eq 7, 3) := by decide +kernel
theorem dX6_tableNumbers_7 : decode cX6_tableNumbers 7 = .ok (.iconst 0, 1) := by decide +kernel
theorem dX6_tableNumbers_8 : decode cX6_tableNumbers 8 = .ok (.goto 8, 3) := by decide +kernel
theorem dX6_tableNumbers_11 : decode cX6_tableNumbers 11 = .ok (.aload_n 0, 1) := by decide +kernel
theorem dX6_tableNumbers_12 : decode cX6_tableNumbers 12 = .ok (.getfield 29, 3) := by decide +kernel
theorem dX6_tableNumbers_15 : decode cX6_tableNumbers 15 = .ok (.arraylength, 1) := by decide +kernel
theorem dX6_tableNumbers_16 : decode cX6_tableNumbers 16 = .ok (.aload_n 0, 1) := by decide +kernel
theorem dX6_tableNumbers_17 : decode cX6_tableNumbers 17 = .ok (.getfield 15, 3) := by decide +kernel
theorem dX6_tableNumbers_20 : decode cX6_tableNumbers 20 = .ok (.ifCond .eq 7, 3) := by decide +kernel
theorem dX6_tableNumbers_23 : decode cX6_tableNumbers 23 = .ok (.iconst 0, 1) := by decide +kernel
theorem dX6_tableNumbers_24 : decode cX6_tableNumbers 24 = .ok (.goto 8, 3) := by decide +kernel
theorem dX6_tableNumbers_27 : decode cX6_tableNumbers 27 = .ok (.aload_n 0, 1) := by decide +kernel
theorem dX6_tableNumbers_28 : decode cX6_tableNumbers 28 = .ok (.getfield 33, 3) := by decide +kernel
theorem dX6_tableNumbers_31 : decode cX6_tableNumbers 31 = .ok (.arraylength, 1) := by decide +kernel
theorem dX6_tableNumbers_32 : decode cX6_tableNumbers 32 = .ok (.iadd, 1) := by decide +kernel
theorem dX6_tableNumbers_33 : decode cX6_tableNumbers 33 = .ok (.ireturn, 1) := by decide +kernel
theorem dX6_onesAhead_0 : decode cX6_onesAhead 0 = .ok (.aload_n 0, 1) := by decide +kernel
theorem dX6_onesAhead_1 : decode cX6_onesAhead 1 = .ok (.getfield 25, 3) := by decide +kernel
theorem dX6_onesAhead_4 : decode cX6_onesAhead 4 = .ok (.iload_n 1, 1) := by decide +kernel
theorem dX6_onesAhead_5 : decode cX6_onesAhead 5 = .ok (.bipush 64, 2) := by decide +kernel
theorem dX6_onesAhead_7 : decode cX6_onesAhead 7 = .ok (.idiv, 1) := by decide +kernel
theorem dX6_onesAhead_8 : decode cX6_onesAhead 8 = .ok (.laload, 1) := by decide +kernel
theorem dX6_onesAhead_9 : decode cX6_onesAhead 9 = .ok (.lconst 1, 1) := by decide +kernel
theorem dX6_onesAhead_10 : decode cX6_onesAhead 10 = .ok (.iload_n 1, 1) := by decide +kernel
theorem dX6_onesAhead_11 : decode cX6_onesAhead 11 = .ok (.bipush 64, 2) := by decide +kernel
theorem dX6_onesAhead_13 : decode cX6_onesAhead 13 = .ok (.irem, 1) := by decide +kernel
theorem dX6_onesAhead_14 : decode cX6_onesAhead 14 = .ok (.lshl, 1) := by decide +kernel
theorem dX6_onesAhead_15 : decode cX6_onesAhead 15 = .ok (.lconst 1, 1) := by decide +kernel
theorem dX6_onesAhead_16 : decode cX6_onesAhead 16 = .ok (.lsub, 1) := by decide +kernel
theorem dX6_onesAhead_17 : decode cX6_onesAhead 17 = .ok (.land, 1) := by decide +kernel
theorem dX6_onesAhead_18 : decode cX6_onesAhead 18 = .ok (.lstore_n 2, 1) := by decide +kernel
theorem dX6_onesAhead_19 : decode cX6_onesAhead 19 = .ok (.aload_n 0, 1) := by decide +kernel
theorem dX6_onesAhead_20 : decode cX6_onesAhead 20 = .ok (.getfield 29, 3) := by decide +kernel
theorem dX6_onesAhead_23 : decode cX6_onesAhead 23 = .ok (.iload_n 1, 1) := by decide +kernel
theorem dX6_onesAhead_24 : decode cX6_onesAhead 24 = .ok (.sipush 512, 3) := by decide +kernel
theorem dX6_onesAhead_27 : decode cX6_onesAhead 27 = .ok (.idiv, 1) := by decide +kernel
theorem dX6_onesAhead_28 : decode cX6_onesAhead 28 = .ok (.iaload, 1) := by decide +kernel
theorem dX6_onesAhead_29 : decode cX6_onesAhead 29 = .ok (.aload_n 0, 1) := by decide +kernel
theorem dX6_onesAhead_30 : decode cX6_onesAhead 30 = .ok (.getfield 33, 3) := by decide +kernel
theorem dX6_onesAhead_33 : decode cX6_onesAhead 33 = .ok (.iload_n 1, 1) := by decide +kernel
theorem dX6_onesAhead_34 : decode cX6_onesAhead 34 = .ok (.bipush 64, 2) := by decide +kernel
theorem dX6_onesAhead_36 : decode cX6_onesAhead 36 = .ok (.idiv, 1) := by decide +kernel
theorem dX6_onesAhead_37 : decode cX6_onesAhead 37 = .ok (.iaload, 1) := by decide +kernel
theorem dX6_onesAhead_38 : decode cX6_onesAhead 38 = .ok (.iadd, 1) := by decide +kernel
theorem dX6_onesAhead_39 : decode cX6_onesAhead 39 = .ok (.lload_n 2, 1) := by decide +kernel
theorem dX6_onesAhead_40 : decode cX6_onesAhead 40 = .ok (.invokestatic 46, 3) := by decide +kernel
theorem dX6_onesAhead_43 : decode cX6_onesAhead 43 = .ok (.iadd, 1) := by decide +kernel
theorem dX6_onesAhead_44 : decode cX6_onesAhead 44 = .ok (.ireturn, 1) := by decide +kernel
theorem dX6_placeOfOne_0 : decode cX6_placeOfOne 0 = .ok (.iconst 0, 1) := by decide +kernel
theorem dX6_placeOfOne_1 : decode cX6_placeOfOne 1 = .ok (.istore_n 2, 1) := by decide +kernel
theorem dX6_placeOfOne_2 : decode cX6_placeOfOne 2 = .ok (.iload_n 2, 1) := by decide +kernel
theorem dX6_placeOfOne_3 : decode cX6_placeOfOne 3 = .ok (.iconst 1, 1) := by decide +kernel
theorem dX6_placeOfOne_4 : decode cX6_placeOfOne 4 = .ok (.iadd, 1) := by decide +kernel
theorem dX6_placeOfOne_5 : decode cX6_placeOfOne 5 = .ok (.aload_n 0, 1) := by decide +kernel
theorem dX6_placeOfOne_6 : decode cX6_placeOfOne 6 = .ok (.getfield 29, 3) := by decide +kernel
theorem dX6_placeOfOne_9 : decode cX6_placeOfOne 9 = .ok (.arraylength, 1) := by decide +kernel
theorem dX6_placeOfOne_10 : decode cX6_placeOfOne 10 = .ok (.if_icmp .ge 21, 3) := by decide +kernel
theorem dX6_placeOfOne_13 : decode cX6_placeOfOne 13 = .ok (.aload_n 0, 1) := by decide +kernel
theorem dX6_placeOfOne_14 : decode cX6_placeOfOne 14 = .ok (.getfield 29, 3) := by decide +kernel
theorem dX6_placeOfOne_17 : decode cX6_placeOfOne 17 = .ok (.iload_n 2, 1) := by decide +kernel
theorem dX6_placeOfOne_18 : decode cX6_placeOfOne 18 = .ok (.iconst 1, 1) := by decide +kernel
theorem dX6_placeOfOne_19 : decode cX6_placeOfOne 19 = .ok (.iadd, 1) := by decide +kernel
theorem dX6_placeOfOne_20 : decode cX6_placeOfOne 20 = .ok (.iaload, 1) := by decide +kernel
theorem dX6_placeOfOne_21 : decode cX6_placeOfOne 21 = .ok (.iload_n 1, 1) := by decide +kernel
theorem dX6_placeOfOne_22 : decode cX6_placeOfOne 22 = .ok (.if_icmp .gt 9, 3) := by decide +kernel
theorem dX6_placeOfOne_25 : decode cX6_placeOfOne 25 = .ok (.iinc 2 1, 3) := by decide +kernel
theorem dX6_placeOfOne_28 : decode cX6_placeOfOne 28 = .ok (.goto (-26), 3) := by decide +kernel
theorem dX6_placeOfOne_31 : decode cX6_placeOfOne 31 = .ok (.iload_n 1, 1) := by decide +kernel
theorem dX6_placeOfOne_32 : decode cX6_placeOfOne 32 = .ok (.aload_n 0, 1) := by decide +kernel
theorem dX6_placeOfOne_33 : decode cX6_placeOfOne 33 = .ok (.getfield 29, 3) := by decide +kernel
theorem dX6_placeOfOne_36 : decode cX6_placeOfOne 36 = .ok (.iload_n 2, 1) := by decide +kernel
theorem dX6_placeOfOne_37 : decode cX6_placeOfOne 37 = .ok (.iaload, 1) := by decide +kernel
theorem dX6_placeOfOne_38 : decode cX6_placeOfOne 38 = .ok (.isub, 1) := by decide +kernel
theorem dX6_placeOfOne_39 : decode cX6_placeOfOne 39 = .ok (.istore_n 3, 1) := by decide +kernel
theorem dX6_placeOfOne_40 : decode cX6_placeOfOne 40 = .ok (.iload_n 2, 1) := by decide +kernel
theorem dX6_placeOfOne_41 : decode cX6_placeOfOne 41 = .ok (.bipush 8, 2) := by decide +kernel
theorem dX6_placeOfOne_43 : decode cX6_placeOfOne 43 = .ok (.imul, 1) := by decide +kernel
theorem dX6_placeOfOne_44 : decode cX6_placeOfOne 44 = .ok (.istore 4, 2) := by decide +kernel
theorem dX6_placeOfOne_46 : decode cX6_placeOfOne 46 = .ok (.iload 4, 2) := by decide +kernel
theorem dX6_placeOfOne_48 : decode cX6_placeOfOne 48 = .ok (.iconst 1, 1) := by decide +kernel
theorem dX6_placeOfOne_49 : decode cX6_placeOfOne 49 = .ok (.iadd, 1) := by decide +kernel
theorem dX6_placeOfOne_50 : decode cX6_placeOfOne 50 = .ok (.aload_n 0, 1) := by decide +kernel
theorem dX6_placeOfOne_51 : decode cX6_placeOfOne 51 = .ok (.getfield 33, 3) := by decide +kernel
theorem dX6_placeOfOne_54 : decode cX6_placeOfOne 54 = .ok (.arraylength, 1) := by decide +kernel
theorem dX6_placeOfOne_55 : decode cX6_placeOfOne 55 = .ok (.if_icmp .ge 36, 3) := by decide +kernel
theorem dX6_placeOfOne_58 : decode cX6_placeOfOne 58 = .ok (.iload 4, 2) := by decide +kernel
theorem dX6_placeOfOne_60 : decode cX6_placeOfOne 60 = .ok (.iconst 1, 1) := by decide +kernel
theorem dX6_placeOfOne_61 : decode cX6_placeOfOne 61 = .ok (.iadd, 1) := by decide +kernel
theorem dX6_placeOfOne_62 : decode cX6_placeOfOne 62 = .ok (.iload_n 2, 1) := by decide +kernel
theorem dX6_placeOfOne_63 : decode cX6_placeOfOne 63 = .ok (.bipush 8, 2) := by decide +kernel
theorem dX6_placeOfOne_65 : decode cX6_placeOfOne 65 = .ok (.imul, 1) := by decide +kernel
theorem dX6_placeOfOne_66 : decode cX6_placeOfOne 66 = .ok (.bipush 8, 2) := by decide +kernel
theorem dX6_placeOfOne_68 : decode cX6_placeOfOne 68 = .ok (.iadd, 1) := by decide +kernel
theorem dX6_placeOfOne_69 : decode cX6_placeOfOne 69 = .ok (.if_icmp .ge 22, 3) := by decide +kernel
theorem dX6_placeOfOne_72 : decode cX6_placeOfOne 72 = .ok (.aload_n 0, 1) := by decide +kernel
theorem dX6_placeOfOne_73 : decode cX6_placeOfOne 73 = .ok (.getfield 33, 3) := by decide +kernel
theorem dX6_placeOfOne_76 : decode cX6_placeOfOne 76 = .ok (.iload 4, 2) := by decide +kernel
theorem dX6_placeOfOne_78 : decode cX6_placeOfOne 78 = .ok (.iconst 1, 1) := by decide +kernel
theorem dX6_placeOfOne_79 : decode cX6_placeOfOne 79 = .ok (.iadd, 1) := by decide +kernel
theorem dX6_placeOfOne_80 : decode cX6_placeOfOne 80 = .ok (.iaload, 1) := by decide +kernel
theorem dX6_placeOfOne_81 : decode cX6_placeOfOne 81 = .ok (.iload_n 3, 1) := by decide +kernel
theorem dX6_placeOfOne_82 : decode cX6_placeOfOne 82 = .ok (.if_icmp .gt 9, 3) := by decide +kernel
theorem dX6_placeOfOne_85 : decode cX6_placeOfOne 85 = .ok (.iinc 4 1, 3) := by decide +kernel
theorem dX6_placeOfOne_88 : decode cX6_placeOfOne 88 = .ok (.goto (-42), 3) := by decide +kernel
theorem dX6_placeOfOne_91 : decode cX6_placeOfOne 91 = .ok (.iload_n 3, 1) := by decide +kernel
theorem dX6_placeOfOne_92 : decode cX6_placeOfOne 92 = .ok (.aload_n 0, 1) := by decide +kernel
theorem dX6_placeOfOne_93 : decode cX6_placeOfOne 93 = .ok (.getfield 33, 3) := by decide +kernel
theorem dX6_placeOfOne_96 : decode cX6_placeOfOne 96 = .ok (.iload 4, 2) := by decide +kernel
theorem dX6_placeOfOne_98 : decode cX6_placeOfOne 98 = .ok (.iaload, 1) := by decide +kernel
theorem dX6_placeOfOne_99 : decode cX6_placeOfOne 99 = .ok (.isub, 1) := by decide +kernel
theorem dX6_placeOfOne_100 : decode cX6_placeOfOne 100 = .ok (.istore_n 3, 1) := by decide +kernel
theorem dX6_placeOfOne_101 : decode cX6_placeOfOne 101 = .ok (.iload 4, 2) := by decide +kernel
theorem dX6_placeOfOne_103 : decode cX6_placeOfOne 103 = .ok (.bipush 64, 2) := by decide +kernel
theorem dX6_placeOfOne_105 : decode cX6_placeOfOne 105 = .ok (.imul, 1) := by decide +kernel
theorem dX6_placeOfOne_106 : decode cX6_placeOfOne 106 = .ok (.istore 5, 2) := by decide +kernel
theorem dX6_placeOfOne_108 : decode cX6_placeOfOne 108 = .ok (.iload 5, 2) := by decide +kernel
theorem dX6_placeOfOne_110 : decode cX6_placeOfOne 110 = .ok (.aload_n 0, 1) := by decide +kernel
theorem dX6_placeOfOne_111 : decode cX6_placeOfOne 111 = .ok (.getfield 22, 3) := by decide +kernel
theorem dX6_placeOfOne_114 : decode cX6_placeOfOne 114 = .ok (.if_icmp .ge 25, 3) := by decide +kernel
theorem dX6_placeOfOne_117 : decode cX6_placeOfOne 117 = .ok (.iload_n 3, 1) := by decide +kernel
theorem dX6_placeOfOne_118 : decode cX6_placeOfOne 118 = .ok (.aload_n 0, 1) := by decide +kernel
theorem dX6_placeOfOne_119 : decode cX6_placeOfOne 119 = .ok (.iload 5, 2) := by decide +kernel
theorem dX6_placeOfOne_121 : decode cX6_placeOfOne 121 = .ok (.invokevirtual 40, 3) := by decide +kernel
theorem dX6_placeOfOne_124 : decode cX6_placeOfOne 124 = .ok (.isub, 1) := by decide +kernel
theorem dX6_placeOfOne_125 : decode cX6_placeOfOne 125 = .ok (.istore_n 3, 1) := by decide +kernel
theorem dX6_placeOfOne_126 : decode cX6_placeOfOne 126 = .ok (.iload_n 3, 1) := by decide +kernel
theorem dX6_placeOfOne_127 : decode cX6_placeOfOne 127 = .ok (.ifCond .ge 6, 3) := by decide +kernel
theorem dX6_placeOfOne_130 : decode cX6_placeOfOne 130 = .ok (.iload 5, 2) := by decide +kernel
theorem dX6_placeOfOne_132 : decode cX6_placeOfOne 132 = .ok (.ireturn, 1) := by decide +kernel
theorem dX6_placeOfOne_133 : decode cX6_placeOfOne 133 = .ok (.iinc 5 1, 3) := by decide +kernel
theorem dX6_placeOfOne_136 : decode cX6_placeOfOne 136 = .ok (.goto (-28), 3) := by decide +kernel
theorem dX6_placeOfOne_139 : decode cX6_placeOfOne 139 = .ok (.iconst (-1), 1) := by decide +kernel
theorem dX6_placeOfOne_140 : decode cX6_placeOfOne 140 = .ok (.ireturn, 1) := by decide +kernel
theorem dX6_behindZeros_0 : decode cX6_behindZeros 0 = .ok (.iconst 0, 1) := by decide +kernel
theorem dX6_behindZeros_1 : decode cX6_behindZeros 1 = .ok (.istore_n 2, 1) := by decide +kernel
theorem dX6_behindZeros_2 : decode cX6_behindZeros 2 = .ok (.aload_n 0, 1) := by decide +kernel
theorem dX6_behindZeros_3 : decode cX6_behindZeros 3 = .ok (.getfield 22, 3) := by decide +kernel
theorem dX6_behindZeros_6 : decode cX6_behindZeros 6 = .ok (.istore_n 3, 1) := by decide +kernel
theorem dX6_behindZeros_7 : decode cX6_behindZeros 7 = .ok (.iconst 0, 1) := by decide +kernel
theorem dX6_behindZeros_8 : decode cX6_behindZeros 8 = .ok (.istore 4, 2) := by decide +kernel
theorem dX6_behindZeros_10 : decode cX6_behindZeros 10 = .ok (.iload 4, 2) := by decide +kernel
theorem dX6_behindZeros_12 : decode cX6_behindZeros 12 = .ok (.bipush 32, 2) := by decide +kernel
theorem dX6_behindZeros_14 : decode cX6_behindZeros 14 = .ok (.if_icmp .ge 45, 3) := by decide +kernel
theorem dX6_behindZeros_17 : decode cX6_behindZeros 17 = .ok (.iload_n 2, 1) := by decide +kernel
theorem dX6_behindZeros_18 : decode cX6_behindZeros 18 = .ok (.iload_n 3, 1) := by decide +kernel
theorem dX6_behindZeros_19 : decode cX6_behindZeros 19 = .ok (.if_icmp .ge 40, 3) := by decide +kernel
theorem dX6_behindZeros_22 : decode cX6_behindZeros 22 = .ok (.iload_n 2, 1) := by decide +kernel
theorem dX6_behindZeros_23 : decode cX6_behindZeros 23 = .ok (.iload_n 3, 1) := by decide +kernel
theorem dX6_behindZeros_24 : decode cX6_behindZeros 24 = .ok (.iadd, 1) := by decide +kernel
theorem dX6_behindZeros_25 : decode cX6_behindZeros 25 = .ok (.iconst 2, 1) := by decide +kernel
theorem dX6_behindZeros_26 : decode cX6_behindZeros 26 = .ok (.idiv, 1) := by decide +kernel
theorem dX6_behindZeros_27 : decode cX6_behindZeros 27 = .ok (.istore 5, 2) := by decide +kernel
theorem dX6_behindZeros_29 : decode cX6_behindZeros 29 = .ok (.iload 5, 2) := by decide +kernel
theorem dX6_behindZeros_31 : decode cX6_behindZeros 31 = .ok (.aload_n 0, 1) := by decide +kernel
theorem dX6_behindZeros_32 : decode cX6_behindZeros 32 = .ok (.iload 5, 2) := by decide +kernel
theorem dX6_behindZeros_34 : decode cX6_behindZeros 34 = .ok (.invokevirtual 52, 3) := by decide +kernel
theorem dX6_behindZeros_37 : decode cX6_behindZeros 37 = .ok (.isub, 1) := by decide +kernel
theorem dX6_behindZeros_38 : decode cX6_behindZeros 38 = .ok (.iload_n 1, 1) := by decide +kernel
theorem dX6_behindZeros_39 : decode cX6_behindZeros 39 = .ok (.if_icmp .lt 9, 3) := by decide +kernel
theorem dX6_behindZeros_42 : decode cX6_behindZeros 42 = .ok (.iload 5, 2) := by decide +kernel
theorem dX6_behindZeros_44 : decode cX6_behindZeros 44 = .ok (.istore_n 3, 1) := by decide +kernel
theorem dX6_behindZeros_45 : decode cX6_behindZeros 45 = .ok (.goto 8, 3) := by decide +kernel
theorem dX6_behindZeros_48 : decode cX6_behindZeros 48 = .ok (.iload 5, 2) := by decide +kernel
theorem dX6_behindZeros_50 : decode cX6_behindZeros 50 = .ok (.iconst 1, 1) := by decide +kernel
theorem dX6_behindZeros_51 : decode cX6_behindZeros 51 = .ok (.iadd, 1) := by decide +kernel
theorem dX6_behindZeros_52 : decode cX6_behindZeros 52 = .ok (.istore_n 2, 1) := by decide +kernel
theorem dX6_behindZeros_53 : decode cX6_behindZeros 53 = .ok (.iinc 4 1, 3) := by decide +kernel
theorem dX6_behindZeros_56 : decode cX6_behindZeros 56 = .ok (.goto (-46), 3) := by decide +kernel
theorem dX6_behindZeros_59 : decode cX6_behindZeros 59 = .ok (.iload_n 2, 1) := by decide +kernel
theorem dX6_behindZeros_60 : decode cX6_behindZeros 60 = .ok (.ireturn, 1) := by decide +kernel
theorem dX7_init_0 : decode cX7_init 0 = .ok (.aload_n 0, 1) := by decide +kernel
theorem dX7_init_1 : decode cX7_init 1 = .ok (.invokespecial 3, 3) := by decide +kernel
theorem dX7_init_4 : decode cX7_init 4 = .ok (.aload_n 0, 1) := by decide +kernel
theorem dX7_init_5 : decode cX7_init 5 = .ok (.sipush 1000, 3) := by decide +kernel
theorem dX7_init_8 : decode cX7_init 8 = .ok (.newarray .int, 2) := by decide +kernel
theorem dX7_init_10 : decode cX7_init 10 = .ok (.putfield 9, 3) := by decide +kernel
theorem dX7_init_13 : decode cX7_init 13 = .ok (.aload_n 0, 1) := by decide +kernel
theorem dX7_init_14 : decode cX7_init 14 = .ok (.iconst 0, 1) := by decide +kernel
theorem dX7_init_15 : decode cX7_init 15 = .ok (.putfield 15, 3) := by decide +kernel
theorem dX7_init_18 : decode cX7_init 18 = .ok (.return_, 1) := by decide +kernel
theorem dX7_add_0 : decode cX7_add 0 = .ok (.aload_n 0, 1) := by decide +kernel
theorem dX7_add_1 : decode cX7_add 1 = .ok (.getfield 15, 3) := by decide +kernel
theorem dX7_add_4 : decode cX7_add 4 = .ok (.sipush 1000, 3) := by decide +kernel
theorem dX7_add_7 : decode cX7_add 7 = .ok (.if_icmp .ge 27, 3) := by decide +kernel
theorem dX7_add_10 : decode cX7_add 10 = .ok (.aload_n 0, 1) := by decide +kernel
theorem dX7_add_11 : decode cX7_add 11 = .ok (.getfield 9, 3) := by decide +kernel
theorem dX7_add_14 : decode cX7_add 14 = .ok (.aload_n 0, 1) := by decide +kernel
theorem dX7_add_15 : decode cX7_add 15 = .ok (.getfield 15, 3) := by decide +kernel
theorem dX7_add_18 : decode cX7_add 18 = .ok (.iload_n 1, 1) := by decide +kernel
theorem dX7_add_19 : decode cX7_add 19 = .ok (.sipush 255, 3) := by decide +kernel
theorem dX7_add_22 : decode cX7_add 22 = .ok (.iand, 1) := by decide +kernel
theorem dX7_add_23 : decode cX7_add 23 = .ok (.iastore, 1) := by decide +kernel
theorem dX7_add_24 : decode cX7_add 24 = .ok (.aload_n 0, 1) := by decide +kernel
theorem dX7_add_25 : decode cX7_add 25 = .ok (.dup, 1) := by decide +kernel
theorem dX7_add_26 : decode cX7_add 26 = .ok (.getfield 15, 3) := by decide +kernel
theorem dX7_add_29 : decode cX7_add 29 = .ok (.iconst 1, 1) := by decide +kernel
theorem dX7_add_30 : decode cX7_add 30 = .ok (.iadd, 1) := by decide +kernel
theorem dX7_add_31 : decode cX7_add 31 = .ok (.putfield 15, 3) := by decide +kernel
theorem dX7_add_34 : decode cX7_add 34 = .ok (.return_, 1) := by decide +kernel
theorem dX7_addNumber_0 : decode cX7_addNumber 0 = .ok (.iload_n 3, 1) := by decide +kernel
theorem dX7_addNumber_1 : decode cX7_addNumber 1 = .ok (.iconst 1, 1) := by decide +kernel
theorem dX7_addNumber_2 : decode cX7_addNumber 2 = .ok (.isub, 1) := by decide +kernel
theorem dX7_addNumber_3 : decode cX7_addNumber 3 = .ok (.istore 4, 2) := by decide +kernel
theorem dX7_addNumber_5 : decode cX7_addNumber 5 = .ok (.iload 4, 2) := by decide +kernel
theorem dX7_addNumber_7 : decode cX7_addNumber 7 = .ok (.ifCond .lt 21, 3) := by decide +kernel
theorem dX7_addNumber_10 : decode cX7_addNumber 10 = .ok (.aload_n 0, 1) := by decide +kernel
theorem dX7_addNumber_11 : decode cX7_addNumber 11 = .ok (.lload_n 1, 1) := by decide +kernel
theorem dX7_addNumber_12 : decode cX7_addNumber 12 = .ok (.bipush 8, 2) := by decide +kernel
theorem dX7_addNumber_14 : decode cX7_addNumber 14 = .ok (.iload 4, 2) := by decide +kernel
theorem dX7_addNumber_16 : decode cX7_addNumber 16 = .ok (.imul, 1) := by decide +kernel
theorem dX7_addNumber_17 : decode cX7_addNumber 17 = .ok (.lushr, 1) := by decide +kernel
theorem dX7_addNumber_18 : decode cX7_addNumber 18 = .ok (.l2i, 1) := by decide +kernel
theorem dX7_addNumber_19 : decode cX7_addNumber 19 = .ok (.invokevirtual 19, 3) := by decide +kernel
theorem dX7_addNumber_22 : decode cX7_addNumber 22 = .ok (.iinc 4 (-1), 3) := by decide +kernel
theorem dX7_addNumber_25 : decode cX7_addNumber 25 = .ok (.goto (-20), 3) := by decide +kernel
theorem dX7_addNumber_28 : decode cX7_addNumber 28 = .ok (.return_, 1) := by decide +kernel
theorem dX7_addName_0 : decode cX7_addName 0 = .ok (.iconst 0, 1) := by decide +kernel
theorem dX7_addName_1 : decode cX7_addName 1 = .ok (.istore_n 2, 1) := by decide +kernel
theorem dX7_addName_2 : decode cX7_addName 2 = .ok (.iload_n 2, 1) := by decide +kernel
theorem dX7_addName_3 : decode cX7_addName 3 = .ok (.aload_n 1, 1) := by decide +kernel
theorem dX7_addName_4 : decode cX7_addName 4 = .ok (.getfield 23, 3) := by decide +kernel
theorem dX7_addName_7 : decode cX7_addName 7 = .ok (.arraylength, 1) := by decide +kernel
theorem dX7_addName_8 : decode cX7_addName 8 = .ok (.if_icmp .ge 19, 3) := by decide +kernel
theorem dX7_addName_11 : decode cX7_addName 11 = .ok (.aload_n 0, 1) := by decide +kernel
theorem dX7_addName_12 : decode cX7_addName 12 = .ok (.aload_n 1, 1) := by decide +kernel
theorem dX7_addName_13 : decode cX7_addName 13 = .ok (.getfield 23, 3) := by decide +kernel
theorem dX7_addName_16 : decode cX7_addName 16 = .ok (.iload_n 2, 1) := by decide +kernel
theorem dX7_addName_17 : decode cX7_addName 17 = .ok (.iaload, 1) := by decide +kernel
theorem dX7_addName_18 : decode cX7_addName 18 = .ok (.invokevirtual 19, 3) := by decide +kernel
theorem dX7_addName_21 : decode cX7_addName 21 = .ok (.iinc 2 1, 3) := by decide +kernel
theorem dX7_addName_24 : decode cX7_addName 24 = .ok (.goto (-22), 3) := by decide +kernel
theorem dX7_addName_27 : decode cX7_addName 27 = .ok (.return_, 1) := by decide +kernel
theorem dX7_takeName_0 : decode cX7_takeName 0 = .ok (.aload_n 0, 1) := by decide +kernel
theorem dX7_takeName_1 : decode cX7_takeName 1 = .ok (.iconst 0, 1) := by decide +kernel
theorem dX7_takeName_2 : decode cX7_takeName 2 = .ok (.aload_n 0, 1) := by decide +kernel
theorem dX7_takeName_3 : decode cX7_takeName 3 = .ok (.getfield 15, 3) := by decide +kernel
theorem dX7_takeName_6 : decode cX7_takeName 6 = .ok (.invokevirtual 26, 3) := by decide +kernel
theorem dX7_takeName_9 : decode cX7_takeName 9 = .ok (.astore_n 1, 1) := by decide +kernel
theorem dX7_takeName_10 : decode cX7_takeName 10 = .ok (.aload_n 0, 1) := by decide +kernel
theorem dX7_takeName_11 : decode cX7_takeName 11 = .ok (.iconst 0, 1) := by decide +kernel
theorem dX7_takeName_12 : decode cX7_takeName 12 = .ok (.putfield 15, 3) := by decide +kernel
theorem dX7_takeName_15 : decode cX7_takeName 15 = .ok (.aload_n 1, 1) := by decide +kernel
theorem dX7_takeName_16 : decode cX7_takeName 16 = .ok (.areturn, 1) := by decide +kernel
theorem dX7_nameAt_0 : decode cX7_nameAt 0 = .ok (.iload_n 2, 1) := by decide +kernel
theorem dX7_nameAt_1 : decode cX7_nameAt 1 = .ok (.iconst 1, 1) := by decide +kernel
theorem dX7_nameAt_2 : decode cX7_nameAt 2 = .ok (.if_icmp .lt 23, 3) := by decide +kernel
theorem dX7_nameAt_5 : decode cX7_nameAt 5 = .ok (.iload_n 2, 1) := by decide +kernel
theorem dX7_nameAt_6 : decode cX7_nameAt 6 = .ok (.bipush 24, 2) := by decide +kernel
theorem dX7_nameAt_8 : decode cX7_nameAt 8 = .ok (.if_icmp .gt 17, 3) := by decide +kernel
theorem dX7_nameAt_11 : decode cX7_nameAt 11 = .ok (.iload_n 1, 1) := by decide +kernel
theorem dX7_nameAt_12 : decode cX7_nameAt 12 = .ok (.ifCond .lt 13, 3) := by decide +kernel
theorem dX7_nameAt_15 : decode cX7_nameAt 15 = .ok (.iload_n 1, 1) := by decide +kernel
theorem dX7_nameAt_16 : decode cX7_nameAt 16 = .ok (.iload_n 2, 1) := by decide +kernel
theorem dX7_nameAt_17 : decode cX7_nameAt 17 = .ok (.iadd, 1) := by decide +kernel
theorem dX7_nameAt_18 : decode cX7_nameAt 18 = .ok (.aload_n 0, 1) := by decide +kernel
theorem dX7_nameAt_19 : decode cX7_nameAt 19 = .ok (.getfield 15, 3) := by decide +kernel
theorem dX7_nameAt_22 : decode cX7_nameAt 22 = .ok (.if_icmp .le 5, 3) := by decide +kernel
theorem dX7_nameAt_25 : decode cX7_nameAt 25 = .ok (.aconst_null, 1) := by decide +kernel
theorem dX7_nameAt_26 : decode cX7_nameAt 26 = .ok (.areturn, 1) := by decide +kernel
theorem dX7_nameAt_27 : decode cX7_nameAt 27 = .ok (.iload_n 2, 1) := by decide +kernel
theorem dX7_nameAt_28 : decode cX7_nameAt 28 = .ok (.newarray .int, 2) := by decide +kernel
theorem dX7_nameAt_30 : decode cX7_nameAt 30 = .ok (.astore_n 3, 1) := by decide +kernel
theorem dX7_nameAt_31 : decode cX7_nameAt 31 = .ok (.iconst 0, 1) := by decide +kernel
theorem dX7_nameAt_32 : decode cX7_nameAt 32 = .ok (.istore 4, 2) := by decide +kernel
theorem dX7_nameAt_34 : decode cX7_nameAt 34 = .ok (.iload 4, 2) := by decide +kernel
theorem dX7_nameAt_36 : decode cX7_nameAt 36 = .ok (.iload_n 2, 1) := by decide +kernel
theorem dX7_nameAt_37 : decode cX7_nameAt 37 = .ok (.if_icmp .ge 31, 3) := by decide +kernel
theorem dX7_nameAt_40 : decode cX7_nameAt 40 = .ok (.aload_n 3, 1) := by decide +kernel
theorem dX7_nameAt_41 : decode cX7_nameAt 41 = .ok (.iload 4, 2) := by decide +kernel
theorem dX7_nameAt_43 : decode cX7_nameAt 43 = .ok (.aload_n 0, 1) := by decide +kernel
theorem dX7_nameAt_44 : decode cX7_nameAt 44 = .ok (.getfield 9, 3) := by decide +kernel
theorem dX7_nameAt_47 : decode cX7_nameAt 47 = .ok (.iload_n 1, 1) := by decide +kernel
theorem dX7_nameAt_48 : decode cX7_nameAt 48 = .ok (.iload 4, 2) := by decide +kernel
theorem dX7_nameAt_50 : decode cX7_nameAt 50 = .ok (.iadd, 1) := by decide +kernel
theorem dX7_nameAt_51 : decode cX7_nameAt 51 = .ok (.iaload, 1) := by decide +kernel
theorem dX7_nameAt_52 : decode cX7_nameAt 52 = .ok (.iastore, 1) := by decide +kernel
theorem dX7_nameAt_53 : decode cX7_nameAt 53 = .ok (.aload_n 3, 1) := by decide +kernel
theorem dX7_nameAt_54 : decode cX7_nameAt 54 = .ok (.iload 4, 2) := by decide +kernel
theorem dX7_nameAt_56 : decode cX7_nameAt 56 = .ok (.iaload, 1) := by decide +kernel
theorem dX7_nameAt_57 : decode cX7_nameAt 57 = .ok (.ifCond .ne 5, 3) := by decide +kernel
theorem dX7_nameAt_60 : decode cX7_nameAt 60 = .ok (.aconst_null, 1) := by decide +kernel
theorem dX7_nameAt_61 : decode cX7_nameAt 61 = .ok (.areturn, 1) := by decide +kernel
theorem dX7_nameAt_62 : decode cX7_nameAt 62 = .ok (.iinc 4 1, 3) := by decide +kernel
theorem dX7_nameAt_65 : decode cX7_nameAt 65 = .ok (.goto (-31), 3) := by decide +kernel
theorem dX7_nameAt_68 : decode cX7_nameAt 68 = .ok (.new 24, 3) := by decide +kernel
theorem dX7_nameAt_71 : decode cX7_nameAt 71 = .ok (.dup, 1) := by decide +kernel
theorem dX7_nameAt_72 : decode cX7_nameAt 72 = .ok (.aload_n 3, 1) := by decide +kernel
theorem dX7_nameAt_73 : decode cX7_nameAt 73 = .ok (.invokespecial 30, 3) := by decide +kernel
theorem dX7_nameAt_76 : decode cX7_nameAt 76 = .ok (.areturn, 1) := by decide +kernel
theorem dX7_signedAt_0 : decode cX7_signedAt 0 = .ok (.lconst 0, 1) := by decide +kernel
theorem dX7_signedAt_1 : decode cX7_signedAt 1 = .ok (.lstore_n 3, 1) := by decide +kernel
theorem dX7_signedAt_2 : decode cX7_signedAt 2 = .ok (.iload_n 1, 1) := by decide +kernel
theorem dX7_signedAt_3 : decode cX7_signedAt 3 = .ok (.istore 5, 2) := by decide +kernel
theorem dX7_signedAt_5 : decode cX7_signedAt 5 = .ok (.iload 5, 2) := by decide +kernel
theorem dX7_signedAt_7 : decode cX7_signedAt 7 = .ok (.iload_n 1, 1) := by decide +kernel
theorem dX7_signedAt_8 : decode cX7_signedAt 8 = .ok (.iload_n 2, 1) := by decide +kernel
theorem dX7_signedAt_9 : decode cX7_signedAt 9 = .ok (.iadd, 1) := by decide +kernel
theorem dX7_signedAt_10 : decode cX7_signedAt 10 = .ok (.if_icmp .ge 32, 3) := by decide +kernel
theorem dX7_signedAt_13 : decode cX7_signedAt 13 = .ok (.iload 5, 2) := by decide +kernel
theorem dX7_signedAt_15 : decode cX7_signedAt 15 = .ok (.aload_n 0, 1) := by decide +kernel
theorem dX7_signedAt_16 : decode cX7_signedAt 16 = .ok (.getfield 15, 3) := by decide +kernel
theorem dX7_signedAt_19 : decode cX7_signedAt 19 = .ok (.if_icmp .ge 23, 3) := by decide +kernel
theorem dX7_signedAt_22 : decode cX7_signedAt 22 = .ok (.lload_n 3, 1) := by decide +kernel
theorem dX7_signedAt_23 : decode cX7_signedAt 23 = .ok (.bipush 8, 2) := by decide +kernel
theorem dX7_signedAt_25 : decode cX7_signedAt 25 = .ok (.lshl, 1) := by decide +kernel
theorem dX7_signedAt_26 : decode cX7_signedAt 26 = .ok (.aload_n 0, 1) := by decide +kernel
theorem dX7_signedAt_27 : decode cX7_signedAt 27 = .ok (.getfield 9, 3) := by decide +kernel
theorem dX7_signedAt_30 : decode cX7_signedAt 30 = .ok (.iload 5, 2) := by decide +kernel
theorem dX7_signedAt_32 : decode cX7_signedAt 32 = .ok (.iaload, 1) := by decide +kernel
theorem dX7_signedAt_33 : decode cX7_signedAt 33 = .ok (.i2l, 1) := by decide +kernel
theorem dX7_signedAt_34 : decode cX7_signedAt 34 = .ok (.lor, 1) := by decide +kernel
theorem dX7_signedAt_35 : decode cX7_signedAt 35 = .ok (.lstore_n 3, 1) := by decide +kernel
theorem dX7_signedAt_36 : decode cX7_signedAt 36 = .ok (.iinc 5 1, 3) := by decide +kernel
theorem dX7_signedAt_39 : decode cX7_signedAt 39 = .ok (.goto (-34), 3) := by decide +kernel
theorem dX7_signedAt_42 : decode cX7_signedAt 42 = .ok (.bipush 64, 2) := by decide +kernel
theorem dX7_signedAt_44 : decode cX7_signedAt 44 = .ok (.bipush 8, 2) := by decide +kernel
theorem dX7_signedAt_46 : decode cX7_signedAt 46 = .ok (.iload_n 2, 1) := by decide +kernel
theorem dX7_signedAt_47 : decode cX7_signedAt 47 = .ok (.imul, 1) := by decide +kernel
theorem dX7_signedAt_48 : decode cX7_signedAt 48 = .ok (.isub, 1) := by decide +kernel
theorem dX7_signedAt_49 : decode cX7_signedAt 49 = .ok (.istore 5, 2) := by decide +kernel
theorem dX7_signedAt_51 : decode cX7_signedAt 51 = .ok (.lload_n 3, 1) := by decide +kernel
theorem dX7_signedAt_52 : decode cX7_signedAt 52 = .ok (.iload 5, 2) := by decide +kernel
theorem dX7_signedAt_54 : decode cX7_signedAt 54 = .ok (.lshl, 1) := by decide +kernel
theorem dX7_signedAt_55 : decode cX7_signedAt 55 = .ok (.iload 5, 2) := by decide +kernel
theorem dX7_signedAt_57 : decode cX7_signedAt 57 = .ok (.lshr, 1) := by decide +kernel
theorem dX7_signedAt_58 : decode cX7_signedAt 58 = .ok (.lreturn, 1) := by decide +kernel
theorem dX7_sum_0 : decode cX7_sum 0 = .ok (.iconst 0, 1) := by decide +kernel
theorem dX7_sum_1 : decode cX7_sum 1 = .ok (.istore_n 1, 1) := by decide +kernel
theorem dX7_sum_2 : decode cX7_sum 2 = .ok (.iconst 0, 1) := by decide +kernel
theorem dX7_sum_3 : decode cX7_sum 3 = .ok (.istore_n 2, 1) := by decide +kernel
theorem dX7_sum_4 : decode cX7_sum 4 = .ok (.iload_n 2, 1) := by decide +kernel
theorem dX7_sum_5 : decode cX7_sum 5 = .ok (.aload_n 0, 1) := by decide +kernel
theorem dX7_sum_6 : decode cX7_sum 6 = .ok (.getfield 15, 3) := by decide +kernel
theorem dX7_sum_9 : decode cX7_sum 9 = .ok (.if_icmp .ge 18, 3) := by decide +kernel
theorem dX7_sum_12 : decode cX7_sum 12 = .ok (.iload_n 1, 1) := by decide +kernel
theorem dX7_sum_13 : decode cX7_sum 13 = .ok (.aload_n 0, 1) := by decide +kernel
theorem dX7_sum_14 : decode cX7_sum 14 = .ok (.getfield 9, 3) := by decide +kernel
theorem dX7_sum_17 : decode cX7_sum 17 = .ok (.iload_n 2, 1) := by decide +kernel
theorem dX7_sum_18 : decode cX7_sum 18 = .ok (.iaload, 1) := by decide +kernel
theorem dX7_sum_19 : decode cX7_sum 19 = .ok (.iadd, 1) := by decide +kernel
theorem dX7_sum_20 : decode cX7_sum 20 = .ok (.istore_n 1, 1) := by decide +kernel
theorem dX7_sum_21 : decode cX7_sum 21 = .ok (.iinc 2 1, 3) := by decide +kernel
theorem dX7_sum_24 : decode cX7_sum 24 = .ok (.goto (-20), 3) := by decide +kernel
theorem dX7_sum_27 : decode cX7_sum 27 = .ok (.iload_n 1, 1) := by decide +kernel
theorem dX7_sum_28 : decode cX7_sum 28 = .ok (.sipush 255, 3) := by decide +kernel
theorem dX7_sum_31 : decode cX7_sum 31 = .ok (.iand, 1) := by decide +kernel
theorem dX7_sum_32 : decode cX7_sum 32 = .ok (.ireturn, 1) := by decide +kernel
theorem dX7_writeImage_0 : decode cX7_writeImage 0 = .ok (.aload_n 1, 1) := by decide +kernel
theorem dX7_writeImage_1 : decode cX7_writeImage 1 = .ok (.getfield 33, 3) := by decide +kernel
theorem dX7_writeImage_4 : decode cX7_writeImage 4 = .ok (.invokevirtual 39, 3) := by decide +kernel
theorem dX7_writeImage_7 : decode cX7_writeImage 7 = .ok (.istore_n 2, 1) := by decide +kernel
theorem dX7_writeImage_8 : decode cX7_writeImage 8 = .ok (.aload_n 0, 1) := by decide +kernel
theorem dX7_writeImage_9 : decode cX7_writeImage 9 = .ok (.iconst 0, 1) := by decide +kernel
theorem dX7_writeImage_10 : decode cX7_writeImage 10 = .ok (.putfield 15, 3) := by decide +kernel
theorem dX7_writeImage_13 : decode cX7_writeImage 13 = .ok (.aload_n 0, 1) := by decide +kernel
theorem dX7_writeImage_14 : decode cX7_writeImage 14 = .ok (.aload_n 1, 1) := by decide +kernel
theorem dX7_writeImage_15 : decode cX7_writeImage 15 = .ok (.getfield 45, 3) := by decide +kernel
theorem dX7_writeImage_18 : decode cX7_writeImage 18 = .ok (.invokevirtual 19, 3) := by decide +kernel
theorem dX7_writeImage_21 : decode cX7_writeImage 21 = .ok (.aload_n 0, 1) := by decide +kernel
theorem dX7_writeImage_22 : decode cX7_writeImage 22 = .ok (.aload_n 1, 1) := by decide +kernel
theorem dX7_writeImage_23 : decode cX7_writeImage 23 = .ok (.getfield 33, 3) := by decide +kernel
theorem dX7_writeImage_26 : decode cX7_writeImage 26 = .ok (.getfield 48, 3) := by decide +kernel
theorem dX7_writeImage_29 : decode cX7_writeImage 29 = .ok (.invokevirtual 19, 3) := by decide +kernel
theorem dX7_writeImage_32 : decode cX7_writeImage 32 = .ok (.iconst 0, 1) := by decide +kernel
theorem dX7_writeImage_33 : decode cX7_writeImage 33 = .ok (.istore_n 3, 1) := by decide +kernel
theorem dX7_writeImage_34 : decode cX7_writeImage 34 = .ok (.iload_n 3, 1) := by decide +kernel
theorem dX7_writeImage_35 : decode cX7_writeImage 35 = .ok (.aload_n 1, 1) := by decide +kernel
theorem dX7_writeImage_36 : decode cX7_writeImage 36 = .ok (.getfield 33, 3) := by decide +kernel
theorem dX7_writeImage_39 : decode cX7_writeImage 39 = .ok (.getfield 48, 3) := by decide +kernel
theorem dX7_writeImage_42 : decode cX7_writeImage 42 = .ok (.if_icmp .ge 50, 3) := by decide +kernel
theorem dX7_writeImage_45 : decode cX7_writeImage 45 = .ok (.aload_n 1, 1) := by decide +kernel
theorem dX7_writeImage_46 : decode cX7_writeImage 46 = .ok (.getfield 33, 3) := by decide +kernel
theorem dX7_writeImage_49 : decode cX7_writeImage 49 = .ok (.getfield 51, 3) := by decide +kernel
theorem dX7_writeImage_52 : decode cX7_writeImage 52 = .ok (.iload_n 3, 1) := by decide +kernel
theorem dX7_writeImage_53 : decode cX7_writeImage 53 = .ok (.aaload, 1) := by decide +kernel
theorem dX7_writeImage_54 : decode cX7_writeImage 54 = .ok (.astore 4, 2) := by decide +kernel
theorem dX7_writeImage_56 : decode cX7_writeImage 56 = .ok (.aload_n 0, 1) := by decide +kernel
theorem dX7_writeImage_57 : decode cX7_writeImage 57 = .ok (.aload 4, 2) := by decide +kernel
theorem dX7_writeImage_59 : decode cX7_writeImage 59 = .ok (.getfield 23, 3) := by decide +kernel
theorem dX7_writeImage_62 : decode cX7_writeImage 62 = .ok (.arraylength, 1) := by decide +kernel
theorem dX7_writeImage_63 : decode cX7_writeImage 63 = .ok (.invokevirtual 19, 3) := by decide +kernel
theorem dX7_writeImage_66 : decode cX7_writeImage 66 = .ok (.aload_n 0, 1) := by decide +kernel
theorem dX7_writeImage_67 : decode cX7_writeImage 67 = .ok (.aload 4, 2) := by decide +kernel
theorem dX7_writeImage_69 : decode cX7_writeImage 69 = .ok (.invokevirtual 55, 3) := by decide +kernel
theorem dX7_writeImage_72 : decode cX7_writeImage 72 = .ok (.aload_n 0, 1) := by decide +kernel
theorem dX7_writeImage_73 : decode cX7_writeImage 73 = .ok (.aload_n 1, 1) := by decide +kernel
theorem dX7_writeImage_74 : decode cX7_writeImage 74 = .ok (.getfield 33, 3) := by decide +kernel
theorem dX7_writeImage_77 : decode cX7_writeImage 77 = .ok (.getfield 59, 3) := by decide +kernel
theorem dX7_writeImage_80 : decode cX7_writeImage 80 = .ok (.iload_n 3, 1) := by decide +kernel
theorem dX7_writeImage_81 : decode cX7_writeImage 81 = .ok (.laload, 1) := by decide +kernel
theorem dX7_writeImage_82 : decode cX7_writeImage 82 = .ok (.iload_n 2, 1) := by decide +kernel
theorem dX7_writeImage_83 : decode cX7_writeImage 83 = .ok (.invokevirtual 63, 3) := by decide +kernel
theorem dX7_writeImage_86 : decode cX7_writeImage 86 = .ok (.iinc 3 1, 3) := by decide +kernel
theorem dX7_writeImage_89 : decode cX7_writeImage 89 = .ok (.goto (-55), 3) := by decide +kernel
theorem dX7_writeImage_92 : decode cX7_writeImage 92 = .ok (.aload_n 0, 1) := by decide +kernel
theorem dX7_writeImage_93 : decode cX7_writeImage 93 = .ok (.iload_n 2, 1) := by decide +kernel
theorem dX7_writeImage_94 : decode cX7_writeImage 94 = .ok (.invokevirtual 19, 3) := by decide +kernel
theorem dX7_writeImage_97 : decode cX7_writeImage 97 = .ok (.aload_n 0, 1) := by decide +kernel
theorem dX7_writeImage_98 : decode cX7_writeImage 98 = .ok (.aload_n 0, 1) := by decide +kernel
theorem dX7_writeImage_99 : decode cX7_writeImage 99 = .ok (.invokevirtual 67, 3) := by decide +kernel
theorem dX7_writeImage_102 : decode cX7_writeImage 102 = .ok (.ineg, 1) := by decide +kernel
theorem dX7_writeImage_103 : decode cX7_writeImage 103 = .ok (.invokevirtual 19, 3) := by decide +kernel
theorem dX7_writeImage_106 : decode cX7_writeImage 106 = .ok (.return_, 1) := by decide +kernel
theorem dX7_readImage_0 : decode cX7_readImage 0 = .ok (.aload_n 1, 1) := by decide +kernel
theorem dX7_readImage_1 : decode cX7_readImage 1 = .ok (.iconst 0, 1) := by decide +kernel
theorem dX7_readImage_2 : decode cX7_readImage 2 = .ok (.putfield 48, 3) := by decide +kernel
theorem dX7_readImage_5 : decode cX7_readImage 5 = .ok (.aload_n 0, 1) := by decide +kernel
theorem dX7_readImage_6 : decode cX7_readImage 6 = .ok (.getfield 15, 3) := by decide +kernel
theorem dX7_readImage_9 : decode cX7_readImage 9 = .ok (.bipush 7, 2) := by decide +kernel
theorem dX7_readImage_11 : decode cX7_readImage 11 = .ok (.if_icmp .lt 10, 3) := by decide +kernel
theorem dX7_readImage_14 : decode cX7_readImage 14 = .ok (.aload_n 0, 1) := by decide +kernel
theorem dX7_readImage_15 : decode cX7_readImage 15 = .ok (.invokevirtual 67, 3) := by decide +kernel
theorem dX7_readImage_18 : decode cX7_readImage 18 = .ok (.ifCond .eq 6, 3) := by decide +kernel
theorem dX7_readImage_21 : decode cX7_readImage 21 = .ok (.bipush (-5), 2) := by decide +kernel
theorem dX7_readImage_23 : decode cX7_readImage 23 = .ok (.ireturn, 1) := by decide +kernel
theorem dX7_readImage_24 : decode cX7_readImage 24 = .ok (.aload_n 0, 1) := by decide +kernel
theorem dX7_readImage_25 : decode cX7_readImage 25 = .ok (.getfield 9, 3) := by decide +kernel
theorem dX7_readImage_28 : decode cX7_readImage 28 = .ok (.aload_n 0, 1) := by decide +kernel
theorem dX7_readImage_29 : decode cX7_readImage 29 = .ok (.getfield 15, 3) := by decide +kernel
theorem dX7_readImage_32 : decode cX7_readImage 32 = .ok (.iconst 2, 1) := by decide +kernel
theorem dX7_readImage_33 : decode cX7_readImage 33 = .ok (.isub, 1) := by decide +kernel
theorem dX7_readImage_34 : decode cX7_readImage 34 = .ok (.iaload, 1) := by decide +kernel
theorem dX7_readImage_35 : decode cX7_readImage 35 = .ok (.istore_n 2, 1) := by decide +kernel
theorem dX7_readImage_36 : decode cX7_readImage 36 = .ok (.iload_n 2, 1) := by decide +kernel
theorem dX7_readImage_37 : decode cX7_readImage 37 = .ok (.iconst 1, 1) := by decide +kernel
theorem dX7_readImage_38 : decode cX7_readImage 38 = .ok (.if_icmp .eq 22, 3) := by decide +kernel
theorem dX7_readImage_41 : decode cX7_readImage 41 = .ok (.iload_n 2, 1) := by decide +kernel
theorem dX7_readImage_42 : decode cX7_readImage 42 = .ok (.iconst 2, 1) := by decide +kernel
theorem dX7_readImage_43 : decode cX7_readImage 43 = .ok (.if_icmp .eq 17, 3) := by decide +kernel
theorem dX7_readImage_46 : decode cX7_readImage 46 = .ok (.iload_n 2, 1) := by decide +kernel
theorem dX7_readImage_47 : decode cX7_readImage 47 = .ok (.iconst 4, 1) := by decide +kernel
theorem dX7_readImage_48 : decode cX7_readImage 48 = .ok (.if_icmp .eq 12, 3) := by decide +kernel
theorem dX7_readImage_51 : decode cX7_readImage 51 = .ok (.iload_n 2, 1) := by decide +kernel
theorem dX7_readImage_52 : decode cX7_readImage 52 = .ok (.bipush 8, 2) := by decide +kernel
theorem dX7_readImage_54 : decode cX7_readImage 54 = .ok (.if_icmp .eq 6, 3) := by decide +kernel
theorem dX7_readImage_57 : decode cX7_readImage 57 = .ok (.bipush (-5), 2) := by decide +kernel
theorem dX7_readImage_59 : decode cX7_readImage 59 = .ok (.ireturn, 1) := by decide +kernel
theorem dX7_readImage_60 : decode cX7_readImage 60 = .ok (.aload_n 0, 1) := by decide +kernel
theorem dX7_readImage_61 : decode cX7_readImage 61 = .ok (.getfield 15, 3) := by decide +kernel
theorem dX7_readImage_64 : decode cX7_readImage 64 = .ok (.iconst 2, 1) := by decide +kernel
theorem dX7_readImage_65 : decode cX7_readImage 65 = .ok (.isub, 1) := by decide +kernel
theorem dX7_readImage_66 : decode cX7_readImage 66 = .ok (.istore_n 3, 1) := by decide +kernel
theorem dX7_readImage_67 : decode cX7_readImage 67 = .ok (.iconst 2, 1) := by decide +kernel
theorem dX7_readImage_68 : decode cX7_readImage 68 = .ok (.istore 4, 2) := by decide +kernel
theorem dX7_readImage_70 : decode cX7_readImage 70 = .ok (.iconst 0, 1) := by decide +kernel
theorem dX7_readImage_71 : decode cX7_readImage 71 = .ok (.istore 5, 2) := by decide +kernel
theorem dX7_readImage_73 : decode cX7_readImage 73 = .ok (.iload 5, 2) := by decide +kernel
theorem dX7_readImage_75 : decode cX7_readImage 75 = .ok (.aload_n 0, 1) := by decide +kernel
theorem dX7_readImage_76 : decode cX7_readImage 76 = .ok (.getfield 9, 3) := by decide +kernel
theorem dX7_readImage_79 : decode cX7_readImage 79 = .ok (.iconst 1, 1) := by decide +kernel
theorem dX7_readImage_80 : decode cX7_readImage 80 = .ok (.iaload, 1) := by decide +kernel
theorem dX7_readImage_81 : decode cX7_readImage 81 = .ok (.if_icmp .ge 90, 3) := by decide +kernel
theorem dX7_readImage_84 : decode cX7_readImage 84 = .ok (.iload 4, 2) := by decide +kernel
theorem dX7_readImage_86 : decode cX7_readImage 86 = .ok (.iload_n 3, 1) := by decide +kernel
theorem dX7_readImage_87 : decode cX7_readImage 87 = .ok (.if_icmp .ge 21, 3) := by decide +kernel
theorem dX7_readImage_90 : decode cX7_readImage 90 = .ok (.aload_n 0, 1) := by decide +kernel
theorem dX7_readImage_91 : decode cX7_readImage 91 = .ok (.iload 4, 2) := by decide +kernel
theorem dX7_readImage_93 : decode cX7_readImage 93 = .ok (.iconst 1, 1) := by decide +kernel
theorem dX7_readImage_94 : decode cX7_readImage 94 = .ok (.iadd, 1) := by decide +kernel
theorem dX7_readImage_95 : decode cX7_readImage 95 = .ok (.aload_n 0, 1) := by decide +kernel
theorem dX7_readImage_96 : decode cX7_readImage 96 = .ok (.getfield 9, 3) := by decide +kernel
theorem dX7_readImage_99 : decode cX7_readImage 99 = .ok (.iload 4, 2) := by decide +kernel
theorem dX7_readImage_101 : decode cX7_readImage 101 = .ok (.iaload, 1) := by decide +kernel
theorem dX7_readImage_102 : decode cX7_readImage 102 = .ok (.invokevirtual 26, 3) := by decide +kernel
theorem dX7_readImage_105 : decode cX7_readImage 105 = .ok (.goto 4, 3) := by decide +kernel
theorem dX7_readImage_108 : decode cX7_readImage 108 = .ok (.aconst_null, 1) := by decide +kernel
theorem dX7_readImage_109 : decode cX7_readImage 109 = .ok (.astore 6, 2) := by decide +kernel
theorem dX7_readImage_111 : decode cX7_readImage 111 = .ok (.aload 6, 2) := by decide +kernel
theorem dX7_readImage_113 : decode cX7_readImage 113 = .ok (.ifnonnull 6, 3) := by decide +kernel
theorem dX7_readImage_116 : decode cX7_readImage 116 = .ok (.bipush (-5), 2) := by decide +kernel
theorem dX7_readImage_118 : decode cX7_readImage 118 = .ok (.ireturn, 1) := by decide +kernel
theorem dX7_readImage_119 : decode cX7_readImage 119 = .ok (.iload 4, 2) := by decide +kernel
theorem dX7_readImage_121 : decode cX7_readImage 121 = .ok (.iconst 1, 1) := by decide +kernel
theorem dX7_readImage_122 : decode cX7_readImage 122 = .ok (.iadd, 1) := by decide +kernel
theorem dX7_readImage_123 : decode cX7_readImage 123 = .ok (.aload 6, 2) := by decide +kernel
theorem dX7_readImage_125 : decode cX7_readImage 125 = .ok (.getfield 23, 3) := by decide +kernel
theorem dX7_readImage_128 : decode cX7_readImage 128 = .ok (.arraylength, 1) := by decide +kernel
theorem dX7_readImage_129 : decode cX7_readImage 129 = .ok (.iadd, 1) := by decide +kernel
theorem dX7_readImage_130 : decode cX7_readImage 130 = .ok (.istore 7, 2) := by decide +kernel
theorem dX7_readImage_132 : decode cX7_readImage 132 = .ok (.iload 7, 2) := by decide +kernel
theorem dX7_readImage_134 : decode cX7_readImage 134 = .ok (.iload_n 2, 1) := by decide +kernel
theorem dX7_readImage_135 : decode cX7_readImage 135 = .ok (.iadd, 1) := by decide +kernel
theorem dX7_readImage_136 : decode cX7_readImage 136 = .ok (.iload_n 3, 1) := by decide +kernel
theorem dX7_readImage_137 : decode cX7_readImage 137 = .ok (.if_icmp .gt 19, 3) := by decide +kernel
theorem dX7_readImage_140 : decode cX7_readImage 140 = .ok (.aload_n 1, 1) := by decide +kernel
theorem dX7_readImage_141 : decode cX7_readImage 141 = .ok (.aload 6, 2) := by decide +kernel
theorem dX7_readImage_143 : decode cX7_readImage 143 = .ok (.aload_n 0, 1) := by decide +kernel
theorem dX7_readImage_144 : decode cX7_readImage 144 = .ok (.iload 7, 2) := by decide +kernel
theorem dX7_readImage_146 : decode cX7_readImage 146 = .ok (.iload_n 2, 1) := by decide +kernel
theorem dX7_readImage_147 : decode cX7_readImage 147 = .ok (.invokevirtual 70, 3) := by decide +kernel
theorem dX7_readImage_150 : decode cX7_readImage 150 = .ok (.invokevirtual 74, 3) := by decide +kernel
theorem dX7_readImage_153 : decode cX7_readImage 153 = .ok (.ifCond .ne 6, 3) := by decide +kernel
theorem dX7_readImage_156 : decode cX7_readImage 156 = .ok (.bipush (-5), 2) := by decide +kernel
theorem dX7_readImage_158 : decode cX7_readImage 158 = .ok (.ireturn, 1) := by decide +kernel
theorem dX7_readImage_159 : decode cX7_readImage 159 = .ok (.iload 7, 2) := by decide +kernel
theorem dX7_readImage_161 : decode cX7_readImage 161 = .ok (.iload_n 2, 1) := by decide +kernel
theorem dX7_readImage_162 : decode cX7_readImage 162 = .ok (.iadd, 1) := by decide +kernel
theorem dX7_readImage_163 : decode cX7_readImage 163 = .ok (.istore 4, 2) := by decide +kernel
theorem dX7_readImage_165 : decode cX7_readImage 165 = .ok (.iinc 5 1, 3) := by decide +kernel
theorem dX7_readImage_168 : decode cX7_readImage 168 = .ok (.goto (-95), 3) := by decide +kernel
theorem dX7_readImage_171 : decode cX7_readImage 171 = .ok (.iload 4, 2) := by decide +kernel
theorem dX7_readImage_173 : decode cX7_readImage 173 = .ok (.iload_n 3, 1) := by decide +kernel
theorem dX7_readImage_174 : decode cX7_readImage 174 = .ok (.if_icmp .ne 20, 3) := by decide +kernel
theorem dX7_readImage_177 : decode cX7_readImage 177 = .ok (.aload_n 1, 1) := by decide +kernel
theorem dX7_readImage_178 : decode cX7_readImage 178 = .ok (.invokevirtual 39, 3) := by decide +kernel
theorem dX7_readImage_181 : decode cX7_readImage 181 = .ok (.iload_n 2, 1) := by decide +kernel
theorem dX7_readImage_182 : decode cX7_readImage 182 = .ok (.if_icmp .ne 12, 3) := by decide +kernel
theorem dX7_readImage_185 : decode cX7_readImage 185 = .ok (.aload_n 0, 1) := by decide +kernel
theorem dX7_readImage_186 : decode cX7_readImage 186 = .ok (.getfield 9, 3) := by decide +kernel
theorem dX7_readImage_189 : decode cX7_readImage 189 = .ok (.iconst 0, 1) := by decide +kernel
theorem dX7_readImage_190 : decode cX7_readImage 190 = .ok (.iaload, 1) := by decide +kernel
theorem dX7_readImage_191 : decode cX7_readImage 191 = .ok (.goto 5, 3) := by decide +kernel
theorem dX7_readImage_194 : decode cX7_readImage 194 = .ok (.bipush (-5), 2) := by decide +kernel
theorem dX7_readImage_196 : decode cX7_readImage 196 = .ok (.ireturn, 1) := by decide +kernel
theorem dX8_init_0 : decode cX8_init 0 = .ok (.aload_n 0, 1) := by decide +kernel
theorem dX8_init_1 : decode cX8_init 1 = .ok (.invokespecial 1, 3) := by decide +kernel
theorem dX8_init_4 : decode cX8_init 4 = .ok (.aload_n 0, 1) := by decide +kernel
theorem dX8_init_5 : decode cX8_init 5 = .ok (.iload_n 1, 1) := by decide +kernel
theorem dX8_init_6 : decode cX8_init 6 = .ok (.putfield 7, 3) := by decide +kernel
theorem dX8_init_9 : decode cX8_init 9 = .ok (.return_, 1) := by decide +kernel
theorem dX9_init_0 : decode cX9_init 0 = .ok (.aload_n 0, 1) := by decide +kernel
theorem dX9_init_1 : decode cX9_init 1 = .ok (.invokespecial 3, 3) := by decide +kernel
theorem dX9_init_4 : decode cX9_init 4 = .ok (.aload_n 0, 1) := by decide +kernel
theorem dX9_init_5 : decode cX9_init 5 = .ok (.bipush 75, 2) := by decide +kernel
theorem dX9_init_7 : decode cX9_init 7 = .ok (.newarray .int, 2) := by decide +kernel
theorem dX9_init_9 : decode cX9_init 9 = .ok (.putfield 9, 3) := by decide +kernel
theorem dX9_init_12 : decode cX9_init 12 = .ok (.aload_n 0, 1) := by decide +kernel
theorem dX9_init_13 : decode cX9_init 13 = .ok (.iconst 0, 1) := by decide +kernel
theorem dX9_init_14 : decode cX9_init 14 = .ok (.putfield 15, 3) := by decide +kernel
theorem dX9_init_17 : decode cX9_init 17 = .ok (.return_, 1) := by decide +kernel
theorem dX9_hasNumber_0 : decode cX9_hasNumber 0 = .ok (.iload_n 1, 1) := by decide +kernel
theorem dX9_hasNumber_1 : decode cX9_hasNumber 1 = .ok (.ifCond .lt 15, 3) := by decide +kernel
theorem dX9_hasNumber_4 : decode cX9_hasNumber 4 = .ok (.iload_n 1, 1) := by decide +kernel
theorem dX9_hasNumber_5 : decode cX9_hasNumber 5 = .ok (.aload_n 0, 1) := by decide +kernel
theorem dX9_hasNumber_6 : decode cX9_hasNumber 6 = .ok (.getfield 15, 3) := by decide +kernel
theorem dX9_hasNumber_9 : decode cX9_hasNumber 9 = .ok (.if_icmp .ge 7, 3) := by decide +kernel
theorem dX9_hasNumber_12 : decode cX9_hasNumber 12 = .ok (.iconst 1, 1) := by decide +kernel
theorem dX9_hasNumber_13 : decode cX9_hasNumber 13 = .ok (.goto 4, 3) := by decide +kernel
theorem dX9_hasNumber_16 : decode cX9_hasNumber 16 = .ok (.iconst 0, 1) := by decide +kernel
theorem dX9_hasNumber_17 : decode cX9_hasNumber 17 = .ok (.ireturn, 1) := by decide +kernel
theorem dX9_goDown_0 : decode cX9_goDown 0 = .ok (.aload_n 0, 1) := by decide +kernel
theorem dX9_goDown_1 : decode cX9_goDown 1 = .ok (.iconst 0, 1) := by decide +kernel
theorem dX9_goDown_2 : decode cX9_goDown 2 = .ok (.putfield 15, 3) := by decide +kernel
theorem dX9_goDown_5 : decode cX9_goDown 5 = .ok (.iconst 0, 1) := by decide +kernel
theorem dX9_goDown_6 : decode cX9_goDown 6 = .ok (.istore_n 3, 1) := by decide +kernel
theorem dX9_goDown_7 : decode cX9_goDown 7 = .ok (.iconst 0, 1) := by decide +kernel
theorem dX9_goDown_8 : decode cX9_goDown 8 = .ok (.istore 4, 2) := by decide +kernel
theorem dX9_goDown_10 : decode cX9_goDown 10 = .ok (.iload 4, 2) := by decide +kernel
theorem dX9_goDown_12 : decode cX9_goDown 12 = .ok (.aload_n 2, 1) := by decide +kernel
theorem dX9_goDown_13 : decode cX9_goDown 13 = .ok (.getfield 19, 3) := by decide +kernel
theorem dX9_goDown_16 : decode cX9_goDown 16 = .ok (.arraylength, 1) := by decide +kernel
theorem dX9_goDown_17 : decode cX9_goDown 17 = .ok (.if_icmp .ge 54, 3) := by decide +kernel
theorem dX9_goDown_20 : decode cX9_goDown 20 = .ok (.aload_n 1, 1) := by decide +kernel
theorem dX9_goDown_21 : decode cX9_goDown 21 = .ok (.iload_n 3, 1) := by decide +kernel
theorem dX9_goDown_22 : decode cX9_goDown 22 = .ok (.aload_n 2, 1) := by decide +kernel
theorem dX9_goDown_23 : decode cX9_goDown 23 = .ok (.getfield 19, 3) := by decide +kernel
theorem dX9_goDown_26 : decode cX9_goDown 26 = .ok (.iload 4, 2) := by decide +kernel
theorem dX9_goDown_28 : decode cX9_goDown 28 = .ok (.iaload, 1) := by decide +kernel
theorem dX9_goDown_29 : decode cX9_goDown 29 = .ok (.invokevirtual 24, 3) := by decide +kernel
theorem dX9_goDown_32 : decode cX9_goDown 32 = .ok (.istore 5, 2) := by decide +kernel
theorem dX9_goDown_34 : decode cX9_goDown 34 = .ok (.iload 5, 2) := by decide +kernel
theorem dX9_goDown_36 : decode cX9_goDown 36 = .ok (.iconst (-1), 1) := by decide +kernel
theorem dX9_goDown_37 : decode cX9_goDown 37 = .ok (.if_icmp .ne 6, 3) := by decide +kernel
theorem dX9_goDown_40 : decode cX9_goDown 40 = .ok (.goto 31, 3) := by decide +kernel
theorem dX9_goDown_43 : decode cX9_goDown 43 = .ok (.aload_n 0, 1) := by decide +kernel
theorem dX9_goDown_44 : decode cX9_goDown 44 = .ok (.iload 5, 2) := by decide +kernel
theorem dX9_goDown_46 : decode cX9_goDown 46 = .ok (.iload_n 3, 1) := by decide +kernel
theorem dX9_goDown_47 : decode cX9_goDown 47 = .ok (.iadd, 1) := by decide +kernel
theorem dX9_goDown_48 : decode cX9_goDown 48 = .ok (.iload 5, 2) := by decide +kernel
theorem dX9_goDown_50 : decode cX9_goDown 50 = .ok (.aload_n 2, 1) := by decide +kernel
theorem dX9_goDown_51 : decode cX9_goDown 51 = .ok (.getfield 19, 3) := by decide +kernel
theorem dX9_goDown_54 : decode cX9_goDown 54 = .ok (.iload 4, 2) := by decide +kernel
theorem dX9_goDown_56 : decode cX9_goDown 56 = .ok (.iaload, 1) := by decide +kernel
theorem dX9_goDown_57 : decode cX9_goDown 57 = .ok (.invokevirtual 30, 3) := by decide +kernel
theorem dX9_goDown_60 : decode cX9_goDown 60 = .ok (.iload 5, 2) := by decide +kernel
theorem dX9_goDown_62 : decode cX9_goDown 62 = .ok (.iconst 1, 1) := by decide +kernel
theorem dX9_goDown_63 : decode cX9_goDown 63 = .ok (.iadd, 1) := by decide +kernel
theorem dX9_goDown_64 : decode cX9_goDown 64 = .ok (.istore_n 3, 1) := by decide +kernel
theorem dX9_goDown_65 : decode cX9_goDown 65 = .ok (.iinc 4 1, 3) := by decide +kernel
theorem dX9_goDown_68 : decode cX9_goDown 68 = .ok (.goto (-58), 3) := by decide +kernel
theorem dX9_goDown_71 : decode cX9_goDown 71 = .ok (.aload_n 1, 1) := by decide +kernel
theorem dX9_goDown_72 : decode cX9_goDown 72 = .ok (.getfield 34, 3) := by decide +kernel
theorem dX9_goDown_75 : decode cX9_goDown 75 = .ok (.aload_n 1, 1) := by decide +kernel
theorem dX9_goDown_76 : decode cX9_goDown 76 = .ok (.getfield 34, 3) := by decide +kernel
theorem dX9_goDown_79 : decode cX9_goDown 79 = .ok (.aload_n 2, 1) := by decide +kernel
theorem dX9_goDown_80 : decode cX9_goDown 80 = .ok (.invokevirtual 38, 3) := by decide +kernel
theorem dX9_goDown_83 : decode cX9_goDown 83 = .ok (.aload_n 2, 1) := by decide +kernel
theorem dX9_goDown_84 : decode cX9_goDown 84 = .ok (.invokevirtual 44, 3) := by decide +kernel
theorem dX9_goDown_87 : decode cX9_goDown 87 = .ok (.ifCond .eq 7, 3) := by decide +kernel
theorem dX9_goDown_90 : decode cX9_goDown 90 = .ok (.iconst 1, 1) := by decide +kernel
theorem dX9_goDown_91 : decode cX9_goDown 91 = .ok (.goto 4, 3) := by decide +kernel
theorem dX9_goDown_94 : decode cX9_goDown 94 = .ok (.iconst 0, 1) := by decide +kernel
theorem dX9_goDown_95 : decode cX9_goDown 95 = .ok (.istore 4, 2) := by decide +kernel
theorem dX9_goDown_97 : decode cX9_goDown 97 = .ok (.aload_n 0, 1) := by decide +kernel
theorem dX9_goDown_98 : decode cX9_goDown 98 = .ok (.iconst (-1), 1) := by decide +kernel
theorem dX9_goDown_99 : decode cX9_goDown 99 = .ok (.iload_n 3, 1) := by decide +kernel
theorem dX9_goDown_100 : decode cX9_goDown 100 = .ok (.iload 4, 2) := by decide +kernel
theorem dX9_goDown_102 : decode cX9_goDown 102 = .ok (.invokevirtual 30, 3) := by decide +kernel
theorem dX9_goDown_105 : decode cX9_goDown 105 = .ok (.iload 4, 2) := by decide +kernel
theorem dX9_goDown_107 : decode cX9_goDown 107 = .ok (.ireturn, 1) := by decide +kernel
theorem dX9_addThree_0 : decode cX9_addThree 0 = .ok (.aload_n 0, 1) := by decide +kernel
theorem dX9_addThree_1 : decode cX9_addThree 1 = .ok (.getfield 15, 3) := by decide +kernel
theorem dX9_addThree_4 : decode cX9_addThree 4 = .ok (.iconst 3, 1) := by decide +kernel
theorem dX9_addThree_5 : decode cX9_addThree 5 = .ok (.iadd, 1) := by decide +kernel
theorem dX9_addThree_6 : decode cX9_addThree 6 = .ok (.aload_n 0, 1) := by decide +kernel
theorem dX9_addThree_7 : decode cX9_addThree 7 = .ok (.getfield 9, 3) := by decide +kernel
theorem dX9_addThree_10 : decode cX9_addThree 10 = .ok (.arraylength, 1) := by decide +kernel
theorem dX9_addThree_11 : decode cX9_addThree 11 = .ok (.if_icmp .le 4, 3) := by decide +kernel
theorem dX9_addThree_14 : decode cX9_addThree 14 = .ok (.return_, 1) := by decide +kernel
theorem dX9_addThree_15 : decode cX9_addThree 15 = .ok (.aload_n 0, 1) := by decide +kernel
theorem dX9_addThree_16 : decode cX9_addThree 16 = .ok (.getfield 9, 3) := by decide +kernel
theorem dX9_addThree_19 : decode cX9_addThree 19 = .ok (.aload_n 0, 1) := by decide +kernel
theorem dX9_addThree_20 : decode cX9_addThree 20 = .ok (.getfield 15, 3) := by decide +kernel
theorem dX9_addThree_23 : decode cX9_addThree 23 = .ok (.iload_n 1, 1) := by decide +kernel
theorem dX9_addThree_24 : decode cX9_addThree 24 = .ok (.iastore, 1) := by decide +kernel
theorem dX9_addThree_25 : decode cX9_addThree 25 = .ok (.aload_n 0, 1) := by decide +kernel
theorem dX9_addThree_26 : decode cX9_addThree 26 = .ok (.getfield 9, 3) := by decide +kernel
theorem dX9_addThree_29 : decode cX9_addThree 29 = .ok (.aload_n 0, 1) := by decide +kernel
theorem dX9_addThree_30 : decode cX9_addThree 30 = .ok (.getfield 15, 3) := by decide +kernel
theorem dX9_addThree_33 : decode cX9_addThree 33 = .ok (.iconst 1, 1) := by decide +kernel
theorem dX9_addThree_34 : decode cX9_addThree 34 = .ok (.iadd, 1) := by decide +kernel
theorem dX9_addThree_35 : decode cX9_addThree 35 = .ok (.iload_n 2, 1) := by decide +kernel
theorem dX9_addThree_36 : decode cX9_addThree 36 = .ok (.iastore, 1) := by decide +kernel
theorem dX9_addThree_37 : decode cX9_addThree 37 = .ok (.aload_n 0, 1) := by decide +kernel
theorem dX9_addThree_38 : decode cX9_addThree 38 = .ok (.getfield 9, 3) := by decide +kernel
theorem dX9_addThree_41 : decode cX9_addThree 41 = .ok (.aload_n 0, 1) := by decide +kernel
theorem dX9_addThree_42 : decode cX9_addThree 42 = .ok (.getfield 15, 3) := by decide +kernel
theorem dX9_addThree_45 : decode cX9_addThree 45 = .ok (.iconst 2, 1) := by decide +kernel
theorem dX9_addThree_46 : decode cX9_addThree 46 = .ok (.iadd, 1) := by decide +kernel
theorem dX9_addThree_47 : decode cX9_addThree 47 = .ok (.iload_n 3, 1) := by decide +kernel
theorem dX9_addThree_48 : decode cX9_addThree 48 = .ok (.iastore, 1) := by decide +kernel
theorem dX9_addThree_49 : decode cX9_addThree 49 = .ok (.aload_n 0, 1) := by decide +kernel
theorem dX9_addThree_50 : decode cX9_addThree 50 = .ok (.dup, 1) := by decide +kernel
theorem dX9_addThree_51 : decode cX9_addThree 51 = .ok (.getfield 15, 3) := by decide +kernel
theorem dX9_addThree_54 : decode cX9_addThree 54 = .ok (.iconst 3, 1) := by decide +kernel
theorem dX9_addThree_55 : decode cX9_addThree 55 = .ok (.iadd, 1) := by decide +kernel
theorem dX9_addThree_56 : decode cX9_addThree 56 = .ok (.putfield 15, 3) := by decide +kernel
theorem dX9_addThree_59 : decode cX9_addThree 59 = .ok (.return_, 1) := by decide +kernel
theorem dX9_isLike_0 : decode cX9_isLike 0 = .ok (.aload_n 0, 1) := by decide +kernel
theorem dX9_isLike_1 : decode cX9_isLike 1 = .ok (.getfield 15, 3) := by decide +kernel
theorem dX9_isLike_4 : decode cX9_isLike 4 = .ok (.aload_n 1, 1) := by decide +kernel
theorem dX9_isLike_5 : decode cX9_isLike 5 = .ok (.getfield 15, 3) := by decide +kernel
theorem dX9_isLike_8 : decode cX9_isLike 8 = .ok (.if_icmp .eq 5, 3) := by decide +kernel
theorem dX9_isLike_11 : decode cX9_isLike 11 = .ok (.iconst 0, 1) := by decide +kernel
theorem dX9_isLike_12 : decode cX9_isLike 12 = .ok (.ireturn, 1) := by decide +kernel
theorem dX9_isLike_13 : decode cX9_isLike 13 = .ok (.iconst 0, 1) := by decide +kernel
theorem dX9_isLike_14 : decode cX9_isLike 14 = .ok (.istore_n 2, 1) := by decide +kernel
theorem dX9_isLike_15 : decode cX9_isLike 15 = .ok (.iload_n 2, 1) := by decide +kernel
theorem dX9_isLike_16 : decode cX9_isLike 16 = .ok (.aload_n 0, 1) := by decide +kernel
theorem dX9_isLike_17 : decode cX9_isLike 17 = .ok (.getfield 15, 3) := by decide +kernel
theorem dX9_isLike_20 : decode cX9_isLike 20 = .ok (.if_icmp .ge 26, 3) := by decide +kernel
theorem dX9_isLike_23 : decode cX9_isLike 23 = .ok (.aload_n 0, 1) := by decide +kernel
theorem dX9_isLike_24 : decode cX9_isLike 24 = .ok (.getfield 9, 3) := by decide +kernel
theorem dX9_isLike_27 : decode cX9_isLike 27 = .ok (.iload_n 2, 1) := by decide +kernel
theorem dX9_isLike_28 : decode cX9_isLike 28 = .ok (.iaload, 1) := by decide +kernel
theorem dX9_isLike_29 : decode cX9_isLike 29 = .ok (.aload_n 1, 1) := by decide +kernel
theorem dX9_isLike_30 : decode cX9_isLike 30 = .ok (.getfield 9, 3) := by decide +kernel
theorem dX9_isLike_33 : decode cX9_isLike 33 = .ok (.iload_n 2, 1) := by decide +kernel
theorem dX9_isLike_34 : decode cX9_isLike 34 = .ok (.iaload, 1) := by decide +kernel
theorem dX9_isLike_35 : decode cX9_isLike 35 = .ok (.if_icmp .eq 5, 3) := by decide +kernel
theorem dX9_isLike_38 : decode cX9_isLike 38 = .ok (.iconst 0, 1) := by decide +kernel
theorem dX9_isLike_39 : decode cX9_isLike 39 = .ok (.ireturn, 1) := by decide +kernel
theorem dX9_isLike_40 : decode cX9_isLike 40 = .ok (.iinc 2 1, 3) := by decide +kernel
theorem dX9_isLike_43 : decode cX9_isLike 43 = .ok (.goto (-28), 3) := by decide +kernel
theorem dX9_isLike_46 : decode cX9_isLike 46 = .ok (.iconst 1, 1) := by decide +kernel
theorem dX9_isLike_47 : decode cX9_isLike 47 = .ok (.ireturn, 1) := by decide +kernel
theorem dX10_init_0 : decode cX10_init 0 = .ok (.aload_n 0, 1) := by decide +kernel
theorem dX10_init_1 : decode cX10_init 1 = .ok (.invokespecial 3, 3) := by decide +kernel
theorem dX10_init_4 : decode cX10_init 4 = .ok (.aload_n 0, 1) := by decide +kernel
theorem dX10_init_5 : decode cX10_init 5 = .ok (.bipush 10, 2) := by decide +kernel
theorem dX10_init_7 : decode cX10_init 7 = .ok (.anewarray 9, 3) := by decide +kernel
theorem dX10_init_10 : decode cX10_init 10 = .ok (.putfield 11, 3) := by decide +kernel
theorem dX10_init_13 : decode cX10_init 13 = .ok (.aload_n 0, 1) := by decide +kernel
theorem dX10_init_14 : decode cX10_init 14 = .ok (.new 15, 3) := by decide +kernel
theorem dX10_init_17 : decode cX10_init 17 = .ok (.dup, 1) := by decide +kernel
theorem dX10_init_18 : decode cX10_init 18 = .ok (.invokespecial 17, 3) := by decide +kernel
theorem dX10_init_21 : decode cX10_init 21 = .ok (.putfield 18, 3) := by decide +kernel
theorem dX10_init_24 : decode cX10_init 24 = .ok (.aload_n 0, 1) := by decide +kernel
theorem dX10_init_25 : decode cX10_init 25 = .ok (.new 22, 3) := by decide +kernel
theorem dX10_init_28 : decode cX10_init 28 = .ok (.dup, 1) := by decide +kernel
theorem dX10_init_29 : decode cX10_init 29 = .ok (.invokespecial 24, 3) := by decide +kernel
theorem dX10_init_32 : decode cX10_init 32 = .ok (.putfield 25, 3) := by decide +kernel
theorem dX10_init_35 : decode cX10_init 35 = .ok (.aload_n 0, 1) := by decide +kernel
theorem dX10_init_36 : decode cX10_init 36 = .ok (.new 22, 3) := by decide +kernel
theorem dX10_init_39 : decode cX10_init 39 = .ok (.dup, 1) := by decide +kernel
theorem dX10_init_40 : decode cX10_init 40 = .ok (.invokespecial 24, 3) := by decide +kernel
theorem dX10_init_43 : decode cX10_init 43 = .ok (.putfield 29, 3) := by decide +kernel
theorem dX10_init_46 : decode cX10_init 46 = .ok (.aload_n 0, 1) := by decide +kernel
theorem dX10_init_47 : decode cX10_init 47 = .ok (.new 32, 3) := by decide +kernel
theorem dX10_init_50 : decode cX10_init 50 = .ok (.dup, 1) := by decide +kernel
theorem dX10_init_51 : decode cX10_init 51 = .ok (.invokespecial 34, 3) := by decide +kernel
theorem dX10_init_54 : decode cX10_init 54 = .ok (.putfield 35, 3) := by decide +kernel
theorem dX10_init_57 : decode cX10_init 57 = .ok (.aload_n 0, 1) := by decide +kernel
theorem dX10_init_58 : decode cX10_init 58 = .ok (.new 39, 3) := by decide +kernel
theorem dX10_init_61 : decode cX10_init 61 = .ok (.dup, 1) := by decide +kernel
theorem dX10_init_62 : decode cX10_init 62 = .ok (.bipush 100, 2) := by decide +kernel
theorem dX10_init_64 : decode cX10_init 64 = .ok (.invokespecial 41, 3) := by decide +kernel
theorem dX10_init_67 : decode cX10_init 67 = .ok (.putfield 44, 3) := by decide +kernel
theorem dX10_init_70 : decode cX10_init 70 = .ok (.aload_n 0, 1) := by decide +kernel
theorem dX10_init_71 : decode cX10_init 71 = .ok (.iconst 0, 1) := by decide +kernel
theorem dX10_init_72 : decode cX10_init 72 = .ok (.putfield 48, 3) := by decide +kernel
theorem dX10_init_75 : decode cX10_init 75 = .ok (.return_, 1) := by decide +kernel
theorem dX10_feed_0 : decode cX10_feed 0 = .ok (.iload_n 3, 1) := by decide +kernel
theorem dX10_feed_1 : decode cX10_feed 1 = .ok (.iconst 1, 1) := by decide +kernel
theorem dX10_feed_2 : decode cX10_feed 2 = .ok (.if_icmp .lt 9, 3) := by decide +kernel
theorem dX10_feed_5 : decode cX10_feed 5 = .ok (.iload_n 3, 1) := by decide +kernel
theorem dX10_feed_6 : decode cX10_feed 6 = .ok (.bipush 8, 2) := by decide +kernel
theorem dX10_feed_8 : decode cX10_feed 8 = .ok (.if_icmp .le 6, 3) := by decide +kernel
theorem dX10_feed_11 : decode cX10_feed 11 = .ok (.bipush (-5), 2) := by decide +kernel
theorem dX10_feed_13 : decode cX10_feed 13 = .ok (.ireturn, 1) := by decide +kernel
theorem dX10_feed_14 : decode cX10_feed 14 = .ok (.aload_n 0, 1) := by decide +kernel
theorem dX10_feed_15 : decode cX10_feed 15 = .ok (.getfield 18, 3) := by decide +kernel
theorem dX10_feed_18 : decode cX10_feed 18 = .ok (.getfield 52, 3) := by decide +kernel
theorem dX10_feed_21 : decode cX10_feed 21 = .ok (.iload_n 3, 1) := by decide +kernel
theorem dX10_feed_22 : decode cX10_feed 22 = .ok (.iadd, 1) := by decide +kernel
theorem dX10_feed_23 : decode cX10_feed 23 = .ok (.sipush 1000, 3) := by decide +kernel
theorem dX10_feed_26 : decode cX10_feed 26 = .ok (.if_icmp .le 6, 3) := by decide +kernel
theorem dX10_feed_29 : decode cX10_feed 29 = .ok (.bipush (-7), 2) := by decide +kernel
theorem dX10_feed_31 : decode cX10_feed 31 = .ok (.ireturn, 1) := by decide +kernel
theorem dX10_feed_32 : decode cX10_feed 32 = .ok (.aload_n 0, 1) := by decide +kernel
theorem dX10_feed_33 : decode cX10_feed 33 = .ok (.getfield 18, 3) := by decide +kernel
theorem dX10_feed_36 : decode cX10_feed 36 = .ok (.lload_n 1, 1) := by decide +kernel
theorem dX10_feed_37 : decode cX10_feed 37 = .ok (.iload_n 3, 1) := by decide +kernel
theorem dX10_feed_38 : decode cX10_feed 38 = .ok (.invokevirtual 55, 3) := by decide +kernel
theorem dX10_feed_41 : decode cX10_feed 41 = .ok (.aload_n 0, 1) := by decide +kernel
theorem dX10_feed_42 : decode cX10_feed 42 = .ok (.getfield 18, 3) := by decide +kernel
theorem dX10_feed_45 : decode cX10_feed 45 = .ok (.getfield 52, 3) := by decide +kernel
theorem dX10_feed_48 : decode cX10_feed 48 = .ok (.ireturn, 1) := by decide +kernel
theorem dX10_cut_0 : decode cX10_cut 0 = .ok (.iload_n 1, 1) := by decide +kernel
theorem dX10_cut_1 : decode cX10_cut 1 = .ok (.ifCond .lt 14, 3) := by decide +kernel
theorem dX10_cut_4 : decode cX10_cut 4 = .ok (.iload_n 1, 1) := by decide +kernel
theorem dX10_cut_5 : decode cX10_cut 5 = .ok (.aload_n 0, 1) := by decide +kernel
theorem dX10_cut_6 : decode cX10_cut 6 = .ok (.getfield 18, 3) := by decide +kernel
theorem dX10_cut_9 : decode cX10_cut 9 = .ok (.getfield 52, 3) := by decide +kernel
theorem dX10_cut_12 : decode cX10_cut 12 = .ok (.if_icmp .le 6, 3) := by decide +kernel
theorem dX10_cut_15 : decode cX10_cut 15 = .ok (.bipush (-5), 2) := by decide +kernel
theorem dX10_cut_17 : decode cX10_cut 17 = .ok (.ireturn, 1) := by decide +kernel
theorem dX10_cut_18 : decode cX10_cut 18 = .ok (.aload_n 0, 1) := by decide +kernel
theorem dX10_cut_19 : decode cX10_cut 19 = .ok (.getfield 18, 3) := by decide +kernel
theorem dX10_cut_22 : decode cX10_cut 22 = .ok (.iload_n 1, 1) := by decide +kernel
theorem dX10_cut_23 : decode cX10_cut 23 = .ok (.putfield 52, 3) := by decide +kernel
theorem dX10_cut_26 : decode cX10_cut 26 = .ok (.iload_n 1, 1) := by decide +kernel
theorem dX10_cut_27 : decode cX10_cut 27 = .ok (.ireturn, 1) := by decide +kernel
theorem dX10_tape_0 : decode cX10_tape 0 = .ok (.iload_n 1, 1) := by decide +kernel
theorem dX10_tape_1 : decode cX10_tape 1 = .ok (.ifCond .lt 26, 3) := by decide +kernel
theorem dX10_tape_4 : decode cX10_tape 4 = .ok (.iload_n 1, 1) := by decide +kernel
theorem dX10_tape_5 : decode cX10_tape 5 = .ok (.aload_n 0, 1) := by decide +kernel
theorem dX10_tape_6 : decode cX10_tape 6 = .ok (.getfield 18, 3) := by decide +kernel
theorem dX10_tape_9 : decode cX10_tape 9 = .ok (.getfield 52, 3) := by decide +kernel
theorem dX10_tape_12 : decode cX10_tape 12 = .ok (.if_icmp .ge 15, 3) := by decide +kernel
theorem dX10_tape_15 : decode cX10_tape 15 = .ok (.aload_n 0, 1) := by decide +kernel
theorem dX10_tape_16 : decode cX10_tape 16 = .ok (.getfield 18, 3) := by decide +kernel
theorem dX10_tape_19 : decode cX10_tape 19 = .ok (.getfield 59, 3) := by decide +kernel
theorem dX10_tape_22 : decode cX10_tape 22 = .ok (.iload_n 1, 1) := by decide +kernel
theorem dX10_tape_23 : decode cX10_tape 23 = .ok (.iaload, 1) := by decide +kernel
theorem dX10_tape_24 : decode cX10_tape 24 = .ok (.goto 4, 3) := by decide +kernel
theorem dX10_tape_27 : decode cX10_tape 27 = .ok (.iconst (-1), 1) := by decide +kernel
theorem dX10_tape_28 : decode cX10_tape 28 = .ok (.ireturn, 1) := by decide +kernel
theorem dX10_draft_0 : decode cX10_draft 0 = .ok (.iload_n 1, 1) := by decide +kernel
theorem dX10_draft_1 : decode cX10_draft 1 = .ok (.invokestatic 63, 3) := by decide +kernel
theorem dX10_draft_4 : decode cX10_draft 4 = .ok (.ifCond .eq 6, 3) := by decide +kernel
theorem dX10_draft_7 : decode cX10_draft 7 = .ok (.bipush (-2), 2) := by decide +kernel
theorem dX10_draft_9 : decode cX10_draft 9 = .ok (.ireturn, 1) := by decide +kernel
theorem dX10_draft_10 : decode cX10_draft 10 = .ok (.aload_n 0, 1) := by decide +kernel
theorem dX10_draft_11 : decode cX10_draft 11 = .ok (.getfield 11, 3) := by decide +kernel
theorem dX10_draft_14 : decode cX10_draft 14 = .ok (.iload_n 1, 1) := by decide +kernel
theorem dX10_draft_15 : decode cX10_draft 15 = .ok (.new 67, 3) := by decide +kernel
theorem dX10_draft_18 : decode cX10_draft 18 = .ok (.dup, 1) := by decide +kernel
theorem dX10_draft_19 : decode cX10_draft 19 = .ok (.new 39, 3) := by decide +kernel
theorem dX10_draft_22 : decode cX10_draft 22 = .ok (.dup, 1) := by decide +kernel
theorem dX10_draft_23 : decode cX10_draft 23 = .ok (.bipush 100, 2) := by decide +kernel
theorem dX10_draft_25 : decode cX10_draft 25 = .ok (.invokespecial 41, 3) := by decide +kernel
theorem dX10_draft_28 : decode cX10_draft 28 = .ok (.invokespecial 69, 3) := by decide +kernel
theorem dX10_draft_31 : decode cX10_draft 31 = .ok (.aastore, 1) := by decide +kernel
theorem dX10_draft_32 : decode cX10_draft 32 = .ok (.iconst 0, 1) := by decide +kernel
theorem dX10_draft_33 : decode cX10_draft 33 = .ok (.ireturn, 1) := by decide +kernel
theorem dX10_row_0 : decode cX10_row 0 = .ok (.iload_n 1, 1) := by decide +kernel
theorem dX10_row_1 : decode cX10_row 1 = .ok (.invokestatic 63, 3) := by decide +kernel
theorem dX10_row_4 : decode cX10_row 4 = .ok (.ifCond .eq 6, 3) := by decide +kernel
theorem dX10_row_7 : decode cX10_row 7 = .ok (.bipush (-2), 2) := by decide +kernel
theorem dX10_row_9 : decode cX10_row 9 = .ok (.ireturn, 1) := by decide +kernel
theorem dX10_row_10 : decode cX10_row 10 = .ok (.iload_n 2, 1) := by decide +kernel
theorem dX10_row_11 : decode cX10_row 11 = .ok (.ifCond .lt 10, 3) := by decide +kernel
theorem dX10_row_14 : decode cX10_row 14 = .ok (.iload_n 2, 1) := by decide +kernel
theorem dX10_row_15 : decode cX10_row 15 = .ok (.sipush 4000, 3) := by decide +kernel
theorem dX10_row_18 : decode cX10_row 18 = .ok (.if_icmp .le 6, 3) := by decide +kernel
theorem dX10_row_21 : decode cX10_row 21 = .ok (.bipush (-5), 2) := by decide +kernel
theorem dX10_row_23 : decode cX10_row 23 = .ok (.ireturn, 1) := by decide +kernel
theorem dX10_row_24 : decode cX10_row 24 = .ok (.aload_n 0, 1) := by decide +kernel
theorem dX10_row_25 : decode cX10_row 25 = .ok (.getfield 11, 3) := by decide +kernel
theorem dX10_row_28 : decode cX10_row 28 = .ok (.iload_n 1, 1) := by decide +kernel
theorem dX10_row_29 : decode cX10_row 29 = .ok (.new 72, 3) := by decide +kernel
theorem dX10_row_32 : decode cX10_row 32 = .ok (.dup, 1) := by decide +kernel
theorem dX10_row_33 : decode cX10_row 33 = .ok (.new 74, 3) := by decide +kernel
theorem dX10_row_36 : decode cX10_row 36 = .ok (.dup, 1) := by decide +kernel
theorem dX10_row_37 : decode cX10_row 37 = .ok (.iload_n 2, 1) := by decide +kernel
theorem dX10_row_38 : decode cX10_row 38 = .ok (.invokespecial 76, 3) := by decide +kernel
theorem dX10_row_41 : decode cX10_row 41 = .ok (.invokespecial 77, 3) := by decide +kernel
theorem dX10_row_44 : decode cX10_row 44 = .ok (.aastore, 1) := by decide +kernel
theorem dX10_row_45 : decode cX10_row 45 = .ok (.iload_n 2, 1) := by decide +kernel
theorem dX10_row_46 : decode cX10_row 46 = .ok (.ireturn, 1) := by decide +kernel
theorem dX10_clear_0 : decode cX10_clear 0 = .ok (.iload_n 1, 1) := by decide +kernel
theorem dX10_clear_1 : decode cX10_clear 1 = .ok (.invokestatic 63, 3) := by decide +kernel
theorem dX10_clear_4 : decode cX10_clear 4 = .ok (.ifCond .eq 6, 3) := by decide +kernel
theorem dX10_clear_7 : decode cX10_clear 7 = .ok (.bipush (-2), 2) := by decide +kernel
theorem dX10_clear_9 : decode cX10_clear 9 = .ok (.ireturn, 1) := by decide +kernel
theorem dX10_clear_10 : decode cX10_clear 10 = .ok (.aload_n 0, 1) := by decide +kernel
theorem dX10_clear_11 : decode cX10_clear 11 = .ok (.iload_n 1, 1) := by decide +kernel
theorem dX10_clear_12 : decode cX10_clear 12 = .ok (.invokevirtual 80, 3) := by decide +kernel
theorem dX10_clear_15 : decode cX10_clear 15 = .ok (.istore_n 2, 1) := by decide +kernel
theorem dX10_clear_16 : decode cX10_clear 16 = .ok (.aload_n 0, 1) := by decide +kernel
theorem dX10_clear_17 : decode cX10_clear 17 = .ok (.getfield 11, 3) := by decide +kernel
theorem dX10_clear_20 : decode cX10_clear 20 = .ok (.iload_n 1, 1) := by decide +kernel
theorem dX10_clear_21 : decode cX10_clear 21 = .ok (.aconst_null, 1) := by decide +kernel
theorem dX10_clear_22 : decode cX10_clear 22 = .ok (.aastore, 1) := by decide +kernel
theorem dX10_clear_23 : decode cX10_clear 23 = .ok (.iload_n 2, 1) := by decide +kernel
theorem dX10_clear_24 : decode cX10_clear 24 = .ok (.ireturn, 1) := by decide +kernel
theorem dX10_share_0 : decode cX10_share 0 = .ok (.iload_n 1, 1) := by decide +kernel
theorem dX10_share_1 : decode cX10_share 1 = .ok (.invokestatic 63, 3) := by decide +kernel
theorem dX10_share_4 : decode cX10_share 4 = .ok (.ifCond .ne 10, 3) := by decide +kernel
theorem dX10_share_7 : decode cX10_share 7 = .ok (.iload_n 2, 1) := by decide +kernel
theorem dX10_share_8 : decode cX10_share 8 = .ok (.invokestatic 63, 3) := by decide +kernel
theorem dX10_share_11 : decode cX10_share 11 = .ok (.ifCond .eq 6, 3) := by decide +kernel
theorem dX10_share_14 : decode cX10_share 14 = .ok (.bipush (-2), 2) := by decide +kernel
theorem dX10_share_16 : decode cX10_share 16 = .ok (.ireturn, 1) := by decide +kernel
theorem dX10_share_17 : decode cX10_share 17 = .ok (.aload_n 0, 1) := by decide +kernel
theorem dX10_share_18 : decode cX10_share 18 = .ok (.getfield 11, 3) := by decide +kernel
theorem dX10_share_21 : decode cX10_share 21 = .ok (.iload_n 1, 1) := by decide +kernel
theorem dX10_share_22 : decode cX10_share 22 = .ok (.aaload, 1) := by decide +kernel
theorem dX10_share_23 : decode cX10_share 23 = .ok (.ifnonnull 6, 3) := by decide +kernel
theorem dX10_share_26 : decode cX10_share 26 = .ok (.bipush (-3), 2) := by decide +kernel
theorem dX10_share_28 : decode cX10_share 28 = .ok (.ireturn, 1) := by decide +kernel
theorem dX10_share_29 : decode cX10_share 29 = .ok (.aload_n 0, 1) := by decide +kernel
theorem dX10_share_30 : decode cX10_share 30 = .ok (.getfield 11, 3) := by decide +kernel
theorem dX10_share_33 : decode cX10_share 33 = .ok (.iload_n 2, 1) := by decide +kernel
theorem dX10_share_34 : decode cX10_share 34 = .ok (.aload_n 0, 1) := by decide +kernel
theorem dX10_share_35 : decode cX10_share 35 = .ok (.getfield 11, 3) := by decide +kernel
theorem dX10_share_38 : decode cX10_share 38 = .ok (.iload_n 1, 1) := by decide +kernel
theorem dX10_share_39 : decode cX10_share 39 = .ok (.aaload, 1) := by decide +kernel
theorem dX10_share_40 : decode cX10_share 40 = .ok (.aastore, 1) := by decide +kernel
theorem dX10_share_41 : decode cX10_share 41 = .ok (.aload_n 0, 1) := by decide +kernel
theorem dX10_share_42 : decode cX10_share 42 = .ok (.iload_n 2, 1) := by decide +kernel
theorem dX10_share_43 : decode cX10_share 43 = .ok (.invokevirtual 80, 3) := by decide +kernel
theorem dX10_share_46 : decode cX10_share 46 = .ok (.ireturn, 1) := by decide +kernel
theorem dX10_kind_0 : decode cX10_kind 0 = .ok (.iload_n 1, 1) := by decide +kernel
theorem dX10_kind_1 : decode cX10_kind 1 = .ok (.invokestatic 63, 3) := by decide +kernel
theorem dX10_kind_4 : decode cX10_kind 4 = .ok (.ifCond .eq 8, 3) := by decide +kernel
theorem dX10_kind_7 : decode cX10_kind 7 = .ok (.bipush (-2), 2) := by decide +kernel
theorem dX10_kind_9 : decode cX10_kind 9 = .ok (.goto 8, 3) := by decide +kernel
theorem dX10_kind_12 : decode cX10_kind 12 = .ok (.aload_n 0, 1) := by decide +kernel
theorem dX10_kind_13 : decode cX10_kind 13 = .ok (.iload_n 1, 1) := by decide +kernel
theorem dX10_kind_14 : decode cX10_kind 14 = .ok (.invokevirtual 80, 3) := by decide +kernel
theorem dX10_kind_17 : decode cX10_kind 17 = .ok (.ireturn, 1) := by decide +kernel
theorem dX10_put_0 : decode cX10_put 0 = .ok (.aload_n 0, 1) := by decide +kernel
theorem dX10_put_1 : decode cX10_put 1 = .ok (.iload_n 1, 1) := by decide +kernel
theorem dX10_put_2 : decode cX10_put 2 = .ok (.invokevirtual 84, 3) := by decide +kernel
theorem dX10_put_5 : decode cX10_put 5 = .ok (.astore 4, 2) := by decide +kernel
theorem dX10_put_7 : decode cX10_put 7 = .ok (.aload 4, 2) := by decide +kernel
theorem dX10_put_9 : decode cX10_put 9 = .ok (.ifnonnull 9, 3) := by decide +kernel
theorem dX10_put_12 : decode cX10_put 12 = .ok (.aload_n 0, 1) := by decide +kernel
theorem dX10_put_13 : decode cX10_put 13 = .ok (.iload_n 1, 1) := by decide +kernel
theorem dX10_put_14 : decode cX10_put 14 = .ok (.invokevirtual 88, 3) := by decide +kernel
theorem dX10_put_17 : decode cX10_put 17 = .ok (.ireturn, 1) := by decide +kernel
theorem dX10_put_18 : decode cX10_put 18 = .ok (.aload_n 0, 1) := by decide +kernel
theorem dX10_put_19 : decode cX10_put 19 = .ok (.getfield 18, 3) := by decide +kernel
theorem dX10_put_22 : decode cX10_put 22 = .ok (.invokevirtual 91, 3) := by decide +kernel
theorem dX10_put_25 : decode cX10_put 25 = .ok (.astore 5, 2) := by decide +kernel
theorem dX10_put_27 : decode cX10_put 27 = .ok (.aload 5, 2) := by decide +kernel
theorem dX10_put_29 : decode cX10_put 29 = .ok (.ifnonnull 8, 3) := by decide +kernel
theorem dX10_put_32 : decode cX10_put 32 = .ok (.bipush (-5), 2) := by decide +kernel
theorem dX10_put_34 : decode cX10_put 34 = .ok (.goto 14, 3) := by decide +kernel
theorem dX10_put_37 : decode cX10_put 37 = .ok (.aload 4, 2) := by decide +kernel
theorem dX10_put_39 : decode cX10_put 39 = .ok (.getfield 95, 3) := by decide +kernel
theorem dX10_put_42 : decode cX10_put 42 = .ok (.aload 5, 2) := by decide +kernel
theorem dX10_put_44 : decode cX10_put 44 = .ok (.lload_n 2, 1) := by decide +kernel
theorem dX10_put_45 : decode cX10_put 45 = .ok (.invokevirtual 98, 3) := by decide +kernel
theorem dX10_put_48 : decode cX10_put 48 = .ok (.ireturn, 1) := by decide +kernel
theorem dX10_unput_0 : decode cX10_unput 0 = .ok (.aload_n 0, 1) := by decide +kernel
theorem dX10_unput_1 : decode cX10_unput 1 = .ok (.iload_n 1, 1) := by decide +kernel
theorem dX10_unput_2 : decode cX10_unput 2 = .ok (.invokevirtual 84, 3) := by decide +kernel
theorem dX10_unput_5 : decode cX10_unput 5 = .ok (.astore_n 2, 1) := by decide +kernel
theorem dX10_unput_6 : decode cX10_unput 6 = .ok (.aload_n 2, 1) := by decide +kernel
theorem dX10_unput_7 : decode cX10_unput 7 = .ok (.ifnonnull 9, 3) := by decide +kernel
theorem dX10_unput_10 : decode cX10_unput 10 = .ok (.aload_n 0, 1) := by decide +kernel
theorem dX10_unput_11 : decode cX10_unput 11 = .ok (.iload_n 1, 1) := by decide +kernel
theorem dX10_unput_12 : decode cX10_unput 12 = .ok (.invokevirtual 88, 3) := by decide +kernel
theorem dX10_unput_15 : decode cX10_unput 15 = .ok (.ireturn, 1) := by decide +kernel
theorem dX10_unput_16 : decode cX10_unput 16 = .ok (.aload_n 0, 1) := by decide +kernel
theorem dX10_unput_17 : decode cX10_unput 17 = .ok (.getfield 18, 3) := by decide +kernel
theorem dX10_unput_20 : decode cX10_unput 20 = .ok (.invokevirtual 91, 3) := by decide +kernel
theorem dX10_unput_23 : decode cX10_unput 23 = .ok (.astore_n 3, 1) := by decide +kernel
theorem dX10_unput_24 : decode cX10_unput 24 = .ok (.aload_n 3, 1) := by decide +kernel
theorem dX10_unput_25 : decode cX10_unput 25 = .ok (.ifnonnull 8, 3) := by decide +kernel
theorem dX10_unput_28 : decode cX10_unput 28 = .ok (.bipush (-5), 2) := by decide +kernel
theorem dX10_unput_30 : decode cX10_unput 30 = .ok (.goto 11, 3) := by decide +kernel
theorem dX10_unput_33 : decode cX10_unput 33 = .ok (.aload_n 2, 1) := by decide +kernel
theorem dX10_unput_34 : decode cX10_unput 34 = .ok (.getfield 95, 3) := by decide +kernel
theorem dX10_unput_37 : decode cX10_unput 37 = .ok (.aload_n 3, 1) := by decide +kernel
theorem dX10_unput_38 : decode cX10_unput 38 = .ok (.invokevirtual 102, 3) := by decide +kernel
theorem dX10_unput_41 : decode cX10_unput 41 = .ok (.ireturn, 1) := by decide +kernel
theorem dX10_seal_0 : decode cX10_seal 0 = .ok (.iload_n 1, 1) := by decide +kernel
theorem dX10_seal_1 : decode cX10_seal 1 = .ok (.invokestatic 63, 3) := by decide +kernel
theorem dX10_seal_4 : decode cX10_seal 4 = .ok (.ifCond .ne 10, 3) := by decide +kernel
theorem dX10_seal_7 : decode cX10_seal 7 = .ok (.iload_n 2, 1) := by decide +kernel
theorem dX10_seal_8 : decode cX10_seal 8 = .ok (.invokestatic 63, 3) := by decide +kernel
theorem dX10_seal_11 : decode cX10_seal 11 = .ok (.ifCond .eq 6, 3) := by decide +kernel
theorem dX10_seal_14 : decode cX10_seal 14 = .ok (.bipush (-2), 2) := by decide +kernel
theorem dX10_seal_16 : decode cX10_seal 16 = .ok (.ireturn, 1) := by decide +kernel
theorem dX10_seal_17 : decode cX10_seal 17 = .ok (.aload_n 0, 1) := by decide +kernel
theorem dX10_seal_18 : decode cX10_seal 18 = .ok (.iload_n 1, 1) := by decide +kernel
theorem dX10_seal_19 : decode cX10_seal 19 = .ok (.invokevirtual 84, 3) := by decide +kernel
theorem dX10_seal_22 : decode cX10_seal 22 = .ok (.astore 4, 2) := by decide +kernel
theorem dX10_seal_24 : decode cX10_seal 24 = .ok (.aload 4, 2) := by decide +kernel
theorem dX10_seal_26 : decode cX10_seal 26 = .ok (.ifnonnull 9, 3) := by decide +kernel
theorem dX10_seal_29 : decode cX10_seal 29 = .ok (.aload_n 0, 1) := by decide +kernel
theorem dX10_seal_30 : decode cX10_seal 30 = .ok (.iload_n 1, 1) := by decide +kernel
theorem dX10_seal_31 : decode cX10_seal 31 = .ok (.invokevirtual 88, 3) := by decide +kernel
theorem dX10_seal_34 : decode cX10_seal 34 = .ok (.ireturn, 1) := by decide +kernel
theorem dX10_seal_35 : decode cX10_seal 35 = .ok (.aload_n 0, 1) := by decide +kernel
theorem dX10_seal_36 : decode cX10_seal 36 = .ok (.iload_n 2, 1) := by decide +kernel
theorem dX10_seal_37 : decode cX10_seal 37 = .ok (.aload_n 0, 1) := by decide +kernel
theorem dX10_seal_38 : decode cX10_seal 38 = .ok (.getfield 35, 3) := by decide +kernel
theorem dX10_seal_41 : decode cX10_seal 41 = .ok (.aload 4, 2) := by decide +kernel
theorem dX10_seal_43 : decode cX10_seal 43 = .ok (.getfield 95, 3) := by decide +kernel
theorem dX10_seal_46 : decode cX10_seal 46 = .ok (.iload_n 3, 1) := by decide +kernel
theorem dX10_seal_47 : decode cX10_seal 47 = .ok (.invokevirtual 106, 3) := by decide +kernel
theorem dX10_seal_50 : decode cX10_seal 50 = .ok (.invokevirtual 110, 3) := by decide +kernel
theorem dX10_seal_53 : decode cX10_seal 53 = .ok (.ireturn, 1) := by decide +kernel
theorem dX10_unseal_0 : decode cX10_unseal 0 = .ok (.iload_n 1, 1) := by decide +kernel
theorem dX10_unseal_1 : decode cX10_unseal 1 = .ok (.invokestatic 63, 3) := by decide +kernel
theorem dX10_unseal_4 : decode cX10_unseal 4 = .ok (.ifCond .ne 10, 3) := by decide +kernel
theorem dX10_unseal_7 : decode cX10_unseal 7 = .ok (.iload_n 2, 1) := by decide +kernel
theorem dX10_unseal_8 : decode cX10_unseal 8 = .ok (.invokestatic 63, 3) := by decide +kernel
theorem dX10_unseal_11 : decode cX10_unseal 11 = .ok (.ifCond .eq 6, 3) := by decide +kernel
theorem dX10_unseal_14 : decode cX10_unseal 14 = .ok (.bipush (-2), 2) := by decide +kernel
theorem dX10_unseal_16 : decode cX10_unseal 16 = .ok (.ireturn, 1) := by decide +kernel
theorem dX10_unseal_17 : decode cX10_unseal 17 = .ok (.aload_n 0, 1) := by decide +kernel
theorem dX10_unseal_18 : decode cX10_unseal 18 = .ok (.iload_n 1, 1) := by decide +kernel
theorem dX10_unseal_19 : decode cX10_unseal 19 = .ok (.invokevirtual 114, 3) := by decide +kernel
theorem dX10_unseal_22 : decode cX10_unseal 22 = .ok (.astore_n 3, 1) := by decide +kernel
theorem dX10_unseal_23 : decode cX10_unseal 23 = .ok (.aload_n 3, 1) := by decide +kernel
theorem dX10_unseal_24 : decode cX10_unseal 24 = .ok (.ifnonnull 9, 3) := by decide +kernel
theorem dX10_unseal_27 : decode cX10_unseal 27 = .ok (.aload_n 0, 1) := by decide +kernel
theorem dX10_unseal_28 : decode cX10_unseal 28 = .ok (.iload_n 1, 1) := by decide +kernel
theorem dX10_unseal_29 : decode cX10_unseal 29 = .ok (.invokevirtual 88, 3) := by decide +kernel
theorem dX10_unseal_32 : decode cX10_unseal 32 = .ok (.ireturn, 1) := by decide +kernel
theorem dX10_unseal_33 : decode cX10_unseal 33 = .ok (.aload_n 3, 1) := by decide +kernel
theorem dX10_unseal_34 : decode cX10_unseal 34 = .ok (.invokevirtual 118, 3) := by decide +kernel
theorem dX10_unseal_37 : decode cX10_unseal 37 = .ok (.ifCond .eq 6, 3) := by decide +kernel
theorem dX10_unseal_40 : decode cX10_unseal 40 = .ok (.bipush (-6), 2) := by decide +kernel
theorem dX10_unseal_42 : decode cX10_unseal 42 = .ok (.ireturn, 1) := by decide +kernel
theorem dX10_unseal_43 : decode cX10_unseal 43 = .ok (.aload_n 0, 1) := by decide +kernel
theorem dX10_unseal_44 : decode cX10_unseal 44 = .ok (.getfield 11, 3) := by decide +kernel
theorem dX10_unseal_47 : decode cX10_unseal 47 = .ok (.iload_n 2, 1) := by decide +kernel
theorem dX10_unseal_48 : decode cX10_unseal 48 = .ok (.new 67, 3) := by decide +kernel
theorem dX10_unseal_51 : decode cX10_unseal 51 = .ok (.dup, 1) := by decide +kernel
theorem dX10_unseal_52 : decode cX10_unseal 52 = .ok (.aload_n 3, 1) := by decide +kernel
theorem dX10_unseal_53 : decode cX10_unseal 53 = .ok (.getfield 124, 3) := by decide +kernel
theorem dX10_unseal_56 : decode cX10_unseal 56 = .ok (.bipush 100, 2) := by decide +kernel
theorem dX10_unseal_58 : decode cX10_unseal 58 = .ok (.invokevirtual 125, 3) := by decide +kernel
theorem dX10_unseal_61 : decode cX10_unseal 61 = .ok (.invokespecial 69, 3) := by decide +kernel
theorem dX10_unseal_64 : decode cX10_unseal 64 = .ok (.aastore, 1) := by decide +kernel
theorem dX10_unseal_65 : decode cX10_unseal 65 = .ok (.aload_n 3, 1) := by decide +kernel
theorem dX10_unseal_66 : decode cX10_unseal 66 = .ok (.getfield 124, 3) := by decide +kernel
theorem dX10_unseal_69 : decode cX10_unseal 69 = .ok (.getfield 129, 3) := by decide +kernel
theorem dX10_unseal_72 : decode cX10_unseal 72 = .ok (.ireturn, 1) := by decide +kernel
theorem dX10_merge_0 : decode cX10_merge 0 = .ok (.iload_n 1, 1) := by decide +kernel
theorem dX10_merge_1 : decode cX10_merge 1 = .ok (.invokestatic 63, 3) := by decide +kernel
theorem dX10_merge_4 : decode cX10_merge 4 = .ok (.ifCond .ne 17, 3) := by decide +kernel
theorem dX10_merge_7 : decode cX10_merge 7 = .ok (.iload_n 2, 1) := by decide +kernel
theorem dX10_merge_8 : decode cX10_merge 8 = .ok (.invokestatic 63, 3) := by decide +kernel
theorem dX10_merge_11 : decode cX10_merge 11 = .ok (.ifCond .ne 10, 3) := by decide +kernel
theorem dX10_merge_14 : decode cX10_merge 14 = .ok (.iload_n 3, 1) := by decide +kernel
theorem dX10_merge_15 : decode cX10_merge 15 = .ok (.invokestatic 63, 3) := by decide +kernel
theorem dX10_merge_18 : decode cX10_merge 18 = .ok (.ifCond .eq 6, 3) := by decide +kernel
theorem dX10_merge_21 : decode cX10_merge 21 = .ok (.bipush (-2), 2) := by decide +kernel
theorem dX10_merge_23 : decode cX10_merge 23 = .ok (.ireturn, 1) := by decide +kernel
theorem dX10_merge_24 : decode cX10_merge 24 = .ok (.aload_n 0, 1) := by decide +kernel
theorem dX10_merge_25 : decode cX10_merge 25 = .ok (.getfield 11, 3) := by decide +kernel
theorem dX10_merge_28 : decode cX10_merge 28 = .ok (.iload_n 1, 1) := by decide +kernel
theorem dX10_merge_29 : decode cX10_merge 29 = .ok (.aaload, 1) := by decide +kernel
theorem dX10_merge_30 : decode cX10_merge 30 = .ok (.ifnull 12, 3) := by decide +kernel
theorem dX10_merge_33 : decode cX10_merge 33 = .ok (.aload_n 0, 1) := by decide +kernel
theorem dX10_merge_34 : decode cX10_merge 34 = .ok (.getfield 11, 3) := by decide +kernel
theorem dX10_merge_37 : decode cX10_merge 37 = .ok (.iload_n 2, 1) := by decide +kernel
theorem dX10_merge_38 : decode cX10_merge 38 = .ok (.aaload, 1) := by decide +kernel
theorem dX10_merge_39 : decode cX10_merge 39 = .ok (.ifnonnull 6, 3) := by decide +kernel
theorem dX10_merge_42 : decode cX10_merge 42 = .ok (.bipush (-3), 2) := by decide +kernel
theorem dX10_merge_44 : decode cX10_merge 44 = .ok (.ireturn, 1) := by decide +kernel
theorem dX10_merge_45 : decode cX10_merge 45 = .ok (.aload_n 0, 1) := by decide +kernel
theorem dX10_merge_46 : decode cX10_merge 46 = .ok (.iload_n 1, 1) := by decide +kernel
theorem dX10_merge_47 : decode cX10_merge 47 = .ok (.invokevirtual 114, 3) := by decide +kernel
theorem dX10_merge_50 : decode cX10_merge 50 = .ok (.astore 6, 2) := by decide +kernel
theorem dX10_merge_52 : decode cX10_merge 52 = .ok (.aload_n 0, 1) := by decide +kernel
theorem dX10_merge_53 : decode cX10_merge 53 = .ok (.iload_n 2, 1) := by decide +kernel
theorem dX10_merge_54 : decode cX10_merge 54 = .ok (.invokevirtual 114, 3) := by decide +kernel
theorem dX10_merge_57 : decode cX10_merge 57 = .ok (.astore 7, 2) := by decide +kernel
theorem dX10_merge_59 : decode cX10_merge 59 = .ok (.aload 6, 2) := by decide +kernel
theorem dX10_merge_61 : decode cX10_merge 61 = .ok (.ifnull 8, 3) := by decide +kernel
theorem dX10_merge_64 : decode cX10_merge 64 = .ok (.aload 7, 2) := by decide +kernel
theorem dX10_merge_66 : decode cX10_merge 66 = .ok (.ifnonnull 6, 3) := by decide +kernel
theorem dX10_merge_69 : decode cX10_merge 69 = .ok (.bipush (-4), 2) := by decide +kernel
theorem dX10_merge_71 : decode cX10_merge 71 = .ok (.ireturn, 1) := by decide +kernel
theorem dX10_merge_72 : decode cX10_merge 72 = .ok (.iload 4, 2) := by decide +kernel
theorem dX10_merge_74 : decode cX10_merge 74 = .ok (.ifCond .lt 17, 3) := by decide +kernel
theorem dX10_merge_77 : decode cX10_merge 77 = .ok (.iload 4, 2) := by decide +kernel
theorem dX10_merge_79 : decode cX10_merge 79 = .ok (.iconst 2, 1) := by decide +kernel
theorem dX10_merge_80 : decode cX10_merge 80 = .ok (.if_icmp .gt 11, 3) := by decide +kernel
theorem dX10_merge_83 : decode cX10_merge 83 = .ok (.iload 5, 2) := by decide +kernel
theorem dX10_merge_85 : decode cX10_merge 85 = .ok (.invokestatic 132, 3) := by decide +kernel
theorem dX10_merge_88 : decode cX10_merge 88 = .ok (.ifCond .ne 6, 3) := by decide +kernel
theorem dX10_merge_91 : decode cX10_merge 91 = .ok (.bipush (-5), 2) := by decide +kernel
theorem dX10_merge_93 : decode cX10_merge 93 = .ok (.ireturn, 1) := by decide +kernel
theorem dX10_merge_94 : decode cX10_merge 94 = .ok (.aload 6, 2) := by decide +kernel
theorem dX10_merge_96 : decode cX10_merge 96 = .ok (.invokevirtual 118, 3) := by decide +kernel
theorem dX10_merge_99 : decode cX10_merge 99 = .ok (.ifCond .ne 11, 3) := by decide +kernel
theorem dX10_merge_102 : decode cX10_merge 102 = .ok (.aload 7, 2) := by decide +kernel
theorem dX10_merge_104 : decode cX10_merge 104 = .ok (.invokevirtual 118, 3) := by decide +kernel
theorem dX10_merge_107 : decode cX10_merge 107 = .ok (.ifCond .eq 6, 3) := by decide +kernel
theorem dX10_merge_110 : decode cX10_merge 110 = .ok (.bipush (-6), 2) := by decide +kernel
theorem dX10_merge_112 : decode cX10_merge 112 = .ok (.ireturn, 1) := by decide +kernel
theorem dX10_merge_113 : decode cX10_merge 113 = .ok (.aload_n 0, 1) := by decide +kernel
theorem dX10_merge_114 : decode cX10_merge 114 = .ok (.getfield 44, 3) := by decide +kernel
theorem dX10_merge_117 : decode cX10_merge 117 = .ok (.aload 6, 2) := by decide +kernel
theorem dX10_merge_119 : decode cX10_merge 119 = .ok (.getfield 124, 3) := by decide +kernel
theorem dX10_merge_122 : decode cX10_merge 122 = .ok (.aload 7, 2) := by decide +kernel
theorem dX10_merge_124 : decode cX10_merge 124 = .ok (.getfield 124, 3) := by decide +kernel
theorem dX10_merge_127 : decode cX10_merge 127 = .ok (.iload 4, 2) := by decide +kernel
theorem dX10_merge_129 : decode cX10_merge 129 = .ok (.invokevirtual 135, 3) := by decide +kernel
theorem dX10_merge_132 : decode cX10_merge 132 = .ok (.ifCond .ne 6, 3) := by decide +kernel
theorem dX10_merge_135 : decode cX10_merge 135 = .ok (.bipush (-7), 2) := by decide +kernel
theorem dX10_merge_137 : decode cX10_merge 137 = .ok (.ireturn, 1) := by decide +kernel
theorem dX10_merge_138 : decode cX10_merge 138 = .ok (.aload_n 0, 1) := by decide +kernel
theorem dX10_merge_139 : decode cX10_merge 139 = .ok (.iload_n 3, 1) := by decide +kernel
theorem dX10_merge_140 : decode cX10_merge 140 = .ok (.aload_n 0, 1) := by decide +kernel
theorem dX10_merge_141 : decode cX10_merge 141 = .ok (.getfield 35, 3) := by decide +kernel
theorem dX10_merge_144 : decode cX10_merge 144 = .ok (.aload_n 0, 1) := by decide +kernel
theorem dX10_merge_145 : decode cX10_merge 145 = .ok (.getfield 44, 3) := by decide +kernel
theorem dX10_merge_148 : decode cX10_merge 148 = .ok (.iload 5, 2) := by decide +kernel
theorem dX10_merge_150 : decode cX10_merge 150 = .ok (.invokevirtual 106, 3) := by decide +kernel
theorem dX10_merge_153 : decode cX10_merge 153 = .ok (.invokevirtual 110, 3) := by decide +kernel
theorem dX10_merge_156 : decode cX10_merge 156 = .ok (.ireturn, 1) := by decide +kernel
theorem dX10_count_0 : decode cX10_count 0 = .ok (.aload_n 0, 1) := by decide +kernel
theorem dX10_count_1 : decode cX10_count 1 = .ok (.iload_n 1, 1) := by decide +kernel
theorem dX10_count_2 : decode cX10_count 2 = .ok (.invokevirtual 139, 3) := by decide +kernel
theorem dX10_count_5 : decode cX10_count 5 = .ok (.astore_n 2, 1) := by decide +kernel
theorem dX10_count_6 : decode cX10_count 6 = .ok (.aload_n 2, 1) := by decide +kernel
theorem dX10_count_7 : decode cX10_count 7 = .ok (.ifnonnull 11, 3) := by decide +kernel
theorem dX10_count_10 : decode cX10_count 10 = .ok (.aload_n 0, 1) := by decide +kernel
theorem dX10_count_11 : decode cX10_count 11 = .ok (.iload_n 1, 1) := by decide +kernel
theorem dX10_count_12 : decode cX10_count 12 = .ok (.invokevirtual 88, 3) := by decide +kernel
theorem dX10_count_15 : decode cX10_count 15 = .ok (.goto 7, 3) := by decide +kernel
theorem dX10_count_18 : decode cX10_count 18 = .ok (.aload_n 2, 1) := by decide +kernel
theorem dX10_count_19 : decode cX10_count 19 = .ok (.invokevirtual 143, 3) := by decide +kernel
theorem dX10_count_22 : decode cX10_count 22 = .ok (.ireturn, 1) := by decide +kernel
theorem dX10_number_0 : decode cX10_number 0 = .ok (.aload_n 0, 1) := by decide +kernel
theorem dX10_number_1 : decode cX10_number 1 = .ok (.iload_n 1, 1) := by decide +kernel
theorem dX10_number_2 : decode cX10_number 2 = .ok (.invokevirtual 114, 3) := by decide +kernel
theorem dX10_number_5 : decode cX10_number 5 = .ok (.astore_n 2, 1) := by decide +kernel
theorem dX10_number_6 : decode cX10_number 6 = .ok (.aload_n 0, 1) := by decide +kernel
theorem dX10_number_7 : decode cX10_number 7 = .ok (.aload_n 2, 1) := by decide +kernel
theorem dX10_number_8 : decode cX10_number 8 = .ok (.invokevirtual 146, 3) := by decide +kernel
theorem dX10_number_11 : decode cX10_number 11 = .ok (.astore_n 3, 1) := by decide +kernel
theorem dX10_number_12 : decode cX10_number 12 = .ok (.aload_n 2, 1) := by decide +kernel
theorem dX10_number_13 : decode cX10_number 13 = .ok (.ifnull 14, 3) := by decide +kernel
theorem dX10_number_16 : decode cX10_number 16 = .ok (.aload_n 3, 1) := by decide +kernel
theorem dX10_number_17 : decode cX10_number 17 = .ok (.ifnull 10, 3) := by decide +kernel
theorem dX10_number_20 : decode cX10_number 20 = .ok (.aload_n 2, 1) := by decide +kernel
theorem dX10_number_21 : decode cX10_number 21 = .ok (.invokevirtual 118, 3) := by decide +kernel
theorem dX10_number_24 : decode cX10_number 24 = .ok (.ifCond .eq 11, 3) := by decide +kernel
theorem dX10_number_27 : decode cX10_number 27 = .ok (.aload_n 0, 1) := by decide +kernel
theorem dX10_number_28 : decode cX10_number 28 = .ok (.iload_n 1, 1) := by decide +kernel
theorem dX10_number_29 : decode cX10_number 29 = .ok (.aload_n 2, 1) := by decide +kernel
theorem dX10_number_30 : decode cX10_number 30 = .ok (.aload_n 3, 1) := by decide +kernel
theorem dX10_number_31 : decode cX10_number 31 = .ok (.invokevirtual 150, 3) := by decide +kernel
theorem dX10_number_34 : decode cX10_number 34 = .ok (.ireturn, 1) := by decide +kernel
theorem dX10_number_35 : decode cX10_number 35 = .ok (.aload_n 2, 1) := by decide +kernel
theorem dX10_number_36 : decode cX10_number 36 = .ok (.getfield 124, 3) := by decide +kernel
theorem dX10_number_39 : decode cX10_number 39 = .ok (.aload_n 3, 1) := by decide +kernel
theorem dX10_number_40 : decode cX10_number 40 = .ok (.invokevirtual 154, 3) := by decide +kernel
theorem dX10_number_43 : decode cX10_number 43 = .ok (.istore 4, 2) := by decide +kernel
theorem dX10_number_45 : decode cX10_number 45 = .ok (.aload_n 2, 1) := by decide +kernel
theorem dX10_number_46 : decode cX10_number 46 = .ok (.getfield 124, 3) := by decide +kernel
theorem dX10_number_49 : decode cX10_number 49 = .ok (.iload 4, 2) := by decide +kernel
theorem dX10_number_51 : decode cX10_number 51 = .ok (.aload_n 3, 1) := by decide +kernel
theorem dX10_number_52 : decode cX10_number 52 = .ok (.invokevirtual 157, 3) := by decide +kernel
theorem dX10_number_55 : decode cX10_number 55 = .ok (.ifCond .eq 8, 3) := by decide +kernel
theorem dX10_number_58 : decode cX10_number 58 = .ok (.iload 4, 2) := by decide +kernel
theorem dX10_number_60 : decode cX10_number 60 = .ok (.goto 4, 3) := by decide +kernel
theorem dX10_number_63 : decode cX10_number 63 = .ok (.iconst (-1), 1) := by decide +kernel
theorem dX10_number_64 : decode cX10_number 64 = .ok (.ireturn, 1) := by decide +kernel
theorem dX10_name_0 : decode cX10_name 0 = .ok (.aload_n 0, 1) := by decide +kernel
theorem dX10_name_1 : decode cX10_name 1 = .ok (.iload_n 1, 1) := by decide +kernel
theorem dX10_name_2 : decode cX10_name 2 = .ok (.invokevirtual 114, 3) := by decide +kernel
theorem dX10_name_5 : decode cX10_name 5 = .ok (.astore_n 3, 1) := by decide +kernel
theorem dX10_name_6 : decode cX10_name 6 = .ok (.aload_n 3, 1) := by decide +kernel
theorem dX10_name_7 : decode cX10_name 7 = .ok (.ifnonnull 9, 3) := by decide +kernel
theorem dX10_name_10 : decode cX10_name 10 = .ok (.aload_n 0, 1) := by decide +kernel
theorem dX10_name_11 : decode cX10_name 11 = .ok (.iload_n 1, 1) := by decide +kernel
theorem dX10_name_12 : decode cX10_name 12 = .ok (.invokevirtual 88, 3) := by decide +kernel
theorem dX10_name_15 : decode cX10_name 15 = .ok (.ireturn, 1) := by decide +kernel
theorem dX10_name_16 : decode cX10_name 16 = .ok (.aload_n 3, 1) := by decide +kernel
theorem dX10_name_17 : decode cX10_name 17 = .ok (.getfield 124, 3) := by decide +kernel
theorem dX10_name_20 : decode cX10_name 20 = .ok (.iload_n 2, 1) := by decide +kernel
theorem dX10_name_21 : decode cX10_name 21 = .ok (.invokevirtual 161, 3) := by decide +kernel
theorem dX10_name_24 : decode cX10_name 24 = .ok (.ifCond .ne 6, 3) := by decide +kernel
theorem dX10_name_27 : decode cX10_name 27 = .ok (.bipush (-5), 2) := by decide +kernel
theorem dX10_name_29 : decode cX10_name 29 = .ok (.ireturn, 1) := by decide +kernel
theorem dX10_name_30 : decode cX10_name 30 = .ok (.aload_n 3, 1) := by decide +kernel
theorem dX10_name_31 : decode cX10_name 31 = .ok (.invokevirtual 118, 3) := by decide +kernel
theorem dX10_name_34 : decode cX10_name 34 = .ok (.ifCond .eq 6, 3) := by decide +kernel
theorem dX10_name_37 : decode cX10_name 37 = .ok (.bipush (-6), 2) := by decide +kernel
theorem dX10_name_39 : decode cX10_name 39 = .ok (.ireturn, 1) := by decide +kernel
theorem dX10_name_40 : decode cX10_name 40 = .ok (.aload_n 0, 1) := by decide +kernel
theorem dX10_name_41 : decode cX10_name 41 = .ok (.getfield 18, 3) := by decide +kernel
theorem dX10_name_44 : decode cX10_name 44 = .ok (.iconst 0, 1) := by decide +kernel
theorem dX10_name_45 : decode cX10_name 45 = .ok (.putfield 52, 3) := by decide +kernel
theorem dX10_name_48 : decode cX10_name 48 = .ok (.aload_n 0, 1) := by decide +kernel
theorem dX10_name_49 : decode cX10_name 49 = .ok (.getfield 18, 3) := by decide +kernel
theorem dX10_name_52 : decode cX10_name 52 = .ok (.aload_n 3, 1) := by decide +kernel
theorem dX10_name_53 : decode cX10_name 53 = .ok (.getfield 124, 3) := by decide +kernel
theorem dX10_name_56 : decode cX10_name 56 = .ok (.getfield 164, 3) := by decide +kernel
theorem dX10_name_59 : decode cX10_name 59 = .ok (.iload_n 2, 1) := by decide +kernel
theorem dX10_name_60 : decode cX10_name 60 = .ok (.aaload, 1) := by decide +kernel
theorem dX10_name_61 : decode cX10_name 61 = .ok (.invokevirtual 168, 3) := by decide +kernel
theorem dX10_name_64 : decode cX10_name 64 = .ok (.aload_n 0, 1) := by decide +kernel
theorem dX10_name_65 : decode cX10_name 65 = .ok (.getfield 18, 3) := by decide +kernel
theorem dX10_name_68 : decode cX10_name 68 = .ok (.getfield 52, 3) := by decide +kernel
theorem dX10_name_71 : decode cX10_name 71 = .ok (.ireturn, 1) := by decide +kernel
theorem dX10_value_0 : decode cX10_value 0 = .ok (.aload_n 0, 1) := by decide +kernel
theorem dX10_value_1 : decode cX10_value 1 = .ok (.iload_n 1, 1) := by decide +kernel
theorem dX10_value_2 : decode cX10_value 2 = .ok (.invokevirtual 114, 3) := by decide +kernel
theorem dX10_value_5 : decode cX10_value 5 = .ok (.astore_n 3, 1) := by decide +kernel
theorem dX10_value_6 : decode cX10_value 6 = .ok (.aload_n 3, 1) := by decide +kernel
theorem dX10_value_7 : decode cX10_value 7 = .ok (.ifnonnull 14, 3) := by decide +kernel
theorem dX10_value_10 : decode cX10_value 10 = .ok (.aload_n 0, 1) := by decide +kernel
theorem dX10_value_11 : decode cX10_value 11 = .ok (.aload_n 0, 1) := by decide +kernel
theorem dX10_value_12 : decode cX10_value 12 = .ok (.iload_n 1, 1) := by decide +kernel
theorem dX10_value_13 : decode cX10_value 13 = .ok (.invokevirtual 88, 3) := by decide +kernel
theorem dX10_value_16 : decode cX10_value 16 = .ok (.putfield 48, 3) := by decide +kernel
theorem dX10_value_19 : decode cX10_value 19 = .ok (.lconst 0, 1) := by decide +kernel
theorem dX10_value_20 : decode cX10_value 20 = .ok (.lreturn, 1) := by decide +kernel
theorem dX10_value_21 : decode cX10_value 21 = .ok (.aload_n 3, 1) := by decide +kernel
theorem dX10_value_22 : decode cX10_value 22 = .ok (.getfield 124, 3) := by decide +kernel
theorem dX10_value_25 : decode cX10_value 25 = .ok (.iload_n 2, 1) := by decide +kernel
theorem dX10_value_26 : decode cX10_value 26 = .ok (.invokevirtual 161, 3) := by decide +kernel
theorem dX10_value_29 : decode cX10_value 29 = .ok (.ifCond .ne 11, 3) := by decide +kernel
theorem dX10_value_32 : decode cX10_value 32 = .ok (.aload_n 0, 1) := by decide +kernel
theorem dX10_value_33 : decode cX10_value 33 = .ok (.bipush (-5), 2) := by decide +kernel
theorem dX10_value_35 : decode cX10_value 35 = .ok (.putfield 48, 3) := by decide +kernel
theorem dX10_value_38 : decode cX10_value 38 = .ok (.lconst 0, 1) := by decide +kernel
theorem dX10_value_39 : decode cX10_value 39 = .ok (.lreturn, 1) := by decide +kernel
theorem dX10_value_40 : decode cX10_value 40 = .ok (.aload_n 0, 1) := by decide +kernel
theorem dX10_value_41 : decode cX10_value 41 = .ok (.iconst 0, 1) := by decide +kernel
theorem dX10_value_42 : decode cX10_value 42 = .ok (.putfield 48, 3) := by decide +kernel
theorem dX10_value_45 : decode cX10_value 45 = .ok (.aload_n 3, 1) := by decide +kernel
theorem dX10_value_46 : decode cX10_value 46 = .ok (.getfield 124, 3) := by decide +kernel
theorem dX10_value_49 : decode cX10_value 49 = .ok (.getfield 172, 3) := by decide +kernel
theorem dX10_value_52 : decode cX10_value 52 = .ok (.iload_n 2, 1) := by decide +kernel
theorem dX10_value_53 : decode cX10_value 53 = .ok (.laload, 1) := by decide +kernel
theorem dX10_value_54 : decode cX10_value 54 = .ok (.lreturn, 1) := by decide +kernel
theorem dX10_status_0 : decode cX10_status 0 = .ok (.aload_n 0, 1) := by decide +kernel
theorem dX10_status_1 : decode cX10_status 1 = .ok (.getfield 48, 3) := by decide +kernel
theorem dX10_status_4 : decode cX10_status 4 = .ok (.ireturn, 1) := by decide +kernel
theorem dX10_below_0 : decode cX10_below 0 = .ok (.aload_n 0, 1) := by decide +kernel
theorem dX10_below_1 : decode cX10_below 1 = .ok (.iload_n 1, 1) := by decide +kernel
theorem dX10_below_2 : decode cX10_below 2 = .ok (.invokevirtual 114, 3) := by decide +kernel
theorem dX10_below_5 : decode cX10_below 5 = .ok (.astore_n 2, 1) := by decide +kernel
theorem dX10_below_6 : decode cX10_below 6 = .ok (.aload_n 0, 1) := by decide +kernel
theorem dX10_below_7 : decode cX10_below 7 = .ok (.aload_n 2, 1) := by decide +kernel
theorem dX10_below_8 : decode cX10_below 8 = .ok (.invokevirtual 146, 3) := by decide +kernel
theorem dX10_below_11 : decode cX10_below 11 = .ok (.astore_n 3, 1) := by decide +kernel
theorem dX10_below_12 : decode cX10_below 12 = .ok (.aload_n 2, 1) := by decide +kernel
theorem dX10_below_13 : decode cX10_below 13 = .ok (.ifnull 14, 3) := by decide +kernel
