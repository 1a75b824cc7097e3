theorem dX7_count_69 : decode cX7_count 69 = .ok (.getfield 12, 3) := by decide +kernel
theorem dX7_count_72 : decode cX7_count 72 = .ok (.getfield 138, 3) := by decide +kernel
theorem dX7_count_75 : decode cX7_count 75 = .ok (.ireturn, 1) := by decide +kernel
theorem dX7_count_76 : decode cX7_count 76 = .ok (.aload_n 0, 1) := by decide +kernel
theorem dX7_count_77 : decode cX7_count 77 = .ok (.getfield 12, 3) := by decide +kernel
theorem dX7_count_80 : decode cX7_count 80 = .ok (.getfield 204, 3) := by decide +kernel
theorem dX7_count_83 : decode cX7_count 83 = .ok (.ireturn, 1) := by decide +kernel
theorem dX7_count_84 : decode cX7_count 84 = .ok (.aload_n 0, 1) := by decide +kernel
theorem dX7_count_85 : decode cX7_count 85 = .ok (.getfield 12, 3) := by decide +kernel
theorem dX7_count_88 : decode cX7_count 88 = .ok (.invokevirtual 207, 3) := by decide +kernel
theorem dX7_count_91 : decode cX7_count 91 = .ok (.ireturn, 1) := by decide +kernel
theorem dX7_count_92 : decode cX7_count 92 = .ok (.aload_n 0, 1) := by decide +kernel
theorem dX7_count_93 : decode cX7_count 93 = .ok (.getfield 12, 3) := by decide +kernel
theorem dX7_count_96 : decode cX7_count 96 = .ok (.invokevirtual 210, 3) := by decide +kernel
theorem dX7_count_99 : decode cX7_count 99 = .ok (.ireturn, 1) := by decide +kernel
theorem dX7_count_100 : decode cX7_count 100 = .ok (.aload_n 0, 1) := by decide +kernel
theorem dX7_count_101 : decode cX7_count 101 = .ok (.getfield 12, 3) := by decide +kernel
theorem dX7_count_104 : decode cX7_count 104 = .ok (.invokevirtual 213, 3) := by decide +kernel
theorem dX7_count_107 : decode cX7_count 107 = .ok (.ireturn, 1) := by decide +kernel
theorem dX7_count_108 : decode cX7_count 108 = .ok (.aload_n 0, 1) := by decide +kernel
theorem dX7_count_109 : decode cX7_count 109 = .ok (.getfield 12, 3) := by decide +kernel
theorem dX7_count_112 : decode cX7_count 112 = .ok (.getfield 216, 3) := by decide +kernel
theorem dX7_count_115 : decode cX7_count 115 = .ok (.ireturn, 1) := by decide +kernel
theorem dX7_count_116 : decode cX7_count 116 = .ok (.aload_n 0, 1) := by decide +kernel
theorem dX7_count_117 : decode cX7_count 117 = .ok (.getfield 12, 3) := by decide +kernel
theorem dX7_count_120 : decode cX7_count 120 = .ok (.getfield 219, 3) := by decide +kernel
theorem dX7_count_123 : decode cX7_count 123 = .ok (.ireturn, 1) := by decide +kernel
theorem dX7_count_124 : decode cX7_count 124 = .ok (.aload_n 0, 1) := by decide +kernel
theorem dX7_count_125 : decode cX7_count 125 = .ok (.getfield 12, 3) := by decide +kernel
theorem dX7_count_128 : decode cX7_count 128 = .ok (.invokevirtual 222, 3) := by decide +kernel
theorem dX7_count_131 : decode cX7_count 131 = .ok (.ireturn, 1) := by decide +kernel
theorem dX7_count_132 : decode cX7_count 132 = .ok (.aload_n 0, 1) := by decide +kernel
theorem dX7_count_133 : decode cX7_count 133 = .ok (.getfield 12, 3) := by decide +kernel
theorem dX7_count_136 : decode cX7_count 136 = .ok (.iconst 0, 1) := by decide +kernel
theorem dX7_count_137 : decode cX7_count 137 = .ok (.invokevirtual 113, 3) := by decide +kernel
theorem dX7_count_140 : decode cX7_count 140 = .ok (.ireturn, 1) := by decide +kernel
theorem dX7_count_141 : decode cX7_count 141 = .ok (.aload_n 0, 1) := by decide +kernel
theorem dX7_count_142 : decode cX7_count 142 = .ok (.getfield 12, 3) := by decide +kernel
theorem dX7_count_145 : decode cX7_count 145 = .ok (.iconst 1, 1) := by decide +kernel
theorem dX7_count_146 : decode cX7_count 146 = .ok (.invokevirtual 113, 3) := by decide +kernel
theorem dX7_count_149 : decode cX7_count 149 = .ok (.ireturn, 1) := by decide +kernel
theorem dX7_count_150 : decode cX7_count 150 = .ok (.aload_n 0, 1) := by decide +kernel
theorem dX7_count_151 : decode cX7_count 151 = .ok (.getfield 12, 3) := by decide +kernel
theorem dX7_count_154 : decode cX7_count 154 = .ok (.iconst 2, 1) := by decide +kernel
theorem dX7_count_155 : decode cX7_count 155 = .ok (.invokevirtual 113, 3) := by decide +kernel
theorem dX7_count_158 : decode cX7_count 158 = .ok (.ireturn, 1) := by decide +kernel
theorem dX7_count_159 : decode cX7_count 159 = .ok (.aload_n 0, 1) := by decide +kernel
theorem dX7_count_160 : decode cX7_count 160 = .ok (.getfield 25, 3) := by decide +kernel
theorem dX7_count_163 : decode cX7_count 163 = .ok (.getfield 225, 3) := by decide +kernel
theorem dX7_count_166 : decode cX7_count 166 = .ok (.ireturn, 1) := by decide +kernel
theorem dX7_count_167 : decode cX7_count 167 = .ok (.aload_n 0, 1) := by decide +kernel
theorem dX7_count_168 : decode cX7_count 168 = .ok (.getfield 32, 3) := by decide +kernel
theorem dX7_count_171 : decode cX7_count 171 = .ok (.getfield 122, 3) := by decide +kernel
theorem dX7_count_174 : decode cX7_count 174 = .ok (.ireturn, 1) := by decide +kernel
theorem dX7_count_175 : decode cX7_count 175 = .ok (.bipush (-2), 2) := by decide +kernel
theorem dX7_count_177 : decode cX7_count 177 = .ok (.ireturn, 1) := by decide +kernel
theorem dX7_why_0 : decode cX7_why 0 = .ok (.aload_n 0, 1) := by decide +kernel
theorem dX7_why_1 : decode cX7_why 1 = .ok (.getfield 12, 3) := by decide +kernel
theorem dX7_why_4 : decode cX7_why 4 = .ok (.iload_n 1, 1) := by decide +kernel
theorem dX7_why_5 : decode cX7_why 5 = .ok (.iload_n 2, 1) := by decide +kernel
theorem dX7_why_6 : decode cX7_why 6 = .ok (.iload_n 3, 1) := by decide +kernel
theorem dX7_why_7 : decode cX7_why 7 = .ok (.iload 4, 2) := by decide +kernel
theorem dX7_why_9 : decode cX7_why 9 = .ok (.invokevirtual 100, 3) := by decide +kernel
theorem dX7_why_12 : decode cX7_why 12 = .ok (.ireturn, 1) := by decide +kernel
theorem dX7_cheapest_0 : decode cX7_cheapest 0 = .ok (.aload_n 0, 1) := by decide +kernel
theorem dX7_cheapest_1 : decode cX7_cheapest 1 = .ok (.getfield 12, 3) := by decide +kernel
theorem dX7_cheapest_4 : decode cX7_cheapest 4 = .ok (.iload_n 1, 1) := by decide +kernel
theorem dX7_cheapest_5 : decode cX7_cheapest 5 = .ok (.iload_n 2, 1) := by decide +kernel
theorem dX7_cheapest_6 : decode cX7_cheapest 6 = .ok (.invokevirtual 171, 3) := by decide +kernel
theorem dX7_cheapest_9 : decode cX7_cheapest 9 = .ok (.astore_n 3, 1) := by decide +kernel
theorem dX7_cheapest_10 : decode cX7_cheapest 10 = .ok (.aload_n 3, 1) := by decide +kernel
theorem dX7_cheapest_11 : decode cX7_cheapest 11 = .ok (.ifnonnull 5, 3) := by decide +kernel
theorem dX7_cheapest_14 : decode cX7_cheapest 14 = .ok (.iconst (-1), 1) := by decide +kernel
theorem dX7_cheapest_15 : decode cX7_cheapest 15 = .ok (.ireturn, 1) := by decide +kernel
theorem dX7_cheapest_16 : decode cX7_cheapest 16 = .ok (.bipush (-5), 2) := by decide +kernel
theorem dX7_cheapest_18 : decode cX7_cheapest 18 = .ok (.istore 4, 2) := by decide +kernel
theorem dX7_cheapest_20 : decode cX7_cheapest 20 = .ok (.bipush 100, 2) := by decide +kernel
theorem dX7_cheapest_22 : decode cX7_cheapest 22 = .ok (.istore 5, 2) := by decide +kernel
theorem dX7_cheapest_24 : decode cX7_cheapest 24 = .ok (.iconst 0, 1) := by decide +kernel
theorem dX7_cheapest_25 : decode cX7_cheapest 25 = .ok (.istore 6, 2) := by decide +kernel
theorem dX7_cheapest_27 : decode cX7_cheapest 27 = .ok (.iload 6, 2) := by decide +kernel
theorem dX7_cheapest_29 : decode cX7_cheapest 29 = .ok (.iconst 4, 1) := by decide +kernel
theorem dX7_cheapest_30 : decode cX7_cheapest 30 = .ok (.if_icmp .ge 58, 3) := by decide +kernel
theorem dX7_cheapest_33 : decode cX7_cheapest 33 = .ok (.aload_n 0, 1) := by decide +kernel
theorem dX7_cheapest_34 : decode cX7_cheapest 34 = .ok (.getfield 12, 3) := by decide +kernel
theorem dX7_cheapest_37 : decode cX7_cheapest 37 = .ok (.iload 6, 2) := by decide +kernel
theorem dX7_cheapest_39 : decode cX7_cheapest 39 = .ok (.aload_n 3, 1) := by decide +kernel
theorem dX7_cheapest_40 : decode cX7_cheapest 40 = .ok (.invokevirtual 226, 3) := by decide +kernel
theorem dX7_cheapest_43 : decode cX7_cheapest 43 = .ok (.istore 7, 2) := by decide +kernel
theorem dX7_cheapest_45 : decode cX7_cheapest 45 = .ok (.iload 7, 2) := by decide +kernel
theorem dX7_cheapest_47 : decode cX7_cheapest 47 = .ok (.iload 5, 2) := by decide +kernel
theorem dX7_cheapest_49 : decode cX7_cheapest 49 = .ok (.if_icmp .ge 33, 3) := by decide +kernel
theorem dX7_cheapest_52 : decode cX7_cheapest 52 = .ok (.aload_n 0, 1) := by decide +kernel
theorem dX7_cheapest_53 : decode cX7_cheapest 53 = .ok (.getfield 12, 3) := by decide +kernel
theorem dX7_cheapest_56 : decode cX7_cheapest 56 = .ok (.iload_n 1, 1) := by decide +kernel
theorem dX7_cheapest_57 : decode cX7_cheapest 57 = .ok (.iload_n 2, 1) := by decide +kernel
theorem dX7_cheapest_58 : decode cX7_cheapest 58 = .ok (.iload 6, 2) := by decide +kernel
theorem dX7_cheapest_60 : decode cX7_cheapest 60 = .ok (.iload 7, 2) := by decide +kernel
theorem dX7_cheapest_62 : decode cX7_cheapest 62 = .ok (.invokevirtual 100, 3) := by decide +kernel
theorem dX7_cheapest_65 : decode cX7_cheapest 65 = .ok (.ifCond .ne 17, 3) := by decide +kernel
theorem dX7_cheapest_68 : decode cX7_cheapest 68 = .ok (.iload 7, 2) := by decide +kernel
theorem dX7_cheapest_70 : decode cX7_cheapest 70 = .ok (.istore 5, 2) := by decide +kernel
theorem dX7_cheapest_72 : decode cX7_cheapest 72 = .ok (.bipush 100, 2) := by decide +kernel
theorem dX7_cheapest_74 : decode cX7_cheapest 74 = .ok (.iload 6, 2) := by decide +kernel
theorem dX7_cheapest_76 : decode cX7_cheapest 76 = .ok (.imul, 1) := by decide +kernel
theorem dX7_cheapest_77 : decode cX7_cheapest 77 = .ok (.iload 7, 2) := by decide +kernel
theorem dX7_cheapest_79 : decode cX7_cheapest 79 = .ok (.iadd, 1) := by decide +kernel
theorem dX7_cheapest_80 : decode cX7_cheapest 80 = .ok (.istore 4, 2) := by decide +kernel
theorem dX7_cheapest_82 : decode cX7_cheapest 82 = .ok (.iinc 6 1, 3) := by decide +kernel
theorem dX7_cheapest_85 : decode cX7_cheapest 85 = .ok (.goto (-58), 3) := by decide +kernel
theorem dX7_cheapest_88 : decode cX7_cheapest 88 = .ok (.iload 4, 2) := by decide +kernel
theorem dX7_cheapest_90 : decode cX7_cheapest 90 = .ok (.ireturn, 1) := by decide +kernel
theorem dX7_dangers_0 : decode cX7_dangers 0 = .ok (.aload_n 0, 1) := by decide +kernel
theorem dX7_dangers_1 : decode cX7_dangers 1 = .ok (.getfield 12, 3) := by decide +kernel
theorem dX7_dangers_4 : decode cX7_dangers 4 = .ok (.iload_n 1, 1) := by decide +kernel
theorem dX7_dangers_5 : decode cX7_dangers 5 = .ok (.invokevirtual 141, 3) := by decide +kernel
theorem dX7_dangers_8 : decode cX7_dangers 8 = .ok (.astore_n 2, 1) := by decide +kernel
theorem dX7_dangers_9 : decode cX7_dangers 9 = .ok (.aload_n 2, 1) := by decide +kernel
theorem dX7_dangers_10 : decode cX7_dangers 10 = .ok (.ifnonnull 5, 3) := by decide +kernel
theorem dX7_dangers_13 : decode cX7_dangers 13 = .ok (.iconst (-1), 1) := by decide +kernel
theorem dX7_dangers_14 : decode cX7_dangers 14 = .ok (.ireturn, 1) := by decide +kernel
theorem dX7_dangers_15 : decode cX7_dangers 15 = .ok (.aload_n 2, 1) := by decide +kernel
theorem dX7_dangers_16 : decode cX7_dangers 16 = .ok (.invokevirtual 230, 3) := by decide +kernel
theorem dX7_dangers_19 : decode cX7_dangers 19 = .ok (.ifCond .ne 6, 3) := by decide +kernel
theorem dX7_dangers_22 : decode cX7_dangers 22 = .ok (.bipush (-4), 2) := by decide +kernel
theorem dX7_dangers_24 : decode cX7_dangers 24 = .ok (.ireturn, 1) := by decide +kernel
theorem dX7_dangers_25 : decode cX7_dangers 25 = .ok (.aload_n 2, 1) := by decide +kernel
theorem dX7_dangers_26 : decode cX7_dangers 26 = .ok (.invokevirtual 159, 3) := by decide +kernel
theorem dX7_dangers_29 : decode cX7_dangers 29 = .ok (.istore_n 3, 1) := by decide +kernel
theorem dX7_dangers_30 : decode cX7_dangers 30 = .ok (.iconst 0, 1) := by decide +kernel
theorem dX7_dangers_31 : decode cX7_dangers 31 = .ok (.istore 4, 2) := by decide +kernel
theorem dX7_dangers_33 : decode cX7_dangers 33 = .ok (.iconst 1, 1) := by decide +kernel
theorem dX7_dangers_34 : decode cX7_dangers 34 = .ok (.istore 5, 2) := by decide +kernel
theorem dX7_dangers_36 : decode cX7_dangers 36 = .ok (.iload 5, 2) := by decide +kernel
theorem dX7_dangers_38 : decode cX7_dangers 38 = .ok (.bipush 6, 2) := by decide +kernel
theorem dX7_dangers_40 : decode cX7_dangers 40 = .ok (.if_icmp .gt 35, 3) := by decide +kernel
theorem dX7_dangers_43 : decode cX7_dangers 43 = .ok (.aload_n 0, 1) := by decide +kernel
theorem dX7_dangers_44 : decode cX7_dangers 44 = .ok (.getfield 12, 3) := by decide +kernel
theorem dX7_dangers_47 : decode cX7_dangers 47 = .ok (.iload_n 1, 1) := by decide +kernel
theorem dX7_dangers_48 : decode cX7_dangers 48 = .ok (.iload_n 3, 1) := by decide +kernel
theorem dX7_dangers_49 : decode cX7_dangers 49 = .ok (.iload 5, 2) := by decide +kernel
theorem dX7_dangers_51 : decode cX7_dangers 51 = .ok (.invokestatic 233, 3) := by decide +kernel
theorem dX7_dangers_54 : decode cX7_dangers 54 = .ok (.invokevirtual 237, 3) := by decide +kernel
theorem dX7_dangers_57 : decode cX7_dangers 57 = .ok (.ifnull 12, 3) := by decide +kernel
theorem dX7_dangers_60 : decode cX7_dangers 60 = .ok (.iload 4, 2) := by decide +kernel
theorem dX7_dangers_62 : decode cX7_dangers 62 = .ok (.iconst 1, 1) := by decide +kernel
theorem dX7_dangers_63 : decode cX7_dangers 63 = .ok (.iload 5, 2) := by decide +kernel
theorem dX7_dangers_65 : decode cX7_dangers 65 = .ok (.ishl, 1) := by decide +kernel
theorem dX7_dangers_66 : decode cX7_dangers 66 = .ok (.ior, 1) := by decide +kernel
theorem dX7_dangers_67 : decode cX7_dangers 67 = .ok (.istore 4, 2) := by decide +kernel
theorem dX7_dangers_69 : decode cX7_dangers 69 = .ok (.iinc 5 1, 3) := by decide +kernel
theorem dX7_dangers_72 : decode cX7_dangers 72 = .ok (.goto (-36), 3) := by decide +kernel
theorem dX7_dangers_75 : decode cX7_dangers 75 = .ok (.iload 4, 2) := by decide +kernel
theorem dX7_dangers_77 : decode cX7_dangers 77 = .ok (.ireturn, 1) := by decide +kernel
theorem dX7_fewest_0 : decode cX7_fewest 0 = .ok (.aload_n 0, 1) := by decide +kernel
theorem dX7_fewest_1 : decode cX7_fewest 1 = .ok (.getfield 12, 3) := by decide +kernel
theorem dX7_fewest_4 : decode cX7_fewest 4 = .ok (.iload_n 1, 1) := by decide +kernel
theorem dX7_fewest_5 : decode cX7_fewest 5 = .ok (.invokevirtual 141, 3) := by decide +kernel
theorem dX7_fewest_8 : decode cX7_fewest 8 = .ok (.astore_n 3, 1) := by decide +kernel
theorem dX7_fewest_9 : decode cX7_fewest 9 = .ok (.aload_n 3, 1) := by decide +kernel
theorem dX7_fewest_10 : decode cX7_fewest 10 = .ok (.ifnonnull 5, 3) := by decide +kernel
theorem dX7_fewest_13 : decode cX7_fewest 13 = .ok (.iconst (-1), 1) := by decide +kernel
theorem dX7_fewest_14 : decode cX7_fewest 14 = .ok (.ireturn, 1) := by decide +kernel
theorem dX7_fewest_15 : decode cX7_fewest 15 = .ok (.iload_n 2, 1) := by decide +kernel
theorem dX7_fewest_16 : decode cX7_fewest 16 = .ok (.ifCond .eq 11, 3) := by decide +kernel
theorem dX7_fewest_19 : decode cX7_fewest 19 = .ok (.iload_n 2, 1) := by decide +kernel
theorem dX7_fewest_20 : decode cX7_fewest 20 = .ok (.iconst 1, 1) := by decide +kernel
theorem dX7_fewest_21 : decode cX7_fewest 21 = .ok (.if_icmp .eq 6, 3) := by decide +kernel
theorem dX7_fewest_24 : decode cX7_fewest 24 = .ok (.bipush (-2), 2) := by decide +kernel
theorem dX7_fewest_26 : decode cX7_fewest 26 = .ok (.ireturn, 1) := by decide +kernel
theorem dX7_fewest_27 : decode cX7_fewest 27 = .ok (.aload_n 3, 1) := by decide +kernel
theorem dX7_fewest_28 : decode cX7_fewest 28 = .ok (.invokevirtual 230, 3) := by decide +kernel
theorem dX7_fewest_31 : decode cX7_fewest 31 = .ok (.ifCond .ne 5, 3) := by decide +kernel
theorem dX7_fewest_34 : decode cX7_fewest 34 = .ok (.iconst 0, 1) := by decide +kernel
theorem dX7_fewest_35 : decode cX7_fewest 35 = .ok (.ireturn, 1) := by decide +kernel
theorem dX7_fewest_36 : decode cX7_fewest 36 = .ok (.aload_n 3, 1) := by decide +kernel
theorem dX7_fewest_37 : decode cX7_fewest 37 = .ok (.invokevirtual 159, 3) := by decide +kernel
theorem dX7_fewest_40 : decode cX7_fewest 40 = .ok (.istore 4, 2) := by decide +kernel
theorem dX7_fewest_42 : decode cX7_fewest 42 = .ok (.iload_n 2, 1) := by decide +kernel
theorem dX7_fewest_43 : decode cX7_fewest 43 = .ok (.ifCond .ne 19, 3) := by decide +kernel
theorem dX7_fewest_46 : decode cX7_fewest 46 = .ok (.aload_n 0, 1) := by decide +kernel
theorem dX7_fewest_47 : decode cX7_fewest 47 = .ok (.getfield 39, 3) := by decide +kernel
theorem dX7_fewest_50 : decode cX7_fewest 50 = .ok (.aload_n 0, 1) := by decide +kernel
theorem dX7_fewest_51 : decode cX7_fewest 51 = .ok (.getfield 12, 3) := by decide +kernel
theorem dX7_fewest_54 : decode cX7_fewest 54 = .ok (.iload 4, 2) := by decide +kernel
theorem dX7_fewest_56 : decode cX7_fewest 56 = .ok (.invokevirtual 241, 3) := by decide +kernel
theorem dX7_fewest_59 : decode cX7_fewest 59 = .ok (.goto 16, 3) := by decide +kernel
theorem dX7_fewest_62 : decode cX7_fewest 62 = .ok (.aload_n 0, 1) := by decide +kernel
theorem dX7_fewest_63 : decode cX7_fewest 63 = .ok (.getfield 39, 3) := by decide +kernel
theorem dX7_fewest_66 : decode cX7_fewest 66 = .ok (.aload_n 0, 1) := by decide +kernel
theorem dX7_fewest_67 : decode cX7_fewest 67 = .ok (.getfield 12, 3) := by decide +kernel
theorem dX7_fewest_70 : decode cX7_fewest 70 = .ok (.iload 4, 2) := by decide +kernel
theorem dX7_fewest_72 : decode cX7_fewest 72 = .ok (.invokevirtual 245, 3) := by decide +kernel
theorem dX7_fewest_75 : decode cX7_fewest 75 = .ok (.ireturn, 1) := by decide +kernel
theorem dX7_nextHome_0 : decode cX7_nextHome 0 = .ok (.iload_n 1, 1) := by decide +kernel
theorem dX7_nextHome_1 : decode cX7_nextHome 1 = .ok (.invokestatic 90, 3) := by decide +kernel
theorem dX7_nextHome_4 : decode cX7_nextHome 4 = .ok (.ifCond .ne 6, 3) := by decide +kernel
theorem dX7_nextHome_7 : decode cX7_nextHome 7 = .ok (.bipush (-2), 2) := by decide +kernel
theorem dX7_nextHome_9 : decode cX7_nextHome 9 = .ok (.ireturn, 1) := by decide +kernel
theorem dX7_nextHome_10 : decode cX7_nextHome 10 = .ok (.aload_n 0, 1) := by decide +kernel
theorem dX7_nextHome_11 : decode cX7_nextHome 11 = .ok (.getfield 12, 3) := by decide +kernel
theorem dX7_nextHome_14 : decode cX7_nextHome 14 = .ok (.invokevirtual 83, 3) := by decide +kernel
theorem dX7_nextHome_17 : decode cX7_nextHome 17 = .ok (.ifCond .eq 6, 3) := by decide +kernel
theorem dX7_nextHome_20 : decode cX7_nextHome 20 = .ok (.bipush (-4), 2) := by decide +kernel
theorem dX7_nextHome_22 : decode cX7_nextHome 22 = .ok (.ireturn, 1) := by decide +kernel
theorem dX7_nextHome_23 : decode cX7_nextHome 23 = .ok (.aload_n 0, 1) := by decide +kernel
theorem dX7_nextHome_24 : decode cX7_nextHome 24 = .ok (.getfield 16, 3) := by decide +kernel
theorem dX7_nextHome_27 : decode cX7_nextHome 27 = .ok (.aload_n 0, 1) := by decide +kernel
theorem dX7_nextHome_28 : decode cX7_nextHome 28 = .ok (.getfield 12, 3) := by decide +kernel
theorem dX7_nextHome_31 : decode cX7_nextHome 31 = .ok (.invokevirtual 135, 3) := by decide +kernel
theorem dX7_nextHome_34 : decode cX7_nextHome 34 = .ok (.iload_n 1, 1) := by decide +kernel
theorem dX7_nextHome_35 : decode cX7_nextHome 35 = .ok (.istore_n 2, 1) := by decide +kernel
theorem dX7_nextHome_36 : decode cX7_nextHome 36 = .ok (.iconst 0, 1) := by decide +kernel
theorem dX7_nextHome_37 : decode cX7_nextHome 37 = .ok (.istore_n 3, 1) := by decide +kernel
theorem dX7_nextHome_38 : decode cX7_nextHome 38 = .ok (.iload_n 3, 1) := by decide +kernel
theorem dX7_nextHome_39 : decode cX7_nextHome 39 = .ok (.sipush 200, 3) := by decide +kernel
theorem dX7_nextHome_42 : decode cX7_nextHome 42 = .ok (.if_icmp .ge 42, 3) := by decide +kernel
theorem dX7_nextHome_45 : decode cX7_nextHome 45 = .ok (.aload_n 0, 1) := by decide +kernel
theorem dX7_nextHome_46 : decode cX7_nextHome 46 = .ok (.getfield 16, 3) := by decide +kernel
theorem dX7_nextHome_49 : decode cX7_nextHome 49 = .ok (.getfield 204, 3) := by decide +kernel
theorem dX7_nextHome_52 : decode cX7_nextHome 52 = .ok (.istore 4, 2) := by decide +kernel
theorem dX7_nextHome_54 : decode cX7_nextHome 54 = .ok (.iload_n 2, 1) := by decide +kernel
theorem dX7_nextHome_55 : decode cX7_nextHome 55 = .ok (.invokestatic 94, 3) := by decide +kernel
theorem dX7_nextHome_58 : decode cX7_nextHome 58 = .ok (.istore_n 2, 1) := by decide +kernel
theorem dX7_nextHome_59 : decode cX7_nextHome 59 = .ok (.aload_n 0, 1) := by decide +kernel
theorem dX7_nextHome_60 : decode cX7_nextHome 60 = .ok (.getfield 16, 3) := by decide +kernel
theorem dX7_nextHome_63 : decode cX7_nextHome 63 = .ok (.iload_n 2, 1) := by decide +kernel
theorem dX7_nextHome_64 : decode cX7_nextHome 64 = .ok (.invokestatic 97, 3) := by decide +kernel
theorem dX7_nextHome_67 : decode cX7_nextHome 67 = .ok (.invokevirtual 87, 3) := by decide +kernel
theorem dX7_nextHome_70 : decode cX7_nextHome 70 = .ok (.bipush 60, 2) := by decide +kernel
theorem dX7_nextHome_72 : decode cX7_nextHome 72 = .ok (.if_icmp .ne 6, 3) := by decide +kernel
theorem dX7_nextHome_75 : decode cX7_nextHome 75 = .ok (.iload 4, 2) := by decide +kernel
theorem dX7_nextHome_77 : decode cX7_nextHome 77 = .ok (.ireturn, 1) := by decide +kernel
theorem dX7_nextHome_78 : decode cX7_nextHome 78 = .ok (.iinc 3 1, 3) := by decide +kernel
theorem dX7_nextHome_81 : decode cX7_nextHome 81 = .ok (.goto (-43), 3) := by decide +kernel
theorem dX7_nextHome_84 : decode cX7_nextHome 84 = .ok (.bipush (-5), 2) := by decide +kernel
theorem dX7_nextHome_86 : decode cX7_nextHome 86 = .ok (.ireturn, 1) := by decide +kernel
theorem dX7_progress_0 : decode cX7_progress 0 = .ok (.aload_n 0, 1) := by decide +kernel
theorem dX7_progress_1 : decode cX7_progress 1 = .ok (.getfield 12, 3) := by decide +kernel
theorem dX7_progress_4 : decode cX7_progress 4 = .ok (.iload_n 1, 1) := by decide +kernel
theorem dX7_progress_5 : decode cX7_progress 5 = .ok (.invokevirtual 141, 3) := by decide +kernel
theorem dX7_progress_8 : decode cX7_progress 8 = .ok (.astore_n 2, 1) := by decide +kernel
theorem dX7_progress_9 : decode cX7_progress 9 = .ok (.aload_n 2, 1) := by decide +kernel
theorem dX7_progress_10 : decode cX7_progress 10 = .ok (.ifnonnull 7, 3) := by decide +kernel
theorem dX7_progress_13 : decode cX7_progress 13 = .ok (.dconst 0, 1) := by decide +kernel
theorem dX7_progress_14 : decode cX7_progress 14 = .ok (.goto 12, 3) := by decide +kernel
theorem dX7_progress_17 : decode cX7_progress 17 = .ok (.aload_n 2, 1) := by decide +kernel
theorem dX7_progress_18 : decode cX7_progress 18 = .ok (.invokevirtual 159, 3) := by decide +kernel
theorem dX7_progress_21 : decode cX7_progress 21 = .ok (.i2d, 1) := by decide +kernel
theorem dX7_progress_22 : decode cX7_progress 22 = .ok (.ldc2_w 248, 3) := by decide +kernel
theorem dX7_progress_25 : decode cX7_progress 25 = .ok (.ddiv, 1) := by decide +kernel
theorem dX7_progress_26 : decode cX7_progress 26 = .ok (.dreturn, 1) := by decide +kernel
theorem dX7_isSnakeForm_0 : decode cX7_isSnakeForm 0 = .ok (.iload_n 0, 1) := by decide +kernel
theorem dX7_isSnakeForm_1 : decode cX7_isSnakeForm 1 = .ok (.bipush 7, 2) := by decide +kernel
theorem dX7_isSnakeForm_3 : decode cX7_isSnakeForm 3 = .ok (.if_icmp .lt 40, 3) := by decide +kernel
theorem dX7_isSnakeForm_6 : decode cX7_isSnakeForm 6 = .ok (.iload_n 0, 1) := by decide +kernel
theorem dX7_isSnakeForm_7 : decode cX7_isSnakeForm 7 = .ok (.bipush 59, 2) := by decide +kernel
theorem dX7_isSnakeForm_9 : decode cX7_isSnakeForm 9 = .ok (.if_icmp .gt 34, 3) := by decide +kernel
theorem dX7_isSnakeForm_12 : decode cX7_isSnakeForm 12 = .ok (.iload_n 1, 1) := by decide +kernel
theorem dX7_isSnakeForm_13 : decode cX7_isSnakeForm 13 = .ok (.iconst 1, 1) := by decide +kernel
theorem dX7_isSnakeForm_14 : decode cX7_isSnakeForm 14 = .ok (.if_icmp .lt 29, 3) := by decide +kernel
theorem dX7_isSnakeForm_17 : decode cX7_isSnakeForm 17 = .ok (.iload_n 1, 1) := by decide +kernel
theorem dX7_isSnakeForm_18 : decode cX7_isSnakeForm 18 = .ok (.bipush 53, 2) := by decide +kernel
theorem dX7_isSnakeForm_20 : decode cX7_isSnakeForm 20 = .ok (.if_icmp .gt 23, 3) := by decide +kernel
theorem dX7_isSnakeForm_23 : decode cX7_isSnakeForm 23 = .ok (.iload_n 0, 1) := by decide +kernel
theorem dX7_isSnakeForm_24 : decode cX7_isSnakeForm 24 = .ok (.iload_n 1, 1) := by decide +kernel
theorem dX7_isSnakeForm_25 : decode cX7_isSnakeForm 25 = .ok (.isub, 1) := by decide +kernel
theorem dX7_isSnakeForm_26 : decode cX7_isSnakeForm 26 = .ok (.bipush 6, 2) := by decide +kernel
theorem dX7_isSnakeForm_28 : decode cX7_isSnakeForm 28 = .ok (.if_icmp .lt 15, 3) := by decide +kernel
theorem dX7_isSnakeForm_31 : decode cX7_isSnakeForm 31 = .ok (.iload_n 0, 1) := by decide +kernel
theorem dX7_isSnakeForm_32 : decode cX7_isSnakeForm 32 = .ok (.iload_n 1, 1) := by decide +kernel
theorem dX7_isSnakeForm_33 : decode cX7_isSnakeForm 33 = .ok (.isub, 1) := by decide +kernel
theorem dX7_isSnakeForm_34 : decode cX7_isSnakeForm 34 = .ok (.bipush 40, 2) := by decide +kernel
theorem dX7_isSnakeForm_36 : decode cX7_isSnakeForm 36 = .ok (.if_icmp .gt 7, 3) := by decide +kernel
theorem dX7_isSnakeForm_39 : decode cX7_isSnakeForm 39 = .ok (.iconst 1, 1) := by decide +kernel
theorem dX7_isSnakeForm_40 : decode cX7_isSnakeForm 40 = .ok (.goto 4, 3) := by decide +kernel
theorem dX7_isSnakeForm_43 : decode cX7_isSnakeForm 43 = .ok (.iconst 0, 1) := by decide +kernel
theorem dX7_isSnakeForm_44 : decode cX7_isSnakeForm 44 = .ok (.ireturn, 1) := by decide +kernel
theorem dX7_leastValue_0 : decode cX7_leastValue 0 = .ok (.iload_n 0, 1) := by decide +kernel
theorem dX7_leastValue_1 : decode cX7_leastValue 1 = .ok (.iconst 2, 1) := by decide +kernel
theorem dX7_leastValue_2 : decode cX7_leastValue 2 = .ok (.if_icmp .ne 7, 3) := by decide +kernel
theorem dX7_leastValue_5 : decode cX7_leastValue 5 = .ok (.iconst 1, 1) := by decide +kernel
theorem dX7_leastValue_6 : decode cX7_leastValue 6 = .ok (.goto 4, 3) := by decide +kernel
theorem dX7_leastValue_9 : decode cX7_leastValue 9 = .ok (.iconst 0, 1) := by decide +kernel
theorem dX7_leastValue_10 : decode cX7_leastValue 10 = .ok (.ireturn, 1) := by decide +kernel
theorem dX7_highestValue_0 : decode cX7_highestValue 0 = .ok (.iload_n 0, 1) := by decide +kernel
theorem dX7_highestValue_1 : decode cX7_highestValue 1 = .ok (.lookupswitch 33 #[(0, 27), (1, 30)], 27) := by decide +kernel
theorem dX7_highestValue_28 : decode cX7_highestValue 28 = .ok (.bipush 9, 2) := by decide +kernel
theorem dX7_highestValue_30 : decode cX7_highestValue 30 = .ok (.ireturn, 1) := by decide +kernel
theorem dX7_highestValue_31 : decode cX7_highestValue 31 = .ok (.bipush 50, 2) := by decide +kernel
theorem dX7_highestValue_33 : decode cX7_highestValue 33 = .ok (.ireturn, 1) := by decide +kernel
theorem dX7_highestValue_34 : decode cX7_highestValue 34 = .ok (.iconst 3, 1) := by decide +kernel
theorem dX7_highestValue_35 : decode cX7_highestValue 35 = .ok (.ireturn, 1) := by decide +kernel
theorem dX7_isDraw_0 : decode cX7_isDraw 0 = .ok (.iload_n 0, 1) := by decide +kernel
theorem dX7_isDraw_1 : decode cX7_isDraw 1 = .ok (.ifCond .lt 13, 3) := by decide +kernel
theorem dX7_isDraw_4 : decode cX7_isDraw 4 = .ok (.iload_n 0, 1) := by decide +kernel
theorem dX7_isDraw_5 : decode cX7_isDraw 5 = .ok (.ldc 250, 2) := by decide +kernel
theorem dX7_isDraw_7 : decode cX7_isDraw 7 = .ok (.if_icmp .gt 7, 3) := by decide +kernel
theorem dX7_isDraw_10 : decode cX7_isDraw 10 = .ok (.iconst 1, 1) := by decide +kernel
theorem dX7_isDraw_11 : decode cX7_isDraw 11 = .ok (.goto 4, 3) := by decide +kernel
theorem dX7_isDraw_14 : decode cX7_isDraw 14 = .ok (.iconst 0, 1) := by decide +kernel
theorem dX7_isDraw_15 : decode cX7_isDraw 15 = .ok (.ireturn, 1) := by decide +kernel
theorem dX7_drawAfter_0 : decode cX7_drawAfter 0 = .ok (.sipush 25173, 3) := by decide +kernel
theorem dX7_drawAfter_3 : decode cX7_drawAfter 3 = .ok (.iload_n 0, 1) := by decide +kernel
theorem dX7_drawAfter_4 : decode cX7_drawAfter 4 = .ok (.imul, 1) := by decide +kernel
theorem dX7_drawAfter_5 : decode cX7_drawAfter 5 = .ok (.sipush 13849, 3) := by decide +kernel
theorem dX7_drawAfter_8 : decode cX7_drawAfter 8 = .ok (.iadd, 1) := by decide +kernel
theorem dX7_drawAfter_9 : decode cX7_drawAfter 9 = .ok (.ldc 251, 2) := by decide +kernel
theorem dX7_drawAfter_11 : decode cX7_drawAfter 11 = .ok (.irem, 1) := by decide +kernel
theorem dX7_drawAfter_12 : decode cX7_drawAfter 12 = .ok (.ireturn, 1) := by decide +kernel
theorem dX7_throwOf_0 : decode cX7_throwOf 0 = .ok (.iconst 1, 1) := by decide +kernel
theorem dX7_throwOf_1 : decode cX7_throwOf 1 = .ok (.iload_n 0, 1) := by decide +kernel
theorem dX7_throwOf_2 : decode cX7_throwOf 2 = .ok (.sipush 10923, 3) := by decide +kernel
theorem dX7_throwOf_5 : decode cX7_throwOf 5 = .ok (.idiv, 1) := by decide +kernel
theorem dX7_throwOf_6 : decode cX7_throwOf 6 = .ok (.iadd, 1) := by decide +kernel
theorem dX7_throwOf_7 : decode cX7_throwOf 7 = .ok (.ireturn, 1) := by decide +kernel
theorem dX7_landing_0 : decode cX7_landing 0 = .ok (.iload_n 0, 1) := by decide +kernel
theorem dX7_landing_1 : decode cX7_landing 1 = .ok (.iload_n 1, 1) := by decide +kernel
theorem dX7_landing_2 : decode cX7_landing 2 = .ok (.iadd, 1) := by decide +kernel
theorem dX7_landing_3 : decode cX7_landing 3 = .ok (.istore_n 2, 1) := by decide +kernel
theorem dX7_landing_4 : decode cX7_landing 4 = .ok (.iload_n 2, 1) := by decide +kernel
theorem dX7_landing_5 : decode cX7_landing 5 = .ok (.bipush 60, 2) := by decide +kernel
theorem dX7_landing_7 : decode cX7_landing 7 = .ok (.if_icmp .le 10, 3) := by decide +kernel
theorem dX7_landing_10 : decode cX7_landing 10 = .ok (.bipush 120, 2) := by decide +kernel
theorem dX7_landing_12 : decode cX7_landing 12 = .ok (.iload_n 2, 1) := by decide +kernel
theorem dX7_landing_13 : decode cX7_landing 13 = .ok (.isub, 1) := by decide +kernel
theorem dX7_landing_14 : decode cX7_landing 14 = .ok (.goto 4, 3) := by decide +kernel
theorem dX7_landing_17 : decode cX7_landing 17 = .ok (.iload_n 2, 1) := by decide +kernel
theorem dX7_landing_18 : decode cX7_landing 18 = .ok (.ireturn, 1) := by decide +kernel
theorem dL_cell_0 : decode cL_cell 0 = .ok (.iload_n 1, 1) := by decide +kernel
theorem dL_cell_1 : decode cL_cell 1 = .ok (.aload_n 0, 1) := by decide +kernel
theorem dL_cell_2 : decode cL_cell 2 = .ok (.arraylength, 1) := by decide +kernel
theorem dL_cell_3 : decode cL_cell 3 = .ok (.if_icmp .ge 9, 3) := by decide +kernel
theorem dL_cell_6 : decode cL_cell 6 = .ok (.aload_n 0, 1) := by decide +kernel
theorem dL_cell_7 : decode cL_cell 7 = .ok (.iload_n 1, 1) := by decide +kernel
theorem dL_cell_8 : decode cL_cell 8 = .ok (.iaload, 1) := by decide +kernel
theorem dL_cell_9 : decode cL_cell 9 = .ok (.goto 12, 3) := by decide +kernel
theorem dL_cell_12 : decode cL_cell 12 = .ok (.ldc 7, 2) := by decide +kernel
theorem dL_cell_14 : decode cL_cell 14 = .ok (.iload_n 1, 1) := by decide +kernel
theorem dL_cell_15 : decode cL_cell 15 = .ok (.iconst 5, 1) := by decide +kernel
theorem dL_cell_16 : decode cL_cell 16 = .ok (.iadd, 1) := by decide +kernel
theorem dL_cell_17 : decode cL_cell 17 = .ok (.imul, 1) := by decide +kernel
theorem dL_cell_18 : decode cL_cell 18 = .ok (.ldc 8, 2) := by decide +kernel
theorem dL_cell_20 : decode cL_cell 20 = .ok (.iadd, 1) := by decide +kernel
theorem dL_cell_21 : decode cL_cell 21 = .ok (.ireturn, 1) := by decide +kernel
theorem dL_low_0 : decode cL_low 0 = .ok (.iload_n 0, 1) := by decide +kernel
theorem dL_low_1 : decode cL_low 1 = .ok (.ldc 9, 2) := by decide +kernel
theorem dL_low_3 : decode cL_low 3 = .ok (.iand, 1) := by decide +kernel
theorem dL_low_4 : decode cL_low 4 = .ok (.iload_n 1, 1) := by decide +kernel
theorem dL_low_5 : decode cL_low 5 = .ok (.irem, 1) := by decide +kernel
theorem dL_low_6 : decode cL_low 6 = .ok (.ireturn, 1) := by decide +kernel
theorem dL_ones_0 : decode cL_ones 0 = .ok (.iload_n 0, 1) := by decide +kernel
theorem dL_ones_1 : decode cL_ones 1 = .ok (.iconst 1, 1) := by decide +kernel
theorem dL_ones_2 : decode cL_ones 2 = .ok (.iand, 1) := by decide +kernel
theorem dL_ones_3 : decode cL_ones 3 = .ok (.iload_n 0, 1) := by decide +kernel
theorem dL_ones_4 : decode cL_ones 4 = .ok (.iconst 1, 1) := by decide +kernel
theorem dL_ones_5 : decode cL_ones 5 = .ok (.ishr, 1) := by decide +kernel
theorem dL_ones_6 : decode cL_ones 6 = .ok (.iconst 1, 1) := by decide +kernel
theorem dL_ones_7 : decode cL_ones 7 = .ok (.iand, 1) := by decide +kernel
theorem dL_ones_8 : decode cL_ones 8 = .ok (.iadd, 1) := by decide +kernel
theorem dL_ones_9 : decode cL_ones 9 = .ok (.iload_n 0, 1) := by decide +kernel
theorem dL_ones_10 : decode cL_ones 10 = .ok (.iconst 2, 1) := by decide +kernel
theorem dL_ones_11 : decode cL_ones 11 = .ok (.ishr, 1) := by decide +kernel
theorem dL_ones_12 : decode cL_ones 12 = .ok (.iconst 1, 1) := by decide +kernel
theorem dL_ones_13 : decode cL_ones 13 = .ok (.iand, 1) := by decide +kernel
theorem dL_ones_14 : decode cL_ones 14 = .ok (.iadd, 1) := by decide +kernel
theorem dL_ones_15 : decode cL_ones 15 = .ok (.iload_n 0, 1) := by decide +kernel
theorem dL_ones_16 : decode cL_ones 16 = .ok (.iconst 3, 1) := by decide +kernel
theorem dL_ones_17 : decode cL_ones 17 = .ok (.ishr, 1) := by decide +kernel
theorem dL_ones_18 : decode cL_ones 18 = .ok (.iconst 1, 1) := by decide +kernel
theorem dL_ones_19 : decode cL_ones 19 = .ok (.iand, 1) := by decide +kernel
theorem dL_ones_20 : decode cL_ones 20 = .ok (.iadd, 1) := by decide +kernel
theorem dL_ones_21 : decode cL_ones 21 = .ok (.ireturn, 1) := by decide +kernel
theorem dL_isPlayer_0 : decode cL_isPlayer 0 = .ok (.iconst 0, 1) := by decide +kernel
theorem dL_isPlayer_1 : decode cL_isPlayer 1 = .ok (.istore_n 2, 1) := by decide +kernel
theorem dL_isPlayer_2 : decode cL_isPlayer 2 = .ok (.aload_n 0, 1) := by decide +kernel
theorem dL_isPlayer_3 : decode cL_isPlayer 3 = .ok (.iload_n 1, 1) := by decide +kernel
theorem dL_isPlayer_4 : decode cL_isPlayer 4 = .ok (.iconst 0, 1) := by decide +kernel
theorem dL_isPlayer_5 : decode cL_isPlayer 5 = .ok (.invokevirtual 10, 3) := by decide +kernel
theorem dL_isPlayer_8 : decode cL_isPlayer 8 = .ok (.aload_n 0, 1) := by decide +kernel
theorem dL_isPlayer_9 : decode cL_isPlayer 9 = .ok (.iload_n 1, 1) := by decide +kernel
theorem dL_isPlayer_10 : decode cL_isPlayer 10 = .ok (.iconst 3, 1) := by decide +kernel
theorem dL_isPlayer_11 : decode cL_isPlayer 11 = .ok (.invokevirtual 10, 3) := by decide +kernel
theorem dL_isPlayer_14 : decode cL_isPlayer 14 = .ok (.isub, 1) := by decide +kernel
theorem dL_isPlayer_15 : decode cL_isPlayer 15 = .ok (.istore_n 3, 1) := by decide +kernel
theorem dL_isPlayer_16 : decode cL_isPlayer 16 = .ok (.aload_n 0, 1) := by decide +kernel
theorem dL_isPlayer_17 : decode cL_isPlayer 17 = .ok (.iload_n 1, 1) := by decide +kernel
theorem dL_isPlayer_18 : decode cL_isPlayer 18 = .ok (.iconst 5, 1) := by decide +kernel
theorem dL_isPlayer_19 : decode cL_isPlayer 19 = .ok (.invokevirtual 10, 3) := by decide +kernel
theorem dL_isPlayer_22 : decode cL_isPlayer 22 = .ok (.bipush (-5), 2) := by decide +kernel
theorem dL_isPlayer_24 : decode cL_isPlayer 24 = .ok (.if_icmp .eq 7, 3) := by decide +kernel
theorem dL_isPlayer_27 : decode cL_isPlayer 27 = .ok (.iconst 1, 1) := by decide +kernel
theorem dL_isPlayer_28 : decode cL_isPlayer 28 = .ok (.goto 4, 3) := by decide +kernel
theorem dL_isPlayer_31 : decode cL_isPlayer 31 = .ok (.iconst 0, 1) := by decide +kernel
theorem dL_isPlayer_32 : decode cL_isPlayer 32 = .ok (.istore 4, 2) := by decide +kernel
theorem dL_isPlayer_34 : decode cL_isPlayer 34 = .ok (.iconst 0, 1) := by decide +kernel
theorem dL_isPlayer_35 : decode cL_isPlayer 35 = .ok (.istore 5, 2) := by decide +kernel
theorem dL_isPlayer_37 : decode cL_isPlayer 37 = .ok (.iload 5, 2) := by decide +kernel
theorem dL_isPlayer_39 : decode cL_isPlayer 39 = .ok (.aload_n 0, 1) := by decide +kernel
theorem dL_isPlayer_40 : decode cL_isPlayer 40 = .ok (.iload_n 1, 1) := by decide +kernel
theorem dL_isPlayer_41 : decode cL_isPlayer 41 = .ok (.iconst 2, 1) := by decide +kernel
theorem dL_isPlayer_42 : decode cL_isPlayer 42 = .ok (.invokevirtual 10, 3) := by decide +kernel
theorem dL_isPlayer_45 : decode cL_isPlayer 45 = .ok (.if_icmp .ge 117, 3) := by decide +kernel
theorem dL_isPlayer_48 : decode cL_isPlayer 48 = .ok (.aload_n 0, 1) := by decide +kernel
theorem dL_isPlayer_49 : decode cL_isPlayer 49 = .ok (.iload_n 1, 1) := by decide +kernel
theorem dL_isPlayer_50 : decode cL_isPlayer 50 = .ok (.iload 5, 2) := by decide +kernel
theorem dL_isPlayer_52 : decode cL_isPlayer 52 = .ok (.iconst 3, 1) := by decide +kernel
theorem dL_isPlayer_53 : decode cL_isPlayer 53 = .ok (.invokevirtual 16, 3) := by decide +kernel
theorem dL_isPlayer_56 : decode cL_isPlayer 56 = .ok (.istore 6, 2) := by decide +kernel
theorem dL_isPlayer_58 : decode cL_isPlayer 58 = .ok (.aload_n 0, 1) := by decide +kernel
theorem dL_isPlayer_59 : decode cL_isPlayer 59 = .ok (.iload_n 1, 1) := by decide +kernel
theorem dL_isPlayer_60 : decode cL_isPlayer 60 = .ok (.iload 5, 2) := by decide +kernel
theorem dL_isPlayer_62 : decode cL_isPlayer 62 = .ok (.iconst 2, 1) := by decide +kernel
theorem dL_isPlayer_63 : decode cL_isPlayer 63 = .ok (.invokevirtual 16, 3) := by decide +kernel
theorem dL_isPlayer_66 : decode cL_isPlayer 66 = .ok (.istore 7, 2) := by decide +kernel
theorem dL_isPlayer_68 : decode cL_isPlayer 68 = .ok (.iload_n 2, 1) := by decide +kernel
theorem dL_isPlayer_69 : decode cL_isPlayer 69 = .ok (.aload_n 0, 1) := by decide +kernel
theorem dL_isPlayer_70 : decode cL_isPlayer 70 = .ok (.iload_n 1, 1) := by decide +kernel
theorem dL_isPlayer_71 : decode cL_isPlayer 71 = .ok (.iload 5, 2) := by decide +kernel
theorem dL_isPlayer_73 : decode cL_isPlayer 73 = .ok (.iconst 0, 1) := by decide +kernel
theorem dL_isPlayer_74 : decode cL_isPlayer 74 = .ok (.invokevirtual 16, 3) := by decide +kernel
theorem dL_isPlayer_77 : decode cL_isPlayer 77 = .ok (.iadd, 1) := by decide +kernel
theorem dL_isPlayer_78 : decode cL_isPlayer 78 = .ok (.istore_n 2, 1) := by decide +kernel
theorem dL_isPlayer_79 : decode cL_isPlayer 79 = .ok (.aload_n 0, 1) := by decide +kernel
theorem dL_isPlayer_80 : decode cL_isPlayer 80 = .ok (.iload_n 1, 1) := by decide +kernel
theorem dL_isPlayer_81 : decode cL_isPlayer 81 = .ok (.iload 5, 2) := by decide +kernel
theorem dL_isPlayer_83 : decode cL_isPlayer 83 = .ok (.iconst 0, 1) := by decide +kernel
theorem dL_isPlayer_84 : decode cL_isPlayer 84 = .ok (.invokevirtual 16, 3) := by decide +kernel
theorem dL_isPlayer_87 : decode cL_isPlayer 87 = .ok (.bipush 6, 2) := by decide +kernel
theorem dL_isPlayer_89 : decode cL_isPlayer 89 = .ok (.if_icmp .lt 65, 3) := by decide +kernel
theorem dL_isPlayer_92 : decode cL_isPlayer 92 = .ok (.aload_n 0, 1) := by decide +kernel
theorem dL_isPlayer_93 : decode cL_isPlayer 93 = .ok (.iload_n 1, 1) := by decide +kernel
theorem dL_isPlayer_94 : decode cL_isPlayer 94 = .ok (.iload 5, 2) := by decide +kernel
theorem dL_isPlayer_96 : decode cL_isPlayer 96 = .ok (.iconst 0, 1) := by decide +kernel
theorem dL_isPlayer_97 : decode cL_isPlayer 97 = .ok (.invokevirtual 16, 3) := by decide +kernel
theorem dL_isPlayer_100 : decode cL_isPlayer 100 = .ok (.bipush 40, 2) := by decide +kernel
theorem dL_isPlayer_102 : decode cL_isPlayer 102 = .ok (.if_icmp .gt 52, 3) := by decide +kernel
theorem dL_isPlayer_105 : decode cL_isPlayer 105 = .ok (.aload_n 0, 1) := by decide +kernel
theorem dL_isPlayer_106 : decode cL_isPlayer 106 = .ok (.iload_n 1, 1) := by decide +kernel
theorem dL_isPlayer_107 : decode cL_isPlayer 107 = .ok (.iload 5, 2) := by decide +kernel
theorem dL_isPlayer_109 : decode cL_isPlayer 109 = .ok (.iconst 1, 1) := by decide +kernel
theorem dL_isPlayer_110 : decode cL_isPlayer 110 = .ok (.invokevirtual 16, 3) := by decide +kernel
theorem dL_isPlayer_113 : decode cL_isPlayer 113 = .ok (.iload 6, 2) := by decide +kernel
theorem dL_isPlayer_115 : decode cL_isPlayer 115 = .ok (.invokestatic 20, 3) := by decide +kernel
theorem dL_isPlayer_118 : decode cL_isPlayer 118 = .ok (.iconst 1, 1) := by decide +kernel
theorem dL_isPlayer_119 : decode cL_isPlayer 119 = .ok (.isub, 1) := by decide +kernel
theorem dL_isPlayer_120 : decode cL_isPlayer 120 = .ok (.if_icmp .ne 34, 3) := by decide +kernel
theorem dL_isPlayer_123 : decode cL_isPlayer 123 = .ok (.aload_n 0, 1) := by decide +kernel
theorem dL_isPlayer_124 : decode cL_isPlayer 124 = .ok (.iload_n 1, 1) := by decide +kernel
theorem dL_isPlayer_125 : decode cL_isPlayer 125 = .ok (.iload 5, 2) := by decide +kernel
theorem dL_isPlayer_127 : decode cL_isPlayer 127 = .ok (.iconst 1, 1) := by decide +kernel
theorem dL_isPlayer_128 : decode cL_isPlayer 128 = .ok (.invokevirtual 16, 3) := by decide +kernel
theorem dL_isPlayer_131 : decode cL_isPlayer 131 = .ok (.iconst 3, 1) := by decide +kernel
theorem dL_isPlayer_132 : decode cL_isPlayer 132 = .ok (.if_icmp .gt 22, 3) := by decide +kernel
theorem dL_isPlayer_135 : decode cL_isPlayer 135 = .ok (.iload 6, 2) := by decide +kernel
theorem dL_isPlayer_137 : decode cL_isPlayer 137 = .ok (.iload_n 1, 1) := by decide +kernel
theorem dL_isPlayer_138 : decode cL_isPlayer 138 = .ok (.ishr, 1) := by decide +kernel
theorem dL_isPlayer_139 : decode cL_isPlayer 139 = .ok (.iconst 1, 1) := by decide +kernel
theorem dL_isPlayer_140 : decode cL_isPlayer 140 = .ok (.iand, 1) := by decide +kernel
theorem dL_isPlayer_141 : decode cL_isPlayer 141 = .ok (.ifCond .eq 13, 3) := by decide +kernel
theorem dL_isPlayer_144 : decode cL_isPlayer 144 = .ok (.iload 6, 2) := by decide +kernel
theorem dL_isPlayer_146 : decode cL_isPlayer 146 = .ok (.iload 7, 2) := by decide +kernel
theorem dL_isPlayer_148 : decode cL_isPlayer 148 = .ok (.ishr, 1) := by decide +kernel
theorem dL_isPlayer_149 : decode cL_isPlayer 149 = .ok (.iconst 1, 1) := by decide +kernel
theorem dL_isPlayer_150 : decode cL_isPlayer 150 = .ok (.iand, 1) := by decide +kernel
theorem dL_isPlayer_151 : decode cL_isPlayer 151 = .ok (.ifCond .ne 5, 3) := by decide +kernel
theorem dL_isPlayer_154 : decode cL_isPlayer 154 = .ok (.iconst 0, 1) := by decide +kernel
theorem dL_isPlayer_155 : decode cL_isPlayer 155 = .ok (.ireturn, 1) := by decide +kernel
theorem dL_isPlayer_156 : decode cL_isPlayer 156 = .ok (.iinc 5 1, 3) := by decide +kernel
theorem dL_isPlayer_159 : decode cL_isPlayer 159 = .ok (.goto (-122), 3) := by decide +kernel
theorem dL_isPlayer_162 : decode cL_isPlayer 162 = .ok (.aload_n 0, 1) := by decide +kernel
theorem dL_isPlayer_163 : decode cL_isPlayer 163 = .ok (.iload_n 1, 1) := by decide +kernel
theorem dL_isPlayer_164 : decode cL_isPlayer 164 = .ok (.iconst 3, 1) := by decide +kernel
theorem dL_isPlayer_165 : decode cL_isPlayer 165 = .ok (.invokevirtual 10, 3) := by decide +kernel
theorem dL_isPlayer_168 : decode cL_isPlayer 168 = .ok (.iload_n 2, 1) := by decide +kernel
theorem dL_isPlayer_169 : decode cL_isPlayer 169 = .ok (.if_icmp .ne 106, 3) := by decide +kernel
theorem dL_isPlayer_172 : decode cL_isPlayer 172 = .ok (.aload_n 0, 1) := by decide +kernel
theorem dL_isPlayer_173 : decode cL_isPlayer 173 = .ok (.iload_n 1, 1) := by decide +kernel
theorem dL_isPlayer_174 : decode cL_isPlayer 174 = .ok (.iconst 4, 1) := by decide +kernel
theorem dL_isPlayer_175 : decode cL_isPlayer 175 = .ok (.invokevirtual 10, 3) := by decide +kernel
theorem dL_isPlayer_178 : decode cL_isPlayer 178 = .ok (.iload_n 3, 1) := by decide +kernel
theorem dL_isPlayer_179 : decode cL_isPlayer 179 = .ok (.ifCond .ge 7, 3) := by decide +kernel
theorem dL_isPlayer_182 : decode cL_isPlayer 182 = .ok (.iconst 0, 1) := by decide +kernel
theorem dL_isPlayer_183 : decode cL_isPlayer 183 = .ok (.goto 4, 3) := by decide +kernel
theorem dL_isPlayer_186 : decode cL_isPlayer 186 = .ok (.iload_n 3, 1) := by decide +kernel
theorem dL_isPlayer_187 : decode cL_isPlayer 187 = .ok (.if_icmp .ne 88, 3) := by decide +kernel
theorem dL_isPlayer_190 : decode cL_isPlayer 190 = .ok (.aload_n 0, 1) := by decide +kernel
theorem dL_isPlayer_191 : decode cL_isPlayer 191 = .ok (.iload_n 1, 1) := by decide +kernel
theorem dL_isPlayer_192 : decode cL_isPlayer 192 = .ok (.iconst 1, 1) := by decide +kernel
theorem dL_isPlayer_193 : decode cL_isPlayer 193 = .ok (.invokevirtual 10, 3) := by decide +kernel
theorem dL_isPlayer_196 : decode cL_isPlayer 196 = .ok (.sipush 950, 3) := by decide +kernel
theorem dL_isPlayer_199 : decode cL_isPlayer 199 = .ok (.if_icmp .lt 76, 3) := by decide +kernel
theorem dL_isPlayer_202 : decode cL_isPlayer 202 = .ok (.aload_n 0, 1) := by decide +kernel
theorem dL_isPlayer_203 : decode cL_isPlayer 203 = .ok (.iload_n 1, 1) := by decide +kernel
theorem dL_isPlayer_204 : decode cL_isPlayer 204 = .ok (.iconst 0, 1) := by decide +kernel
theorem dL_isPlayer_205 : decode cL_isPlayer 205 = .ok (.invokevirtual 10, 3) := by decide +kernel
theorem dL_isPlayer_208 : decode cL_isPlayer 208 = .ok (.bipush 60, 2) := by decide +kernel
theorem dL_isPlayer_210 : decode cL_isPlayer 210 = .ok (.if_icmp .gt 65, 3) := by decide +kernel
theorem dL_isPlayer_213 : decode cL_isPlayer 213 = .ok (.aload_n 0, 1) := by decide +kernel
theorem dL_isPlayer_214 : decode cL_isPlayer 214 = .ok (.iload_n 1, 1) := by decide +kernel
theorem dL_isPlayer_215 : decode cL_isPlayer 215 = .ok (.iconst 0, 1) := by decide +kernel
theorem dL_isPlayer_216 : decode cL_isPlayer 216 = .ok (.invokevirtual 10, 3) := by decide +kernel
theorem dL_isPlayer_219 : decode cL_isPlayer 219 = .ok (.ifCond .lt 56, 3) := by decide +kernel
theorem dL_isPlayer_222 : decode cL_isPlayer 222 = .ok (.aload_n 0, 1) := by decide +kernel
theorem dL_isPlayer_223 : decode cL_isPlayer 223 = .ok (.aload_n 0, 1) := by decide +kernel
theorem dL_isPlayer_224 : decode cL_isPlayer 224 = .ok (.iload_n 1, 1) := by decide +kernel
theorem dL_isPlayer_225 : decode cL_isPlayer 225 = .ok (.iconst 0, 1) := by decide +kernel
theorem dL_isPlayer_226 : decode cL_isPlayer 226 = .ok (.invokevirtual 10, 3) := by decide +kernel
theorem dL_isPlayer_229 : decode cL_isPlayer 229 = .ok (.iconst 0, 1) := by decide +kernel
theorem dL_isPlayer_230 : decode cL_isPlayer 230 = .ok (.invokevirtual 26, 3) := by decide +kernel
theorem dL_isPlayer_233 : decode cL_isPlayer 233 = .ok (.iload_n 1, 1) := by decide +kernel
theorem dL_isPlayer_234 : decode cL_isPlayer 234 = .ok (.ishr, 1) := by decide +kernel
theorem dL_isPlayer_235 : decode cL_isPlayer 235 = .ok (.iconst 1, 1) := by decide +kernel
theorem dL_isPlayer_236 : decode cL_isPlayer 236 = .ok (.iand, 1) := by decide +kernel
theorem dL_isPlayer_237 : decode cL_isPlayer 237 = .ok (.iconst 1, 1) := by decide +kernel
theorem dL_isPlayer_238 : decode cL_isPlayer 238 = .ok (.if_icmp .ne 37, 3) := by decide +kernel
theorem dL_isPlayer_241 : decode cL_isPlayer 241 = .ok (.aload_n 0, 1) := by decide +kernel
theorem dL_isPlayer_242 : decode cL_isPlayer 242 = .ok (.iload_n 1, 1) := by decide +kernel
theorem dL_isPlayer_243 : decode cL_isPlayer 243 = .ok (.invokevirtual 29, 3) := by decide +kernel
theorem dL_isPlayer_246 : decode cL_isPlayer 246 = .ok (.aload_n 0, 1) := by decide +kernel
theorem dL_isPlayer_247 : decode cL_isPlayer 247 = .ok (.iload_n 1, 1) := by decide +kernel
theorem dL_isPlayer_248 : decode cL_isPlayer 248 = .ok (.iconst 4, 1) := by decide +kernel
theorem dL_isPlayer_249 : decode cL_isPlayer 249 = .ok (.invokevirtual 10, 3) := by decide +kernel
theorem dL_isPlayer_252 : decode cL_isPlayer 252 = .ok (.i2d, 1) := by decide +kernel
theorem dL_isPlayer_253 : decode cL_isPlayer 253 = .ok (.ldc2_w 33, 3) := by decide +kernel
theorem dL_isPlayer_256 : decode cL_isPlayer 256 = .ok (.ddiv, 1) := by decide +kernel
theorem dL_isPlayer_257 : decode cL_isPlayer 257 = .ok (.dcmp .l, 1) := by decide +kernel
theorem dL_isPlayer_258 : decode cL_isPlayer 258 = .ok (.ifCond .ne 17, 3) := by decide +kernel
theorem dL_isPlayer_261 : decode cL_isPlayer 261 = .ok (.aload_n 0, 1) := by decide +kernel
theorem dL_isPlayer_262 : decode cL_isPlayer 262 = .ok (.iload_n 1, 1) := by decide +kernel
theorem dL_isPlayer_263 : decode cL_isPlayer 263 = .ok (.invokevirtual 29, 3) := by decide +kernel
theorem dL_isPlayer_266 : decode cL_isPlayer 266 = .ok (.dconst 1, 1) := by decide +kernel
theorem dL_isPlayer_267 : decode cL_isPlayer 267 = .ok (.dcmp .g, 1) := by decide +kernel
theorem dL_isPlayer_268 : decode cL_isPlayer 268 = .ok (.ifCond .gt 7, 3) := by decide +kernel
theorem dL_isPlayer_271 : decode cL_isPlayer 271 = .ok (.iconst 1, 1) := by decide +kernel
theorem dL_isPlayer_272 : decode cL_isPlayer 272 = .ok (.goto 4, 3) := by decide +kernel
theorem dL_isPlayer_275 : decode cL_isPlayer 275 = .ok (.iconst 0, 1) := by decide +kernel
theorem dL_isPlayer_276 : decode cL_isPlayer 276 = .ok (.istore 5, 2) := by decide +kernel
theorem dL_isPlayer_278 : decode cL_isPlayer 278 = .ok (.aload_n 0, 1) := by decide +kernel
theorem dL_isPlayer_279 : decode cL_isPlayer 279 = .ok (.iload_n 1, 1) := by decide +kernel
theorem dL_isPlayer_280 : decode cL_isPlayer 280 = .ok (.iconst 0, 1) := by decide +kernel
theorem dL_isPlayer_281 : decode cL_isPlayer 281 = .ok (.invokevirtual 35, 3) := by decide +kernel
theorem dL_isPlayer_284 : decode cL_isPlayer 284 = .ok (.istore 6, 2) := by decide +kernel
theorem dL_isPlayer_286 : decode cL_isPlayer 286 = .ok (.iload 5, 2) := by decide +kernel
theorem dL_isPlayer_288 : decode cL_isPlayer 288 = .ok (.ifCond .eq 146, 3) := by decide +kernel
theorem dL_isPlayer_291 : decode cL_isPlayer 291 = .ok (.iload 6, 2) := by decide +kernel
theorem dL_isPlayer_293 : decode cL_isPlayer 293 = .ok (.aload_n 0, 1) := by decide +kernel
theorem dL_isPlayer_294 : decode cL_isPlayer 294 = .ok (.iload_n 1, 1) := by decide +kernel
theorem dL_isPlayer_295 : decode cL_isPlayer 295 = .ok (.iconst 1, 1) := by decide +kernel
theorem dL_isPlayer_296 : decode cL_isPlayer 296 = .ok (.invokevirtual 35, 3) := by decide +kernel
theorem dL_isPlayer_299 : decode cL_isPlayer 299 = .ok (.if_icmp .ne 135, 3) := by decide +kernel
theorem dL_isPlayer_302 : decode cL_isPlayer 302 = .ok (.iload 6, 2) := by decide +kernel
theorem dL_isPlayer_304 : decode cL_isPlayer 304 = .ok (.ifCond .ne 7, 3) := by decide +kernel
theorem dL_isPlayer_307 : decode cL_isPlayer 307 = .ok (.iconst 1, 1) := by decide +kernel
theorem dL_isPlayer_308 : decode cL_isPlayer 308 = .ok (.goto 4, 3) := by decide +kernel
theorem dL_isPlayer_311 : decode cL_isPlayer 311 = .ok (.iconst 0, 1) := by decide +kernel
theorem dL_isPlayer_312 : decode cL_isPlayer 312 = .ok (.iload 4, 2) := by decide +kernel
theorem dL_isPlayer_314 : decode cL_isPlayer 314 = .ok (.if_icmp .ne 120, 3) := by decide +kernel
theorem dL_isPlayer_317 : decode cL_isPlayer 317 = .ok (.iload 4, 2) := by decide +kernel
theorem dL_isPlayer_319 : decode cL_isPlayer 319 = .ok (.ifCond .eq 62, 3) := by decide +kernel
theorem dL_isPlayer_322 : decode cL_isPlayer 322 = .ok (.aload_n 0, 1) := by decide +kernel
theorem dL_isPlayer_323 : decode cL_isPlayer 323 = .ok (.iload_n 1, 1) := by decide +kernel
theorem dL_isPlayer_324 : decode cL_isPlayer 324 = .ok (.iconst 0, 1) := by decide +kernel
theorem dL_isPlayer_325 : decode cL_isPlayer 325 = .ok (.invokevirtual 10, 3) := by decide +kernel
theorem dL_isPlayer_328 : decode cL_isPlayer 328 = .ok (.bipush 60, 2) := by decide +kernel
theorem dL_isPlayer_330 : decode cL_isPlayer 330 = .ok (.if_icmp .ne 104, 3) := by decide +kernel
theorem dL_isPlayer_333 : decode cL_isPlayer 333 = .ok (.aload_n 0, 1) := by decide +kernel
theorem dL_isPlayer_334 : decode cL_isPlayer 334 = .ok (.iload_n 1, 1) := by decide +kernel
theorem dL_isPlayer_335 : decode cL_isPlayer 335 = .ok (.iconst 2, 1) := by decide +kernel
theorem dL_isPlayer_336 : decode cL_isPlayer 336 = .ok (.invokevirtual 10, 3) := by decide +kernel
theorem dL_isPlayer_339 : decode cL_isPlayer 339 = .ok (.ifCond .ne 95, 3) := by decide +kernel
theorem dL_isPlayer_342 : decode cL_isPlayer 342 = .ok (.aload_n 0, 1) := by decide +kernel
theorem dL_isPlayer_343 : decode cL_isPlayer 343 = .ok (.iload_n 1, 1) := by decide +kernel
theorem dL_isPlayer_344 : decode cL_isPlayer 344 = .ok (.iconst 5, 1) := by decide +kernel
theorem dL_isPlayer_345 : decode cL_isPlayer 345 = .ok (.invokevirtual 10, 3) := by decide +kernel
theorem dL_isPlayer_348 : decode cL_isPlayer 348 = .ok (.iconst 1, 1) := by decide +kernel
theorem dL_isPlayer_349 : decode cL_isPlayer 349 = .ok (.if_icmp .lt 85, 3) := by decide +kernel
theorem dL_isPlayer_352 : decode cL_isPlayer 352 = .ok (.aload_n 0, 1) := by decide +kernel
theorem dL_isPlayer_353 : decode cL_isPlayer 353 = .ok (.iload_n 1, 1) := by decide +kernel
theorem dL_isPlayer_354 : decode cL_isPlayer 354 = .ok (.iconst 5, 1) := by decide +kernel
theorem dL_isPlayer_355 : decode cL_isPlayer 355 = .ok (.invokevirtual 10, 3) := by decide +kernel
theorem dL_isPlayer_358 : decode cL_isPlayer 358 = .ok (.iconst 4, 1) := by decide +kernel
theorem dL_isPlayer_359 : decode cL_isPlayer 359 = .ok (.aload_n 0, 1) := by decide +kernel
theorem dL_isPlayer_360 : decode cL_isPlayer 360 = .ok (.iconst 2, 1) := by decide +kernel
theorem dL_isPlayer_361 : decode cL_isPlayer 361 = .ok (.invokevirtual 38, 3) := by decide +kernel
theorem dL_isPlayer_364 : decode cL_isPlayer 364 = .ok (.isub, 1) := by decide +kernel
theorem dL_isPlayer_365 : decode cL_isPlayer 365 = .ok (.if_icmp .gt 69, 3) := by decide +kernel
theorem dL_isPlayer_368 : decode cL_isPlayer 368 = .ok (.aload_n 0, 1) := by decide +kernel
theorem dL_isPlayer_369 : decode cL_isPlayer 369 = .ok (.iload_n 1, 1) := by decide +kernel
theorem dL_isPlayer_370 : decode cL_isPlayer 370 = .ok (.invokevirtual 41, 3) := by decide +kernel
theorem dL_isPlayer_373 : decode cL_isPlayer 373 = .ok (.bipush (-4), 2) := by decide +kernel
theorem dL_isPlayer_375 : decode cL_isPlayer 375 = .ok (.if_icmp .ne 59, 3) := by decide +kernel
theorem dL_isPlayer_378 : decode cL_isPlayer 378 = .ok (.goto 22, 3) := by decide +kernel
theorem dL_isPlayer_381 : decode cL_isPlayer 381 = .ok (.aload_n 0, 1) := by decide +kernel
theorem dL_isPlayer_382 : decode cL_isPlayer 382 = .ok (.iload_n 1, 1) := by decide +kernel
theorem dL_isPlayer_383 : decode cL_isPlayer 383 = .ok (.iconst 0, 1) := by decide +kernel
theorem dL_isPlayer_384 : decode cL_isPlayer 384 = .ok (.invokevirtual 10, 3) := by decide +kernel
theorem dL_isPlayer_387 : decode cL_isPlayer 387 = .ok (.bipush 60, 2) := by decide +kernel
theorem dL_isPlayer_389 : decode cL_isPlayer 389 = .ok (.if_icmp .ge 45, 3) := by decide +kernel
theorem dL_isPlayer_392 : decode cL_isPlayer 392 = .ok (.aload_n 0, 1) := by decide +kernel
theorem dL_isPlayer_393 : decode cL_isPlayer 393 = .ok (.iload_n 1, 1) := by decide +kernel
theorem dL_isPlayer_394 : decode cL_isPlayer 394 = .ok (.invokevirtual 41, 3) := by decide +kernel
theorem dL_isPlayer_397 : decode cL_isPlayer 397 = .ok (.ifCond .lt 37, 3) := by decide +kernel
theorem dL_isPlayer_400 : decode cL_isPlayer 400 = .ok (.iload 4, 2) := by decide +kernel
theorem dL_isPlayer_402 : decode cL_isPlayer 402 = .ok (.ifCond .ne 28, 3) := by decide +kernel
theorem dL_isPlayer_405 : decode cL_isPlayer 405 = .ok (.aload_n 0, 1) := by decide +kernel
theorem dL_isPlayer_406 : decode cL_isPlayer 406 = .ok (.iconst 3, 1) := by decide +kernel
theorem dL_isPlayer_407 : decode cL_isPlayer 407 = .ok (.invokevirtual 38, 3) := by decide +kernel
theorem dL_isPlayer_410 : decode cL_isPlayer 410 = .ok (.ifCond .gt 20, 3) := by decide +kernel
theorem dL_isPlayer_413 : decode cL_isPlayer 413 = .ok (.iload 6, 2) := by decide +kernel
theorem dL_isPlayer_415 : decode cL_isPlayer 415 = .ok (.bipush 65, 2) := by decide +kernel
theorem dL_isPlayer_417 : decode cL_isPlayer 417 = .ok (.aload_n 0, 1) := by decide +kernel
theorem dL_isPlayer_418 : decode cL_isPlayer 418 = .ok (.iload_n 1, 1) := by decide +kernel
theorem dL_isPlayer_419 : decode cL_isPlayer 419 = .ok (.iconst 4, 1) := by decide +kernel
theorem dL_isPlayer_420 : decode cL_isPlayer 420 = .ok (.invokevirtual 10, 3) := by decide +kernel
theorem dL_isPlayer_423 : decode cL_isPlayer 423 = .ok (.isub, 1) := by decide +kernel
theorem dL_isPlayer_424 : decode cL_isPlayer 424 = .ok (.bipush 6, 2) := by decide +kernel
theorem dL_isPlayer_426 : decode cL_isPlayer 426 = .ok (.idiv, 1) := by decide +kernel
theorem dL_isPlayer_427 : decode cL_isPlayer 427 = .ok (.if_icmp .ne 7, 3) := by decide +kernel
theorem dL_isPlayer_430 : decode cL_isPlayer 430 = .ok (.iconst 1, 1) := by decide +kernel
theorem dL_isPlayer_431 : decode cL_isPlayer 431 = .ok (.goto 4, 3) := by decide +kernel
theorem dL_isPlayer_434 : decode cL_isPlayer 434 = .ok (.iconst 0, 1) := by decide +kernel
theorem dL_isPlayer_435 : decode cL_isPlayer 435 = .ok (.ireturn, 1) := by decide +kernel
theorem dL_holds_0 : decode cL_holds 0 = .ok (.iconst 0, 1) := by decide +kernel
theorem dL_holds_1 : decode cL_holds 1 = .ok (.istore_n 1, 1) := by decide +kernel
theorem dL_holds_2 : decode cL_holds 2 = .ok (.iconst 0, 1) := by decide +kernel
theorem dL_holds_3 : decode cL_holds 3 = .ok (.istore_n 2, 1) := by decide +kernel
theorem dL_holds_4 : decode cL_holds 4 = .ok (.iconst 0, 1) := by decide +kernel
theorem dL_holds_5 : decode cL_holds 5 = .ok (.istore_n 3, 1) := by decide +kernel
theorem dL_holds_6 : decode cL_holds 6 = .ok (.iconst 0, 1) := by decide +kernel
theorem dL_holds_7 : decode cL_holds 7 = .ok (.istore 4, 2) := by decide +kernel
theorem dL_holds_9 : decode cL_holds 9 = .ok (.iconst 0, 1) := by decide +kernel
theorem dL_holds_10 : decode cL_holds 10 = .ok (.istore 5, 2) := by decide +kernel
theorem dL_holds_12 : decode cL_holds 12 = .ok (.iconst 0, 1) := by decide +kernel
theorem dL_holds_13 : decode cL_holds 13 = .ok (.istore 6, 2) := by decide +kernel
theorem dL_holds_15 : decode cL_holds 15 = .ok (.iconst 0, 1) := by decide +kernel
theorem dL_holds_16 : decode cL_holds 16 = .ok (.istore 7, 2) := by decide +kernel
theorem dL_holds_18 : decode cL_holds 18 = .ok (.iload 7, 2) := by decide +kernel
theorem dL_holds_20 : decode cL_holds 20 = .ok (.iconst 4, 1) := by decide +kernel
theorem dL_holds_21 : decode cL_holds 21 = .ok (.if_icmp .ge 83, 3) := by decide +kernel
theorem dL_holds_24 : decode cL_holds 24 = .ok (.iload_n 1, 1) := by decide +kernel
theorem dL_holds_25 : decode cL_holds 25 = .ok (.aload_n 0, 1) := by decide +kernel
theorem dL_holds_26 : decode cL_holds 26 = .ok (.iload 7, 2) := by decide +kernel
theorem dL_holds_28 : decode cL_holds 28 = .ok (.iconst 2, 1) := by decide +kernel
theorem dL_holds_29 : decode cL_holds 29 = .ok (.invokevirtual 10, 3) := by decide +kernel
theorem dL_holds_32 : decode cL_holds 32 = .ok (.iadd, 1) := by decide +kernel
theorem dL_holds_33 : decode cL_holds 33 = .ok (.istore_n 1, 1) := by decide +kernel
theorem dL_holds_34 : decode cL_holds 34 = .ok (.iload_n 2, 1) := by decide +kernel
theorem dL_holds_35 : decode cL_holds 35 = .ok (.aload_n 0, 1) := by decide +kernel
theorem dL_holds_36 : decode cL_holds 36 = .ok (.iload 7, 2) := by decide +kernel
theorem dL_holds_38 : decode cL_holds 38 = .ok (.iconst 1, 1) := by decide +kernel
theorem dL_holds_39 : decode cL_holds 39 = .ok (.invokevirtual 10, 3) := by decide +kernel
theorem dL_holds_42 : decode cL_holds 42 = .ok (.sipush 1000, 3) := by decide +kernel
theorem dL_holds_45 : decode cL_holds 45 = .ok (.isub, 1) := by decide +kernel
theorem dL_holds_46 : decode cL_holds 46 = .ok (.iadd, 1) := by decide +kernel
theorem dL_holds_47 : decode cL_holds 47 = .ok (.istore_n 2, 1) := by decide +kernel
theorem dL_holds_48 : decode cL_holds 48 = .ok (.iload_n 3, 1) := by decide +kernel
theorem dL_holds_49 : decode cL_holds 49 = .ok (.aload_n 0, 1) := by decide +kernel
theorem dL_holds_50 : decode cL_holds 50 = .ok (.iload 7, 2) := by decide +kernel
theorem dL_holds_52 : decode cL_holds 52 = .ok (.bipush 6, 2) := by decide +kernel
theorem dL_holds_54 : decode cL_holds 54 = .ok (.invokevirtual 10, 3) := by decide +kernel
theorem dL_holds_57 : decode cL_holds 57 = .ok (.iadd, 1) := by decide +kernel
theorem dL_holds_58 : decode cL_holds 58 = .ok (.istore_n 3, 1) := by decide +kernel
theorem dL_holds_59 : decode cL_holds 59 = .ok (.iload 6, 2) := by decide +kernel
theorem dL_holds_61 : decode cL_holds 61 = .ok (.aload_n 0, 1) := by decide +kernel
theorem dL_holds_62 : decode cL_holds 62 = .ok (.iload 7, 2) := by decide +kernel
theorem dL_holds_64 : decode cL_holds 64 = .ok (.iconst 5, 1) := by decide +kernel
theorem dL_holds_65 : decode cL_holds 65 = .ok (.invokevirtual 10, 3) := by decide +kernel
theorem dL_holds_68 : decode cL_holds 68 = .ok (.ifCond .le 15, 3) := by decide +kernel
theorem dL_holds_71 : decode cL_holds 71 = .ok (.iconst 1, 1) := by decide +kernel
theorem dL_holds_72 : decode cL_holds 72 = .ok (.aload_n 0, 1) := by decide +kernel
theorem dL_holds_73 : decode cL_holds 73 = .ok (.iload 7, 2) := by decide +kernel
theorem dL_holds_75 : decode cL_holds 75 = .ok (.iconst 5, 1) := by decide +kernel
theorem dL_holds_76 : decode cL_holds 76 = .ok (.invokevirtual 10, 3) := by decide +kernel
theorem dL_holds_79 : decode cL_holds 79 = .ok (.ishl, 1) := by decide +kernel
theorem dL_holds_80 : decode cL_holds 80 = .ok (.goto 4, 3) := by decide +kernel
theorem dL_holds_83 : decode cL_holds 83 = .ok (.iconst 0, 1) := by decide +kernel
theorem dL_holds_84 : decode cL_holds 84 = .ok (.ior, 1) := by decide +kernel
theorem dL_holds_85 : decode cL_holds 85 = .ok (.istore 6, 2) := by decide +kernel
theorem dL_holds_87 : decode cL_holds 87 = .ok (.aload_n 0, 1) := by decide +kernel
theorem dL_holds_88 : decode cL_holds 88 = .ok (.iload 7, 2) := by decide +kernel
theorem dL_holds_90 : decode cL_holds 90 = .ok (.invokestatic 44, 3) := by decide +kernel
theorem dL_holds_93 : decode cL_holds 93 = .ok (.ifCond .ne 5, 3) := by decide +kernel
theorem dL_holds_96 : decode cL_holds 96 = .ok (.iconst 0, 1) := by decide +kernel
theorem dL_holds_97 : decode cL_holds 97 = .ok (.ireturn, 1) := by decide +kernel
theorem dL_holds_98 : decode cL_holds 98 = .ok (.iinc 7 1, 3) := by decide +kernel
theorem dL_holds_101 : decode cL_holds 101 = .ok (.goto (-83), 3) := by decide +kernel
theorem dL_holds_104 : decode cL_holds 104 = .ok (.iconst 0, 1) := by decide +kernel
theorem dL_holds_105 : decode cL_holds 105 = .ok (.istore 7, 2) := by decide +kernel
theorem dL_holds_107 : decode cL_holds 107 = .ok (.iload 7, 2) := by decide +kernel
theorem dL_holds_109 : decode cL_holds 109 = .ok (.bipush 10, 2) := by decide +kernel
theorem dL_holds_111 : decode cL_holds 111 = .ok (.if_icmp .ge 102, 3) := by decide +kernel
theorem dL_holds_114 : decode cL_holds 114 = .ok (.aload_n 0, 1) := by decide +kernel
theorem dL_holds_115 : decode cL_holds 115 = .ok (.iload 7, 2) := by decide +kernel
theorem dL_holds_117 : decode cL_holds 117 = .ok (.iconst 0, 1) := by decide +kernel
theorem dL_holds_118 : decode cL_holds 118 = .ok (.invokevirtual 48, 3) := by decide +kernel
theorem dL_holds_121 : decode cL_holds 121 = .ok (.istore 8, 2) := by decide +kernel
theorem dL_holds_123 : decode cL_holds 123 = .ok (.iload 8, 2) := by decide +kernel
theorem dL_holds_125 : decode cL_holds 125 = .ok (.ifCond .le 82, 3) := by decide +kernel
theorem dL_holds_128 : decode cL_holds 128 = .ok (.iload 8, 2) := by decide +kernel
theorem dL_holds_130 : decode cL_holds 130 = .ok (.aload_n 0, 1) := by decide +kernel
theorem dL_holds_131 : decode cL_holds 131 = .ok (.iload 7, 2) := by decide +kernel
theorem dL_holds_133 : decode cL_holds 133 = .ok (.iconst 1, 1) := by decide +kernel
theorem dL_holds_134 : decode cL_holds 134 = .ok (.invokevirtual 48, 3) := by decide +kernel
theorem dL_holds_137 : decode cL_holds 137 = .ok (.isub, 1) := by decide +kernel
theorem dL_holds_138 : decode cL_holds 138 = .ok (.istore 9, 2) := by decide +kernel
theorem dL_holds_140 : decode cL_holds 140 = .ok (.iinc 4 1, 3) := by decide +kernel
theorem dL_holds_143 : decode cL_holds 143 = .ok (.iload 5, 2) := by decide +kernel
theorem dL_holds_145 : decode cL_holds 145 = .ok (.aload_n 0, 1) := by decide +kernel
theorem dL_holds_146 : decode cL_holds 146 = .ok (.iload 7, 2) := by decide +kernel
theorem dL_holds_148 : decode cL_holds 148 = .ok (.iconst 3, 1) := by decide +kernel
theorem dL_holds_149 : decode cL_holds 149 = .ok (.invokevirtual 48, 3) := by decide +kernel
theorem dL_holds_152 : decode cL_holds 152 = .ok (.iadd, 1) := by decide +kernel
theorem dL_holds_153 : decode cL_holds 153 = .ok (.istore 5, 2) := by decide +kernel
theorem dL_holds_155 : decode cL_holds 155 = .ok (.aload_n 0, 1) := by decide +kernel
theorem dL_holds_156 : decode cL_holds 156 = .ok (.iload 8, 2) := by decide +kernel
theorem dL_holds_158 : decode cL_holds 158 = .ok (.iconst 1, 1) := by decide +kernel
theorem dL_holds_159 : decode cL_holds 159 = .ok (.invokevirtual 26, 3) := by decide +kernel
theorem dL_holds_162 : decode cL_holds 162 = .ok (.iload 7, 2) := by decide +kernel
theorem dL_holds_164 : decode cL_holds 164 = .ok (.if_icmp .ne 41, 3) := by decide +kernel
theorem dL_holds_167 : decode cL_holds 167 = .ok (.iload 9, 2) := by decide +kernel
theorem dL_holds_169 : decode cL_holds 169 = .ok (.bipush 6, 2) := by decide +kernel
theorem dL_holds_171 : decode cL_holds 171 = .ok (.if_icmp .lt 34, 3) := by decide +kernel
theorem dL_holds_174 : decode cL_holds 174 = .ok (.iload 9, 2) := by decide +kernel
theorem dL_holds_176 : decode cL_holds 176 = .ok (.bipush 40, 2) := by decide +kernel
theorem dL_holds_178 : decode cL_holds 178 = .ok (.if_icmp .gt 27, 3) := by decide +kernel
theorem dL_holds_181 : decode cL_holds 181 = .ok (.aload_n 0, 1) := by decide +kernel
theorem dL_holds_182 : decode cL_holds 182 = .ok (.iload 7, 2) := by decide +kernel
theorem dL_holds_184 : decode cL_holds 184 = .ok (.iconst 2, 1) := by decide +kernel
theorem dL_holds_185 : decode cL_holds 185 = .ok (.invokevirtual 48, 3) := by decide +kernel
theorem dL_holds_188 : decode cL_holds 188 = .ok (.ifCond .lt 17, 3) := by decide +kernel
theorem dL_holds_191 : decode cL_holds 191 = .ok (.aload_n 0, 1) := by decide +kernel
theorem dL_holds_192 : decode cL_holds 192 = .ok (.iload 8, 2) := by decide +kernel
theorem dL_holds_194 : decode cL_holds 194 = .ok (.iload 9, 2) := by decide +kernel
theorem dL_holds_196 : decode cL_holds 196 = .ok (.isub, 1) := by decide +kernel
theorem dL_holds_197 : decode cL_holds 197 = .ok (.iconst 2, 1) := by decide +kernel
theorem dL_holds_198 : decode cL_holds 198 = .ok (.invokevirtual 26, 3) := by decide +kernel
theorem dL_holds_201 : decode cL_holds 201 = .ok (.iconst 1, 1) := by decide +kernel
theorem dL_holds_202 : decode cL_holds 202 = .ok (.if_icmp .ge 5, 3) := by decide +kernel
theorem dL_holds_205 : decode cL_holds 205 = .ok (.iconst 0, 1) := by decide +kernel
theorem dL_holds_206 : decode cL_holds 206 = .ok (.ireturn, 1) := by decide +kernel
theorem dL_holds_207 : decode cL_holds 207 = .ok (.iinc 7 1, 3) := by decide +kernel
theorem dL_holds_210 : decode cL_holds 210 = .ok (.goto (-103), 3) := by decide +kernel
theorem dL_holds_213 : decode cL_holds 213 = .ok (.aload_n 0, 1) := by decide +kernel
theorem dL_holds_214 : decode cL_holds 214 = .ok (.iconst 1, 1) := by decide +kernel
theorem dL_holds_215 : decode cL_holds 215 = .ok (.invokevirtual 38, 3) := by decide +kernel
theorem dL_holds_218 : decode cL_holds 218 = .ok (.istore 7, 2) := by decide +kernel
theorem dL_holds_220 : decode cL_holds 220 = .ok (.aload_n 0, 1) := by decide +kernel
theorem dL_holds_221 : decode cL_holds 221 = .ok (.iconst 2, 1) := by decide +kernel
theorem dL_holds_222 : decode cL_holds 222 = .ok (.invokevirtual 38, 3) := by decide +kernel
theorem dL_holds_225 : decode cL_holds 225 = .ok (.istore 8, 2) := by decide +kernel
theorem dL_holds_227 : decode cL_holds 227 = .ok (.aload_n 0, 1) := by decide +kernel
theorem dL_holds_228 : decode cL_holds 228 = .ok (.bipush 7, 2) := by decide +kernel
theorem dL_holds_230 : decode cL_holds 230 = .ok (.invokevirtual 38, 3) := by decide +kernel
theorem dL_holds_233 : decode cL_holds 233 = .ok (.bipush 40, 2) := by decide +kernel
theorem dL_holds_235 : decode cL_holds 235 = .ok (.if_icmp .ne 107, 3) := by decide +kernel
theorem dL_holds_238 : decode cL_holds 238 = .ok (.iload_n 2, 1) := by decide +kernel
theorem dL_holds_239 : decode cL_holds 239 = .ok (.bipush 40, 2) := by decide +kernel
theorem dL_holds_241 : decode cL_holds 241 = .ok (.if_icmp .ne 101, 3) := by decide +kernel
theorem dL_holds_244 : decode cL_holds 244 = .ok (.aload_n 0, 1) := by decide +kernel
theorem dL_holds_245 : decode cL_holds 245 = .ok (.iconst 4, 1) := by decide +kernel
theorem dL_holds_246 : decode cL_holds 246 = .ok (.invokevirtual 38, 3) := by decide +kernel
theorem dL_holds_249 : decode cL_holds 249 = .ok (.iload_n 1, 1) := by decide +kernel
theorem dL_holds_250 : decode cL_holds 250 = .ok (.if_icmp .ne 92, 3) := by decide +kernel
theorem dL_holds_253 : decode cL_holds 253 = .ok (.aload_n 0, 1) := by decide +kernel
theorem dL_holds_254 : decode cL_holds 254 = .ok (.iconst 5, 1) := by decide +kernel
theorem dL_holds_255 : decode cL_holds 255 = .ok (.invokevirtual 38, 3) := by decide +kernel
theorem dL_holds_258 : decode cL_holds 258 = .ok (.iload_n 3, 1) := by decide +kernel
theorem dL_holds_259 : decode cL_holds 259 = .ok (.if_icmp .ne 83, 3) := by decide +kernel
theorem dL_holds_262 : decode cL_holds 262 = .ok (.iload 5, 2) := by decide +kernel
theorem dL_holds_264 : decode cL_holds 264 = .ok (.iload_n 3, 1) := by decide +kernel
theorem dL_holds_265 : decode cL_holds 265 = .ok (.if_icmp .gt 77, 3) := by decide +kernel
theorem dL_holds_268 : decode cL_holds 268 = .ok (.iload_n 1, 1) := by decide +kernel
theorem dL_holds_269 : decode cL_holds 269 = .ok (.iload_n 3, 1) := by decide +kernel
theorem dL_holds_270 : decode cL_holds 270 = .ok (.if_icmp .gt 72, 3) := by decide +kernel
theorem dL_holds_273 : decode cL_holds 273 = .ok (.aload_n 0, 1) := by decide +kernel
theorem dL_holds_274 : decode cL_holds 274 = .ok (.iconst 3, 1) := by decide +kernel
theorem dL_holds_275 : decode cL_holds 275 = .ok (.invokevirtual 38, 3) := by decide +kernel
theorem dL_holds_278 : decode cL_holds 278 = .ok (.iload 4, 2) := by decide +kernel
theorem dL_holds_280 : decode cL_holds 280 = .ok (.if_icmp .ne 62, 3) := by decide +kernel
theorem dL_holds_283 : decode cL_holds 283 = .ok (.iload 7, 2) := by decide +kernel
theorem dL_holds_285 : decode cL_holds 285 = .ok (.bipush (-5), 2) := by decide +kernel
theorem dL_holds_287 : decode cL_holds 287 = .ok (.if_icmp .ne 7, 3) := by decide +kernel
theorem dL_holds_290 : decode cL_holds 290 = .ok (.iconst 1, 1) := by decide +kernel
theorem dL_holds_291 : decode cL_holds 291 = .ok (.goto 4, 3) := by decide +kernel
theorem dL_holds_294 : decode cL_holds 294 = .ok (.iconst 0, 1) := by decide +kernel
theorem dL_holds_295 : decode cL_holds 295 = .ok (.iload 8, 2) := by decide +kernel
theorem dL_holds_297 : decode cL_holds 297 = .ok (.ifCond .ne 7, 3) := by decide +kernel
theorem dL_holds_300 : decode cL_holds 300 = .ok (.iconst 1, 1) := by decide +kernel
theorem dL_holds_301 : decode cL_holds 301 = .ok (.goto 4, 3) := by decide +kernel
theorem dL_holds_304 : decode cL_holds 304 = .ok (.iconst 0, 1) := by decide +kernel
theorem dL_holds_305 : decode cL_holds 305 = .ok (.if_icmp .ne 37, 3) := by decide +kernel
theorem dL_holds_308 : decode cL_holds 308 = .ok (.iload 7, 2) := by decide +kernel
theorem dL_holds_310 : decode cL_holds 310 = .ok (.ifCond .lt 15, 3) := by decide +kernel
theorem dL_holds_313 : decode cL_holds 313 = .ok (.aload_n 0, 1) := by decide +kernel
theorem dL_holds_314 : decode cL_holds 314 = .ok (.iload 7, 2) := by decide +kernel
theorem dL_holds_316 : decode cL_holds 316 = .ok (.iconst 5, 1) := by decide +kernel
theorem dL_holds_317 : decode cL_holds 317 = .ok (.invokevirtual 10, 3) := by decide +kernel
theorem dL_holds_320 : decode cL_holds 320 = .ok (.bipush (-5), 2) := by decide +kernel
theorem dL_holds_322 : decode cL_holds 322 = .ok (.if_icmp .ne 20, 3) := by decide +kernel
theorem dL_holds_325 : decode cL_holds 325 = .ok (.iload 6, 2) := by decide +kernel
theorem dL_holds_327 : decode cL_holds 327 = .ok (.iconst 1, 1) := by decide +kernel
theorem dL_holds_328 : decode cL_holds 328 = .ok (.iconst 5, 1) := by decide +kernel
theorem dL_holds_329 : decode cL_holds 329 = .ok (.iload 8, 2) := by decide +kernel
theorem dL_holds_331 : decode cL_holds 331 = .ok (.isub, 1) := by decide +kernel
theorem dL_holds_332 : decode cL_holds 332 = .ok (.ishl, 1) := by decide +kernel
theorem dL_holds_333 : decode cL_holds 333 = .ok (.iconst 2, 1) := by decide +kernel
theorem dL_holds_334 : decode cL_holds 334 = .ok (.isub, 1) := by decide +kernel
theorem dL_holds_335 : decode cL_holds 335 = .ok (.if_icmp .ne 7, 3) := by decide +kernel
theorem dL_holds_338 : decode cL_holds 338 = .ok (.iconst 1, 1) := by decide +kernel
theorem dL_holds_339 : decode cL_holds 339 = .ok (.goto 4, 3) := by decide +kernel
theorem dL_holds_342 : decode cL_holds 342 = .ok (.iconst 0, 1) := by decide +kernel
theorem dL_holds_343 : decode cL_holds 343 = .ok (.ireturn, 1) := by decide +kernel
theorem dL_turns_0 : decode cL_turns 0 = .ok (.aload_n 0, 1) := by decide +kernel
theorem dL_turns_1 : decode cL_turns 1 = .ok (.iconst 1, 1) := by decide +kernel
theorem dL_turns_2 : decode cL_turns 2 = .ok (.invokevirtual 38, 3) := by decide +kernel
theorem dL_turns_5 : decode cL_turns 5 = .ok (.istore_n 2, 1) := by decide +kernel
theorem dL_turns_6 : decode cL_turns 6 = .ok (.iload_n 2, 1) := by decide +kernel
theorem dL_turns_7 : decode cL_turns 7 = .ok (.ifCond .ge 19, 3) := by decide +kernel
theorem dL_turns_10 : decode cL_turns 10 = .ok (.aload_n 0, 1) := by decide +kernel
theorem dL_turns_11 : decode cL_turns 11 = .ok (.iload_n 1, 1) := by decide +kernel
theorem dL_turns_12 : decode cL_turns 12 = .ok (.invokevirtual 51, 3) := by decide +kernel
theorem dL_turns_15 : decode cL_turns 15 = .ok (.bipush (-4), 2) := by decide +kernel
theorem dL_turns_17 : decode cL_turns 17 = .ok (.if_icmp .ne 7, 3) := by decide +kernel
theorem dL_turns_20 : decode cL_turns 20 = .ok (.iconst 1, 1) := by decide +kernel
theorem dL_turns_21 : decode cL_turns 21 = .ok (.goto 4, 3) := by decide +kernel
theorem dL_turns_24 : decode cL_turns 24 = .ok (.iconst 0, 1) := by decide +kernel
theorem dL_turns_25 : decode cL_turns 25 = .ok (.ireturn, 1) := by decide +kernel
theorem dL_turns_26 : decode cL_turns 26 = .ok (.aload_n 0, 1) := by decide +kernel
theorem dL_turns_27 : decode cL_turns 27 = .ok (.iload_n 2, 1) := by decide +kernel
theorem dL_turns_28 : decode cL_turns 28 = .ok (.iconst 4, 1) := by decide +kernel
theorem dL_turns_29 : decode cL_turns 29 = .ok (.invokevirtual 10, 3) := by decide +kernel
theorem dL_turns_32 : decode cL_turns 32 = .ok (.istore_n 3, 1) := by decide +kernel
theorem dL_turns_33 : decode cL_turns 33 = .ok (.aload_n 0, 1) := by decide +kernel
theorem dL_turns_34 : decode cL_turns 34 = .ok (.iload_n 2, 1) := by decide +kernel
theorem dL_turns_35 : decode cL_turns 35 = .ok (.bipush 7, 2) := by decide +kernel
theorem dL_turns_37 : decode cL_turns 37 = .ok (.invokevirtual 10, 3) := by decide +kernel
theorem dL_turns_40 : decode cL_turns 40 = .ok (.aload_n 0, 1) := by decide +kernel
theorem dL_turns_41 : decode cL_turns 41 = .ok (.iload_n 2, 1) := by decide +kernel
theorem dL_turns_42 : decode cL_turns 42 = .ok (.iconst 0, 1) := by decide +kernel
theorem dL_turns_43 : decode cL_turns 43 = .ok (.invokevirtual 10, 3) := by decide +kernel
theorem dL_turns_46 : decode cL_turns 46 = .ok (.iadd, 1) := by decide +kernel
theorem dL_turns_47 : decode cL_turns 47 = .ok (.iload_n 3, 1) := by decide +kernel
theorem dL_turns_48 : decode cL_turns 48 = .ok (.isub, 1) := by decide +kernel
theorem dL_turns_49 : decode cL_turns 49 = .ok (.istore 4, 2) := by decide +kernel
theorem dL_turns_51 : decode cL_turns 51 = .ok (.aload_n 0, 1) := by decide +kernel
theorem dL_turns_52 : decode cL_turns 52 = .ok (.iload_n 2, 1) := by decide +kernel
theorem dL_turns_53 : decode cL_turns 53 = .ok (.bipush 6, 2) := by decide +kernel
theorem dL_turns_55 : decode cL_turns 55 = .ok (.invokevirtual 10, 3) := by decide +kernel
theorem dL_turns_58 : decode cL_turns 58 = .ok (.istore 5, 2) := by decide +kernel
theorem dL_turns_60 : decode cL_turns 60 = .ok (.aload_n 0, 1) := by decide +kernel
theorem dL_turns_61 : decode cL_turns 61 = .ok (.iconst 0, 1) := by decide +kernel
theorem dL_turns_62 : decode cL_turns 62 = .ok (.invokevirtual 38, 3) := by decide +kernel
theorem dL_turns_65 : decode cL_turns 65 = .ok (.istore 6, 2) := by decide +kernel
theorem dL_turns_67 : decode cL_turns 67 = .ok (.iload_n 3, 1) := by decide +kernel
theorem dL_turns_68 : decode cL_turns 68 = .ok (.iload_n 1, 1) := by decide +kernel
theorem dL_turns_69 : decode cL_turns 69 = .ok (.iadd, 1) := by decide +kernel
theorem dL_turns_70 : decode cL_turns 70 = .ok (.bipush 60, 2) := by decide +kernel
theorem dL_turns_72 : decode cL_turns 72 = .ok (.if_icmp .le 12, 3) := by decide +kernel
theorem dL_turns_75 : decode cL_turns 75 = .ok (.bipush 120, 2) := by decide +kernel
theorem dL_turns_77 : decode cL_turns 77 = .ok (.iload_n 3, 1) := by decide +kernel
theorem dL_turns_78 : decode cL_turns 78 = .ok (.isub, 1) := by decide +kernel
theorem dL_turns_79 : decode cL_turns 79 = .ok (.iload_n 1, 1) := by decide +kernel
theorem dL_turns_80 : decode cL_turns 80 = .ok (.isub, 1) := by decide +kernel
theorem dL_turns_81 : decode cL_turns 81 = .ok (.goto 6, 3) := by decide +kernel
theorem dL_turns_84 : decode cL_turns 84 = .ok (.iload_n 3, 1) := by decide +kernel
theorem dL_turns_85 : decode cL_turns 85 = .ok (.iload_n 1, 1) := by decide +kernel
theorem dL_turns_86 : decode cL_turns 86 = .ok (.iadd, 1) := by decide +kernel
theorem dL_turns_87 : decode cL_turns 87 = .ok (.istore 7, 2) := by decide +kernel
theorem dL_turns_89 : decode cL_turns 89 = .ok (.aload_n 0, 1) := by decide +kernel
theorem dL_turns_90 : decode cL_turns 90 = .ok (.iload_n 2, 1) := by decide +kernel
theorem dL_turns_91 : decode cL_turns 91 = .ok (.invokevirtual 41, 3) := by decide +kernel
theorem dL_turns_94 : decode cL_turns 94 = .ok (.iload_n 1, 1) := by decide +kernel
theorem dL_turns_95 : decode cL_turns 95 = .ok (.ishr, 1) := by decide +kernel
theorem dL_turns_96 : decode cL_turns 96 = .ok (.iconst 1, 1) := by decide +kernel
theorem dL_turns_97 : decode cL_turns 97 = .ok (.iand, 1) := by decide +kernel
theorem dL_turns_98 : decode cL_turns 98 = .ok (.iconst 1, 1) := by decide +kernel
theorem dL_turns_99 : decode cL_turns 99 = .ok (.if_icmp .ne 7, 3) := by decide +kernel
theorem dL_turns_102 : decode cL_turns 102 = .ok (.iconst 1, 1) := by decide +kernel
theorem dL_turns_103 : decode cL_turns 103 = .ok (.goto 4, 3) := by decide +kernel
theorem dL_turns_106 : decode cL_turns 106 = .ok (.iconst 0, 1) := by decide +kernel
theorem dL_turns_107 : decode cL_turns 107 = .ok (.istore 8, 2) := by decide +kernel
theorem dL_turns_109 : decode cL_turns 109 = .ok (.aload_n 0, 1) := by decide +kernel
theorem dL_turns_110 : decode cL_turns 110 = .ok (.iload 7, 2) := by decide +kernel
theorem dL_turns_112 : decode cL_turns 112 = .ok (.iconst 1, 1) := by decide +kernel
theorem dL_turns_113 : decode cL_turns 113 = .ok (.invokevirtual 26, 3) := by decide +kernel
theorem dL_turns_116 : decode cL_turns 116 = .ok (.istore 9, 2) := by decide +kernel
theorem dL_turns_118 : decode cL_turns 118 = .ok (.iload 9, 2) := by decide +kernel
theorem dL_turns_120 : decode cL_turns 120 = .ok (.ifCond .ge 7, 3) := by decide +kernel
theorem dL_turns_123 : decode cL_turns 123 = .ok (.iconst 0, 1) := by decide +kernel
theorem dL_turns_124 : decode cL_turns 124 = .ok (.goto 18, 3) := by decide +kernel
theorem dL_turns_127 : decode cL_turns 127 = .ok (.aload_n 0, 1) := by decide +kernel
theorem dL_turns_128 : decode cL_turns 128 = .ok (.iload 9, 2) := by decide +kernel
theorem dL_turns_130 : decode cL_turns 130 = .ok (.iconst 0, 1) := by decide +kernel
theorem dL_turns_131 : decode cL_turns 131 = .ok (.invokevirtual 48, 3) := by decide +kernel
theorem dL_turns_134 : decode cL_turns 134 = .ok (.aload_n 0, 1) := by decide +kernel
theorem dL_turns_135 : decode cL_turns 135 = .ok (.iload 9, 2) := by decide +kernel
theorem dL_turns_137 : decode cL_turns 137 = .ok (.iconst 1, 1) := by decide +kernel
theorem dL_turns_138 : decode cL_turns 138 = .ok (.invokevirtual 48, 3) := by decide +kernel
theorem dL_turns_141 : decode cL_turns 141 = .ok (.isub, 1) := by decide +kernel
theorem dL_turns_142 : decode cL_turns 142 = .ok (.istore 10, 2) := by decide +kernel
theorem dL_turns_144 : decode cL_turns 144 = .ok (.iload 9, 2) := by decide +kernel
theorem dL_turns_146 : decode cL_turns 146 = .ok (.ifCond .lt 17, 3) := by decide +kernel
theorem dL_turns_149 : decode cL_turns 149 = .ok (.aload_n 0, 1) := by decide +kernel
theorem dL_turns_150 : decode cL_turns 150 = .ok (.iload 9, 2) := by decide +kernel
theorem dL_turns_152 : decode cL_turns 152 = .ok (.iconst 2, 1) := by decide +kernel
theorem dL_turns_153 : decode cL_turns 153 = .ok (.invokevirtual 48, 3) := by decide +kernel
theorem dL_turns_156 : decode cL_turns 156 = .ok (.ifCond .le 7, 3) := by decide +kernel
theorem dL_turns_159 : decode cL_turns 159 = .ok (.iconst 1, 1) := by decide +kernel
theorem dL_turns_160 : decode cL_turns 160 = .ok (.goto 4, 3) := by decide +kernel
theorem dL_turns_163 : decode cL_turns 163 = .ok (.iconst 0, 1) := by decide +kernel
theorem dL_turns_164 : decode cL_turns 164 = .ok (.istore 11, 2) := by decide +kernel
theorem dL_turns_166 : decode cL_turns 166 = .ok (.iconst 4, 1) := by decide +kernel
theorem dL_turns_167 : decode cL_turns 167 = .ok (.aload_n 0, 1) := by decide +kernel
theorem dL_turns_168 : decode cL_turns 168 = .ok (.iconst 2, 1) := by decide +kernel
theorem dL_turns_169 : decode cL_turns 169 = .ok (.invokevirtual 38, 3) := by decide +kernel
theorem dL_turns_172 : decode cL_turns 172 = .ok (.isub, 1) := by decide +kernel
theorem dL_turns_173 : decode cL_turns 173 = .ok (.istore 12, 2) := by decide +kernel
theorem dL_turns_175 : decode cL_turns 175 = .ok (.aload_n 0, 1) := by decide +kernel
theorem dL_turns_176 : decode cL_turns 176 = .ok (.iload_n 1, 1) := by decide +kernel
theorem dL_turns_177 : decode cL_turns 177 = .ok (.invokevirtual 51, 3) := by decide +kernel
theorem dL_turns_180 : decode cL_turns 180 = .ok (.istore 13, 2) := by decide +kernel
theorem dL_turns_182 : decode cL_turns 182 = .ok (.iload 13, 2) := by decide +kernel
theorem dL_turns_184 : decode cL_turns 184 = .ok (.iload 7, 2) := by decide +kernel
theorem dL_turns_186 : decode cL_turns 186 = .ok (.if_icmp .ne 138, 3) := by decide +kernel
theorem dL_turns_189 : decode cL_turns 189 = .ok (.aload_n 0, 1) := by decide +kernel
theorem dL_turns_190 : decode cL_turns 190 = .ok (.iload_n 2, 1) := by decide +kernel
theorem dL_turns_191 : decode cL_turns 191 = .ok (.iconst 0, 1) := by decide +kernel
theorem dL_turns_192 : decode cL_turns 192 = .ok (.invokevirtual 10, 3) := by decide +kernel
theorem dL_turns_195 : decode cL_turns 195 = .ok (.iload 7, 2) := by decide +kernel
theorem dL_turns_197 : decode cL_turns 197 = .ok (.if_icmp .ne 127, 3) := by decide +kernel
theorem dL_turns_200 : decode cL_turns 200 = .ok (.aload_n 0, 1) := by decide +kernel
theorem dL_turns_201 : decode cL_turns 201 = .ok (.iload_n 2, 1) := by decide +kernel
theorem dL_turns_202 : decode cL_turns 202 = .ok (.bipush 7, 2) := by decide +kernel
theorem dL_turns_204 : decode cL_turns 204 = .ok (.invokevirtual 10, 3) := by decide +kernel
theorem dL_turns_207 : decode cL_turns 207 = .ok (.iload 4, 2) := by decide +kernel
theorem dL_turns_209 : decode cL_turns 209 = .ok (.if_icmp .ne 115, 3) := by decide +kernel
theorem dL_turns_212 : decode cL_turns 212 = .ok (.aload_n 0, 1) := by decide +kernel
theorem dL_turns_213 : decode cL_turns 213 = .ok (.iload_n 2, 1) := by decide +kernel
theorem dL_turns_214 : decode cL_turns 214 = .ok (.bipush 6, 2) := by decide +kernel
theorem dL_turns_216 : decode cL_turns 216 = .ok (.invokevirtual 10, 3) := by decide +kernel
theorem dL_turns_219 : decode cL_turns 219 = .ok (.iload 5, 2) := by decide +kernel
theorem dL_turns_221 : decode cL_turns 221 = .ok (.iload 8, 2) := by decide +kernel
theorem dL_turns_223 : decode cL_turns 223 = .ok (.ifCond .eq 7, 3) := by decide +kernel
theorem dL_turns_226 : decode cL_turns 226 = .ok (.iconst 1, 1) := by decide +kernel
theorem dL_turns_227 : decode cL_turns 227 = .ok (.goto 4, 3) := by decide +kernel
theorem dL_turns_230 : decode cL_turns 230 = .ok (.iconst 0, 1) := by decide +kernel
theorem dL_turns_231 : decode cL_turns 231 = .ok (.iadd, 1) := by decide +kernel
theorem dL_turns_232 : decode cL_turns 232 = .ok (.if_icmp .ne 92, 3) := by decide +kernel
theorem dL_turns_235 : decode cL_turns 235 = .ok (.aload_n 0, 1) := by decide +kernel
theorem dL_turns_236 : decode cL_turns 236 = .ok (.iload_n 2, 1) := by decide +kernel
theorem dL_turns_237 : decode cL_turns 237 = .ok (.iconst 2, 1) := by decide +kernel
theorem dL_turns_238 : decode cL_turns 238 = .ok (.invokevirtual 10, 3) := by decide +kernel
theorem dL_turns_241 : decode cL_turns 241 = .ok (.iload 8, 2) := by decide +kernel
theorem dL_turns_243 : decode cL_turns 243 = .ok (.ifCond .eq 7, 3) := by decide +kernel
theorem dL_turns_246 : decode cL_turns 246 = .ok (.iconst 1, 1) := by decide +kernel
theorem dL_turns_247 : decode cL_turns 247 = .ok (.goto 4, 3) := by decide +kernel
theorem dL_turns_250 : decode cL_turns 250 = .ok (.iconst 0, 1) := by decide +kernel
theorem dL_turns_251 : decode cL_turns 251 = .ok (.if_icmp .ne 73, 3) := by decide +kernel
theorem dL_turns_254 : decode cL_turns 254 = .ok (.aload_n 0, 1) := by decide +kernel
theorem dL_turns_255 : decode cL_turns 255 = .ok (.iconst 0, 1) := by decide +kernel
theorem dL_turns_256 : decode cL_turns 256 = .ok (.invokevirtual 38, 3) := by decide +kernel
theorem dL_turns_259 : decode cL_turns 259 = .ok (.iload 6, 2) := by decide +kernel
theorem dL_turns_261 : decode cL_turns 261 = .ok (.iconst 1, 1) := by decide +kernel
theorem dL_turns_262 : decode cL_turns 262 = .ok (.iadd, 1) := by decide +kernel
theorem dL_turns_263 : decode cL_turns 263 = .ok (.if_icmp .ne 61, 3) := by decide +kernel
theorem dL_turns_266 : decode cL_turns 266 = .ok (.iload 8, 2) := by decide +kernel
theorem dL_turns_268 : decode cL_turns 268 = .ok (.ifCond .eq 52, 3) := by decide +kernel
theorem dL_turns_271 : decode cL_turns 271 = .ok (.iload 9, 2) := by decide +kernel
theorem dL_turns_273 : decode cL_turns 273 = .ok (.ifCond .lt 51, 3) := by decide +kernel
theorem dL_turns_276 : decode cL_turns 276 = .ok (.iload 11, 2) := by decide +kernel
theorem dL_turns_278 : decode cL_turns 278 = .ok (.ifCond .ne 46, 3) := by decide +kernel
theorem dL_turns_281 : decode cL_turns 281 = .ok (.aload_n 0, 1) := by decide +kernel
theorem dL_turns_282 : decode cL_turns 282 = .ok (.iload_n 2, 1) := by decide +kernel
theorem dL_turns_283 : decode cL_turns 283 = .ok (.iconst 0, 1) := by decide +kernel
theorem dL_turns_284 : decode cL_turns 284 = .ok (.iconst 0, 1) := by decide +kernel
theorem dL_turns_285 : decode cL_turns 285 = .ok (.invokevirtual 16, 3) := by decide +kernel
theorem dL_turns_288 : decode cL_turns 288 = .ok (.iload 10, 2) := by decide +kernel
theorem dL_turns_290 : decode cL_turns 290 = .ok (.if_icmp .ne 34, 3) := by decide +kernel
theorem dL_turns_293 : decode cL_turns 293 = .ok (.aload_n 0, 1) := by decide +kernel
theorem dL_turns_294 : decode cL_turns 294 = .ok (.iload_n 2, 1) := by decide +kernel
theorem dL_turns_295 : decode cL_turns 295 = .ok (.iconst 0, 1) := by decide +kernel
theorem dL_turns_296 : decode cL_turns 296 = .ok (.iconst 2, 1) := by decide +kernel
theorem dL_turns_297 : decode cL_turns 297 = .ok (.invokevirtual 16, 3) := by decide +kernel
theorem dL_turns_300 : decode cL_turns 300 = .ok (.iload_n 2, 1) := by decide +kernel
theorem dL_turns_301 : decode cL_turns 301 = .ok (.if_icmp .ne 23, 3) := by decide +kernel
theorem dL_turns_304 : decode cL_turns 304 = .ok (.aload_n 0, 1) := by decide +kernel
theorem dL_turns_305 : decode cL_turns 305 = .ok (.iload 9, 2) := by decide +kernel
theorem dL_turns_307 : decode cL_turns 307 = .ok (.iconst 2, 1) := by decide +kernel
theorem dL_turns_308 : decode cL_turns 308 = .ok (.invokevirtual 48, 3) := by decide +kernel
theorem dL_turns_311 : decode cL_turns 311 = .ok (.aload_n 0, 1) := by decide +kernel
theorem dL_turns_312 : decode cL_turns 312 = .ok (.bipush 8, 2) := by decide +kernel
theorem dL_turns_314 : decode cL_turns 314 = .ok (.invokevirtual 38, 3) := by decide +kernel
theorem dL_turns_317 : decode cL_turns 317 = .ok (.if_icmp .ne 7, 3) := by decide +kernel
theorem dL_turns_320 : decode cL_turns 320 = .ok (.iconst 1, 1) := by decide +kernel
theorem dL_turns_321 : decode cL_turns 321 = .ok (.goto 4, 3) := by decide +kernel
theorem dL_turns_324 : decode cL_turns 324 = .ok (.iconst 0, 1) := by decide +kernel
theorem dL_turns_325 : decode cL_turns 325 = .ok (.istore 14, 2) := by decide +kernel
theorem dL_turns_327 : decode cL_turns 327 = .ok (.iload 14, 2) := by decide +kernel
theorem dL_turns_329 : decode cL_turns 329 = .ok (.ifCond .eq 41, 3) := by decide +kernel
theorem dL_turns_332 : decode cL_turns 332 = .ok (.iload 7, 2) := by decide +kernel
theorem dL_turns_334 : decode cL_turns 334 = .ok (.bipush 60, 2) := by decide +kernel
theorem dL_turns_336 : decode cL_turns 336 = .ok (.if_icmp .ne 19, 3) := by decide +kernel
theorem dL_turns_339 : decode cL_turns 339 = .ok (.aload_n 0, 1) := by decide +kernel
theorem dL_turns_340 : decode cL_turns 340 = .ok (.iload_n 2, 1) := by decide +kernel
theorem dL_turns_341 : decode cL_turns 341 = .ok (.iconst 5, 1) := by decide +kernel
theorem dL_turns_342 : decode cL_turns 342 = .ok (.invokevirtual 10, 3) := by decide +kernel
theorem dL_turns_345 : decode cL_turns 345 = .ok (.iload 12, 2) := by decide +kernel
theorem dL_turns_347 : decode cL_turns 347 = .ok (.iconst 1, 1) := by decide +kernel
theorem dL_turns_348 : decode cL_turns 348 = .ok (.iadd, 1) := by decide +kernel
theorem dL_turns_349 : decode cL_turns 349 = .ok (.if_icmp .ne 21, 3) := by decide +kernel
theorem dL_turns_352 : decode cL_turns 352 = .ok (.goto 14, 3) := by decide +kernel
theorem dL_turns_355 : decode cL_turns 355 = .ok (.aload_n 0, 1) := by decide +kernel
theorem dL_turns_356 : decode cL_turns 356 = .ok (.iload_n 2, 1) := by decide +kernel
theorem dL_turns_357 : decode cL_turns 357 = .ok (.iconst 5, 1) := by decide +kernel
theorem dL_turns_358 : decode cL_turns 358 = .ok (.invokevirtual 10, 3) := by decide +kernel
theorem dL_turns_361 : decode cL_turns 361 = .ok (.bipush (-5), 2) := by decide +kernel
theorem dL_turns_363 : decode cL_turns 363 = .ok (.if_icmp .ne 7, 3) := by decide +kernel
theorem dL_turns_366 : decode cL_turns 366 = .ok (.iconst 1, 1) := by decide +kernel
theorem dL_turns_367 : decode cL_turns 367 = .ok (.goto 4, 3) := by decide +kernel
theorem dL_turns_370 : decode cL_turns 370 = .ok (.iconst 0, 1) := by decide +kernel
theorem dL_turns_371 : decode cL_turns 371 = .ok (.ireturn, 1) := by decide +kernel
theorem dL_plays_0 : decode cL_plays 0 = .ok (.aload_n 0, 1) := by decide +kernel
theorem dL_plays_1 : decode cL_plays 1 = .ok (.iload_n 1, 1) := by decide +kernel
theorem dL_plays_2 : decode cL_plays 2 = .ok (.invokevirtual 54, 3) := by decide +kernel
theorem dL_plays_5 : decode cL_plays 5 = .ok (.istore_n 3, 1) := by decide +kernel
theorem dL_plays_6 : decode cL_plays 6 = .ok (.iconst 4, 1) := by decide +kernel
theorem dL_plays_7 : decode cL_plays 7 = .ok (.newarray .int, 2) := by decide +kernel
theorem dL_plays_9 : decode cL_plays 9 = .ok (.astore 4, 2) := by decide +kernel
theorem dL_plays_11 : decode cL_plays 11 = .ok (.aload_n 0, 1) := by decide +kernel
theorem dL_plays_12 : decode cL_plays 12 = .ok (.iconst 0, 1) := by decide +kernel
theorem dL_plays_13 : decode cL_plays 13 = .ok (.invokevirtual 38, 3) := by decide +kernel
theorem dL_plays_16 : decode cL_plays 16 = .ok (.istore 5, 2) := by decide +kernel
theorem dL_plays_18 : decode cL_plays 18 = .ok (.iconst 0, 1) := by decide +kernel
theorem dL_plays_19 : decode cL_plays 19 = .ok (.istore 6, 2) := by decide +kernel
theorem dL_plays_21 : decode cL_plays 21 = .ok (.iload 6, 2) := by decide +kernel
theorem dL_plays_23 : decode cL_plays 23 = .ok (.iconst 4, 1) := by decide +kernel
theorem dL_plays_24 : decode cL_plays 24 = .ok (.if_icmp .ge 21, 3) := by decide +kernel
theorem dL_plays_27 : decode cL_plays 27 = .ok (.aload 4, 2) := by decide +kernel
theorem dL_plays_29 : decode cL_plays 29 = .ok (.iload 6, 2) := by decide +kernel
theorem dL_plays_31 : decode cL_plays 31 = .ok (.aload_n 0, 1) := by decide +kernel
theorem dL_plays_32 : decode cL_plays 32 = .ok (.iload 6, 2) := by decide +kernel
theorem dL_plays_34 : decode cL_plays 34 = .ok (.iconst 5, 1) := by decide +kernel
theorem dL_plays_35 : decode cL_plays 35 = .ok (.invokevirtual 10, 3) := by decide +kernel
theorem dL_plays_38 : decode cL_plays 38 = .ok (.iastore, 1) := by decide +kernel
theorem dL_plays_39 : decode cL_plays 39 = .ok (.iinc 6 1, 3) := by decide +kernel
theorem dL_plays_42 : decode cL_plays 42 = .ok (.goto (-21), 3) := by decide +kernel
theorem dL_plays_45 : decode cL_plays 45 = .ok (.aload_n 0, 1) := by decide +kernel
theorem dL_plays_46 : decode cL_plays 46 = .ok (.iload_n 1, 1) := by decide +kernel
theorem dL_plays_47 : decode cL_plays 47 = .ok (.bipush 50, 2) := by decide +kernel
theorem dL_plays_49 : decode cL_plays 49 = .ok (.invokevirtual 57, 3) := by decide +kernel
theorem dL_plays_52 : decode cL_plays 52 = .ok (.istore 6, 2) := by decide +kernel
theorem dL_plays_54 : decode cL_plays 54 = .ok (.aload_n 0, 1) := by decide +kernel
theorem dL_plays_55 : decode cL_plays 55 = .ok (.iconst 0, 1) := by decide +kernel
theorem dL_plays_56 : decode cL_plays 56 = .ok (.invokevirtual 38, 3) := by decide +kernel
theorem dL_plays_59 : decode cL_plays 59 = .ok (.iload 5, 2) := by decide +kernel
theorem dL_plays_61 : decode cL_plays 61 = .ok (.if_icmp .ne 22, 3) := by decide +kernel
theorem dL_plays_64 : decode cL_plays 64 = .ok (.iload 6, 2) := by decide +kernel
theorem dL_plays_66 : decode cL_plays 66 = .ok (.bipush (-4), 2) := by decide +kernel
theorem dL_plays_68 : decode cL_plays 68 = .ok (.if_icmp .ne 13, 3) := by decide +kernel
theorem dL_plays_71 : decode cL_plays 71 = .ok (.iload_n 3, 1) := by decide +kernel
theorem dL_plays_72 : decode cL_plays 72 = .ok (.bipush (-4), 2) := by decide +kernel
theorem dL_plays_74 : decode cL_plays 74 = .ok (.if_icmp .ne 7, 3) := by decide +kernel
theorem dL_plays_77 : decode cL_plays 77 = .ok (.iconst 1, 1) := by decide +kernel
theorem dL_plays_78 : decode cL_plays 78 = .ok (.goto 4, 3) := by decide +kernel
theorem dL_plays_81 : decode cL_plays 81 = .ok (.iconst 0, 1) := by decide +kernel
theorem dL_plays_82 : decode cL_plays 82 = .ok (.ireturn, 1) := by decide +kernel
theorem dL_plays_83 : decode cL_plays 83 = .ok (.bipush (-5), 2) := by decide +kernel
theorem dL_plays_85 : decode cL_plays 85 = .ok (.istore 7, 2) := by decide +kernel
theorem dL_plays_87 : decode cL_plays 87 = .ok (.iconst 0, 1) := by decide +kernel
theorem dL_plays_88 : decode cL_plays 88 = .ok (.istore 8, 2) := by decide +kernel
theorem dL_plays_90 : decode cL_plays 90 = .ok (.iload 8, 2) := by decide +kernel
theorem dL_plays_92 : decode cL_plays 92 = .ok (.iconst 4, 1) := by decide +kernel
theorem dL_plays_93 : decode cL_plays 93 = .ok (.if_icmp .ge 60, 3) := by decide +kernel
theorem dL_plays_96 : decode cL_plays 96 = .ok (.aload 4, 2) := by decide +kernel
theorem dL_plays_98 : decode cL_plays 98 = .ok (.iload 8, 2) := by decide +kernel
theorem dL_plays_100 : decode cL_plays 100 = .ok (.iaload, 1) := by decide +kernel
theorem dL_plays_101 : decode cL_plays 101 = .ok (.bipush (-5), 2) := by decide +kernel
theorem dL_plays_103 : decode cL_plays 103 = .ok (.if_icmp .ne 40, 3) := by decide +kernel
theorem dL_plays_106 : decode cL_plays 106 = .ok (.aload_n 0, 1) := by decide +kernel
theorem dL_plays_107 : decode cL_plays 107 = .ok (.iload 8, 2) := by decide +kernel
theorem dL_plays_109 : decode cL_plays 109 = .ok (.iconst 5, 1) := by decide +kernel
theorem dL_plays_110 : decode cL_plays 110 = .ok (.invokevirtual 10, 3) := by decide +kernel
theorem dL_plays_113 : decode cL_plays 113 = .ok (.ifCond .le 30, 3) := by decide +kernel
theorem dL_plays_116 : decode cL_plays 116 = .ok (.iload 7, 2) := by decide +kernel
theorem dL_plays_118 : decode cL_plays 118 = .ok (.ifCond .lt 20, 3) := by decide +kernel
theorem dL_plays_121 : decode cL_plays 121 = .ok (.aload_n 0, 1) := by decide +kernel
theorem dL_plays_122 : decode cL_plays 122 = .ok (.iload 8, 2) := by decide +kernel
theorem dL_plays_124 : decode cL_plays 124 = .ok (.iconst 5, 1) := by decide +kernel
theorem dL_plays_125 : decode cL_plays 125 = .ok (.invokevirtual 10, 3) := by decide +kernel
theorem dL_plays_128 : decode cL_plays 128 = .ok (.aload_n 0, 1) := by decide +kernel
theorem dL_plays_129 : decode cL_plays 129 = .ok (.iload 7, 2) := by decide +kernel
theorem dL_plays_131 : decode cL_plays 131 = .ok (.iconst 5, 1) := by decide +kernel
theorem dL_plays_132 : decode cL_plays 132 = .ok (.invokevirtual 10, 3) := by decide +kernel
theorem dL_plays_135 : decode cL_plays 135 = .ok (.if_icmp .ge 8, 3) := by decide +kernel
theorem dL_plays_138 : decode cL_plays 138 = .ok (.iload 8, 2) := by decide +kernel
theorem dL_plays_140 : decode cL_plays 140 = .ok (.goto 5, 3) := by decide +kernel
theorem dL_plays_143 : decode cL_plays 143 = .ok (.iload 7, 2) := by decide +kernel
theorem dL_plays_145 : decode cL_plays 145 = .ok (.istore 7, 2) := by decide +kernel
theorem dL_plays_147 : decode cL_plays 147 = .ok (.iinc 8 1, 3) := by decide +kernel
theorem dL_plays_150 : decode cL_plays 150 = .ok (.goto (-60), 3) := by decide +kernel
theorem dL_plays_153 : decode cL_plays 153 = .ok (.iload 7, 2) := by decide +kernel
theorem dL_plays_155 : decode cL_plays 155 = .ok (.ifCond .lt 9, 3) := by decide +kernel
theorem dL_plays_158 : decode cL_plays 158 = .ok (.iload 7, 2) := by decide +kernel
theorem dL_plays_160 : decode cL_plays 160 = .ok (.iload_n 3, 1) := by decide +kernel
theorem dL_plays_161 : decode cL_plays 161 = .ok (.if_icmp .ne 24, 3) := by decide +kernel
theorem dL_plays_164 : decode cL_plays 164 = .ok (.aload_n 0, 1) := by decide +kernel
theorem dL_plays_165 : decode cL_plays 165 = .ok (.invokevirtual 60, 3) := by decide +kernel
theorem dL_plays_168 : decode cL_plays 168 = .ok (.ifCond .lt 17, 3) := by decide +kernel
theorem dL_plays_171 : decode cL_plays 171 = .ok (.aload_n 0, 1) := by decide +kernel
theorem dL_plays_172 : decode cL_plays 172 = .ok (.iconst 0, 1) := by decide +kernel
theorem dL_plays_173 : decode cL_plays 173 = .ok (.invokevirtual 38, 3) := by decide +kernel
theorem dL_plays_176 : decode cL_plays 176 = .ok (.iload 5, 2) := by decide +kernel
theorem dL_plays_178 : decode cL_plays 178 = .ok (.if_icmp .ne 7, 3) := by decide +kernel
theorem dL_plays_181 : decode cL_plays 181 = .ok (.iconst 1, 1) := by decide +kernel
theorem dL_plays_182 : decode cL_plays 182 = .ok (.goto 4, 3) := by decide +kernel
theorem dL_plays_185 : decode cL_plays 185 = .ok (.iconst 0, 1) := by decide +kernel
theorem dL_plays_186 : decode cL_plays 186 = .ok (.istore 8, 2) := by decide +kernel
theorem dL_plays_188 : decode cL_plays 188 = .ok (.aload_n 0, 1) := by decide +kernel
theorem dL_plays_189 : decode cL_plays 189 = .ok (.iload_n 1, 1) := by decide +kernel
theorem dL_plays_190 : decode cL_plays 190 = .ok (.iload_n 2, 1) := by decide +kernel
theorem dL_plays_191 : decode cL_plays 191 = .ok (.invokevirtual 57, 3) := by decide +kernel
theorem dL_plays_194 : decode cL_plays 194 = .ok (.istore 9, 2) := by decide +kernel
theorem dL_plays_196 : decode cL_plays 196 = .ok (.iload 8, 2) := by decide +kernel
theorem dL_plays_198 : decode cL_plays 198 = .ok (.ifCond .eq 55, 3) := by decide +kernel
theorem dL_plays_201 : decode cL_plays 201 = .ok (.iload 9, 2) := by decide +kernel
theorem dL_plays_203 : decode cL_plays 203 = .ok (.iload 6, 2) := by decide +kernel
theorem dL_plays_205 : decode cL_plays 205 = .ok (.if_icmp .gt 48, 3) := by decide +kernel
theorem dL_plays_208 : decode cL_plays 208 = .ok (.iload 9, 2) := by decide +kernel
theorem dL_plays_210 : decode cL_plays 210 = .ok (.iconst 1, 1) := by decide +kernel
theorem dL_plays_211 : decode cL_plays 211 = .ok (.if_icmp .lt 42, 3) := by decide +kernel
theorem dL_plays_214 : decode cL_plays 214 = .ok (.iload 9, 2) := by decide +kernel
theorem dL_plays_216 : decode cL_plays 216 = .ok (.iload_n 2, 1) := by decide +kernel
theorem dL_plays_217 : decode cL_plays 217 = .ok (.if_icmp .gt 36, 3) := by decide +kernel
theorem dL_plays_220 : decode cL_plays 220 = .ok (.aload_n 0, 1) := by decide +kernel
theorem dL_plays_221 : decode cL_plays 221 = .ok (.iconst 0, 1) := by decide +kernel
theorem dL_plays_222 : decode cL_plays 222 = .ok (.invokevirtual 38, 3) := by decide +kernel
theorem dL_plays_225 : decode cL_plays 225 = .ok (.iload 5, 2) := by decide +kernel
theorem dL_plays_227 : decode cL_plays 227 = .ok (.iload 9, 2) := by decide +kernel
theorem dL_plays_229 : decode cL_plays 229 = .ok (.iadd, 1) := by decide +kernel
theorem dL_plays_230 : decode cL_plays 230 = .ok (.if_icmp .ne 23, 3) := by decide +kernel
theorem dL_plays_233 : decode cL_plays 233 = .ok (.iload 9, 2) := by decide +kernel
theorem dL_plays_235 : decode cL_plays 235 = .ok (.iload_n 2, 1) := by decide +kernel
theorem dL_plays_236 : decode cL_plays 236 = .ok (.if_icmp .eq 13, 3) := by decide +kernel
theorem dL_plays_239 : decode cL_plays 239 = .ok (.aload_n 0, 1) := by decide +kernel
theorem dL_plays_240 : decode cL_plays 240 = .ok (.iconst 1, 1) := by decide +kernel
theorem dL_plays_241 : decode cL_plays 241 = .ok (.invokevirtual 38, 3) := by decide +kernel
theorem dL_plays_244 : decode cL_plays 244 = .ok (.bipush (-5), 2) := by decide +kernel
theorem dL_plays_246 : decode cL_plays 246 = .ok (.if_icmp .ne 7, 3) := by decide +kernel
theorem dL_plays_249 : decode cL_plays 249 = .ok (.iconst 1, 1) := by decide +kernel
theorem dL_plays_250 : decode cL_plays 250 = .ok (.goto 4, 3) := by decide +kernel
theorem dL_plays_253 : decode cL_plays 253 = .ok (.iconst 0, 1) := by decide +kernel
theorem dL_plays_254 : decode cL_plays 254 = .ok (.ireturn, 1) := by decide +kernel
theorem dL_sells_0 : decode cL_sells 0 = .ok (.iload_n 1, 1) := by decide +kernel
theorem dL_sells_1 : decode cL_sells 1 = .ok (.iconst 4, 1) := by decide +kernel
theorem dL_sells_2 : decode cL_sells 2 = .ok (.invokestatic 64, 3) := by decide +kernel
theorem dL_sells_5 : decode cL_sells 5 = .ok (.istore_n 2, 1) := by decide +kernel
theorem dL_sells_6 : decode cL_sells 6 = .ok (.iconst 0, 1) := by decide +kernel
theorem dL_sells_7 : decode cL_sells 7 = .ok (.istore_n 3, 1) := by decide +kernel
theorem dL_sells_8 : decode cL_sells 8 = .ok (.iload_n 3, 1) := by decide +kernel
theorem dL_sells_9 : decode cL_sells 9 = .ok (.iconst 4, 1) := by decide +kernel
theorem dL_sells_10 : decode cL_sells 10 = .ok (.if_icmp .ge 24, 3) := by decide +kernel
theorem dL_sells_13 : decode cL_sells 13 = .ok (.aload_n 0, 1) := by decide +kernel
theorem dL_sells_14 : decode cL_sells 14 = .ok (.iload_n 2, 1) := by decide +kernel
theorem dL_sells_15 : decode cL_sells 15 = .ok (.iconst 2, 1) := by decide +kernel
theorem dL_sells_16 : decode cL_sells 16 = .ok (.invokevirtual 10, 3) := by decide +kernel
theorem dL_sells_19 : decode cL_sells 19 = .ok (.ifCond .ne 15, 3) := by decide +kernel
theorem dL_sells_22 : decode cL_sells 22 = .ok (.iload_n 2, 1) := by decide +kernel
theorem dL_sells_23 : decode cL_sells 23 = .ok (.iconst 1, 1) := by decide +kernel
theorem dL_sells_24 : decode cL_sells 24 = .ok (.iadd, 1) := by decide +kernel
theorem dL_sells_25 : decode cL_sells 25 = .ok (.iconst 4, 1) := by decide +kernel
theorem dL_sells_26 : decode cL_sells 26 = .ok (.irem, 1) := by decide +kernel
theorem dL_sells_27 : decode cL_sells 27 = .ok (.istore_n 2, 1) := by decide +kernel
theorem dL_sells_28 : decode cL_sells 28 = .ok (.iinc 3 1, 3) := by decide +kernel
theorem dL_sells_31 : decode cL_sells 31 = .ok (.goto (-23), 3) := by decide +kernel
theorem dL_sells_34 : decode cL_sells 34 = .ok (.aload_n 0, 1) := by decide +kernel
theorem dL_sells_35 : decode cL_sells 35 = .ok (.iload_n 2, 1) := by decide +kernel
theorem dL_sells_36 : decode cL_sells 36 = .ok (.iconst 2, 1) := by decide +kernel
theorem dL_sells_37 : decode cL_sells 37 = .ok (.invokevirtual 10, 3) := by decide +kernel
theorem dL_sells_40 : decode cL_sells 40 = .ok (.istore_n 3, 1) := by decide +kernel
theorem dL_sells_41 : decode cL_sells 41 = .ok (.iload_n 3, 1) := by decide +kernel
theorem dL_sells_42 : decode cL_sells 42 = .ok (.ifCond .ne 35, 3) := by decide +kernel
theorem dL_sells_45 : decode cL_sells 45 = .ok (.aload_n 0, 1) := by decide +kernel
theorem dL_sells_46 : decode cL_sells 46 = .ok (.iload_n 2, 1) := by decide +kernel
theorem dL_sells_47 : decode cL_sells 47 = .ok (.iconst 0, 1) := by decide +kernel
theorem dL_sells_48 : decode cL_sells 48 = .ok (.iload_n 2, 1) := by decide +kernel
theorem dL_sells_49 : decode cL_sells 49 = .ok (.iconst 1, 1) := by decide +kernel
theorem dL_sells_50 : decode cL_sells 50 = .ok (.iadd, 1) := by decide +kernel
theorem dL_sells_51 : decode cL_sells 51 = .ok (.iconst 4, 1) := by decide +kernel
theorem dL_sells_52 : decode cL_sells 52 = .ok (.irem, 1) := by decide +kernel
theorem dL_sells_53 : decode cL_sells 53 = .ok (.iconst 5, 1) := by decide +kernel
theorem dL_sells_54 : decode cL_sells 54 = .ok (.invokevirtual 67, 3) := by decide +kernel
theorem dL_sells_57 : decode cL_sells 57 = .ok (.iconst (-1), 1) := by decide +kernel
theorem dL_sells_58 : decode cL_sells 58 = .ok (.if_icmp .ne 17, 3) := by decide +kernel
theorem dL_sells_61 : decode cL_sells 61 = .ok (.aload_n 0, 1) := by decide +kernel
theorem dL_sells_62 : decode cL_sells 62 = .ok (.iload_n 2, 1) := by decide +kernel
theorem dL_sells_63 : decode cL_sells 63 = .ok (.iconst 0, 1) := by decide +kernel
theorem dL_sells_64 : decode cL_sells 64 = .ok (.invokevirtual 71, 3) := by decide +kernel
theorem dL_sells_67 : decode cL_sells 67 = .ok (.iconst (-1), 1) := by decide +kernel
theorem dL_sells_68 : decode cL_sells 68 = .ok (.if_icmp .ne 7, 3) := by decide +kernel
theorem dL_sells_71 : decode cL_sells 71 = .ok (.iconst 1, 1) := by decide +kernel
theorem dL_sells_72 : decode cL_sells 72 = .ok (.goto 4, 3) := by decide +kernel
theorem dL_sells_75 : decode cL_sells 75 = .ok (.iconst 0, 1) := by decide +kernel
theorem dL_sells_76 : decode cL_sells 76 = .ok (.ireturn, 1) := by decide +kernel
theorem dL_sells_77 : decode cL_sells 77 = .ok (.iload_n 1, 1) := by decide +kernel
theorem dL_sells_78 : decode cL_sells 78 = .ok (.iconst 3, 1) := by decide +kernel
theorem dL_sells_79 : decode cL_sells 79 = .ok (.ishr, 1) := by decide +kernel
theorem dL_sells_80 : decode cL_sells 80 = .ok (.iload_n 3, 1) := by decide +kernel
theorem dL_sells_81 : decode cL_sells 81 = .ok (.invokestatic 64, 3) := by decide +kernel
theorem dL_sells_84 : decode cL_sells 84 = .ok (.istore 4, 2) := by decide +kernel
theorem dL_sells_86 : decode cL_sells 86 = .ok (.aload_n 0, 1) := by decide +kernel
theorem dL_sells_87 : decode cL_sells 87 = .ok (.iload_n 2, 1) := by decide +kernel
theorem dL_sells_88 : decode cL_sells 88 = .ok (.iload 4, 2) := by decide +kernel
theorem dL_sells_90 : decode cL_sells 90 = .ok (.invokevirtual 71, 3) := by decide +kernel
theorem dL_sells_93 : decode cL_sells 93 = .ok (.istore 5, 2) := by decide +kernel
theorem dL_sells_95 : decode cL_sells 95 = .ok (.iload_n 1, 1) := by decide +kernel
theorem dL_sells_96 : decode cL_sells 96 = .ok (.bipush 6, 2) := by decide +kernel
theorem dL_sells_98 : decode cL_sells 98 = .ok (.ishr, 1) := by decide +kernel
theorem dL_sells_99 : decode cL_sells 99 = .ok (.iconst 4, 1) := by decide +kernel
theorem dL_sells_100 : decode cL_sells 100 = .ok (.invokestatic 64, 3) := by decide +kernel
theorem dL_sells_103 : decode cL_sells 103 = .ok (.istore 6, 2) := by decide +kernel
theorem dL_sells_105 : decode cL_sells 105 = .ok (.iload_n 1, 1) := by decide +kernel
theorem dL_sells_106 : decode cL_sells 106 = .ok (.bipush 9, 2) := by decide +kernel
theorem dL_sells_108 : decode cL_sells 108 = .ok (.ishr, 1) := by decide +kernel
theorem dL_sells_109 : decode cL_sells 109 = .ok (.bipush 16, 2) := by decide +kernel
theorem dL_sells_111 : decode cL_sells 111 = .ok (.invokestatic 64, 3) := by decide +kernel
theorem dL_sells_114 : decode cL_sells 114 = .ok (.istore 7, 2) := by decide +kernel
theorem dL_sells_116 : decode cL_sells 116 = .ok (.iconst 0, 1) := by decide +kernel
theorem dL_sells_117 : decode cL_sells 117 = .ok (.istore 8, 2) := by decide +kernel
theorem dL_sells_119 : decode cL_sells 119 = .ok (.iload 8, 2) := by decide +kernel
theorem dL_sells_121 : decode cL_sells 121 = .ok (.iconst 4, 1) := by decide +kernel
theorem dL_sells_122 : decode cL_sells 122 = .ok (.if_icmp .ge 100, 3) := by decide +kernel
theorem dL_sells_125 : decode cL_sells 125 = .ok (.iconst 0, 1) := by decide +kernel
theorem dL_sells_126 : decode cL_sells 126 = .ok (.istore 9, 2) := by decide +kernel
theorem dL_sells_128 : decode cL_sells 128 = .ok (.iload 9, 2) := by decide +kernel
theorem dL_sells_130 : decode cL_sells 130 = .ok (.iload 5, 2) := by decide +kernel
theorem dL_sells_132 : decode cL_sells 132 = .ok (.ifCond .ge 8, 3) := by decide +kernel
theorem dL_sells_135 : decode cL_sells 135 = .ok (.bipush 60, 2) := by decide +kernel
theorem dL_sells_137 : decode cL_sells 137 = .ok (.goto 8, 3) := by decide +kernel
theorem dL_sells_140 : decode cL_sells 140 = .ok (.iload 5, 2) := by decide +kernel
theorem dL_sells_142 : decode cL_sells 142 = .ok (.bipush 100, 2) := by decide +kernel
theorem dL_sells_144 : decode cL_sells 144 = .ok (.irem, 1) := by decide +kernel
theorem dL_sells_145 : decode cL_sells 145 = .ok (.if_icmp .ge 31, 3) := by decide +kernel
theorem dL_sells_148 : decode cL_sells 148 = .ok (.iload 8, 2) := by decide +kernel
theorem dL_sells_150 : decode cL_sells 150 = .ok (.iload_n 2, 1) := by decide +kernel
theorem dL_sells_151 : decode cL_sells 151 = .ok (.if_icmp .eq 19, 3) := by decide +kernel
theorem dL_sells_154 : decode cL_sells 154 = .ok (.aload_n 0, 1) := by decide +kernel
theorem dL_sells_155 : decode cL_sells 155 = .ok (.iload_n 2, 1) := by decide +kernel
theorem dL_sells_156 : decode cL_sells 156 = .ok (.iload 4, 2) := by decide +kernel
theorem dL_sells_158 : decode cL_sells 158 = .ok (.iload 8, 2) := by decide +kernel
theorem dL_sells_160 : decode cL_sells 160 = .ok (.iload 9, 2) := by decide +kernel
theorem dL_sells_162 : decode cL_sells 162 = .ok (.invokevirtual 74, 3) := by decide +kernel
theorem dL_sells_165 : decode cL_sells 165 = .ok (.ifCond .ne 5, 3) := by decide +kernel
theorem dL_sells_168 : decode cL_sells 168 = .ok (.iconst 0, 1) := by decide +kernel
theorem dL_sells_169 : decode cL_sells 169 = .ok (.ireturn, 1) := by decide +kernel
theorem dL_sells_170 : decode cL_sells 170 = .ok (.iinc 9 1, 3) := by decide +kernel
theorem dL_sells_173 : decode cL_sells 173 = .ok (.goto (-45), 3) := by decide +kernel
theorem dL_sells_176 : decode cL_sells 176 = .ok (.iload 5, 2) := by decide +kernel
theorem dL_sells_178 : decode cL_sells 178 = .ok (.ifCond .lt 38, 3) := by decide +kernel
theorem dL_sells_181 : decode cL_sells 181 = .ok (.iload 8, 2) := by decide +kernel
theorem dL_sells_183 : decode cL_sells 183 = .ok (.iload 5, 2) := by decide +kernel
theorem dL_sells_185 : decode cL_sells 185 = .ok (.bipush 100, 2) := by decide +kernel
theorem dL_sells_187 : decode cL_sells 187 = .ok (.idiv, 1) := by decide +kernel
theorem dL_sells_188 : decode cL_sells 188 = .ok (.if_icmp .ge 28, 3) := by decide +kernel
theorem dL_sells_191 : decode cL_sells 191 = .ok (.iload 8, 2) := by decide +kernel
theorem dL_sells_193 : decode cL_sells 193 = .ok (.iload_n 2, 1) := by decide +kernel
theorem dL_sells_194 : decode cL_sells 194 = .ok (.if_icmp .eq 22, 3) := by decide +kernel
theorem dL_sells_197 : decode cL_sells 197 = .ok (.aload_n 0, 1) := by decide +kernel
theorem dL_sells_198 : decode cL_sells 198 = .ok (.iload_n 2, 1) := by decide +kernel
theorem dL_sells_199 : decode cL_sells 199 = .ok (.iload 4, 2) := by decide +kernel
theorem dL_sells_201 : decode cL_sells 201 = .ok (.iload 8, 2) := by decide +kernel
theorem dL_sells_203 : decode cL_sells 203 = .ok (.iload 5, 2) := by decide +kernel
theorem dL_sells_205 : decode cL_sells 205 = .ok (.bipush 100, 2) := by decide +kernel
theorem dL_sells_207 : decode cL_sells 207 = .ok (.irem, 1) := by decide +kernel
theorem dL_sells_208 : decode cL_sells 208 = .ok (.invokevirtual 74, 3) := by decide +kernel
theorem dL_sells_211 : decode cL_sells 211 = .ok (.ifCond .ne 5, 3) := by decide +kernel
theorem dL_sells_214 : decode cL_sells 214 = .ok (.iconst 0, 1) := by decide +kernel
theorem dL_sells_215 : decode cL_sells 215 = .ok (.ireturn, 1) := by decide +kernel
theorem dL_sells_216 : decode cL_sells 216 = .ok (.iinc 8 1, 3) := by decide +kernel
theorem dL_sells_219 : decode cL_sells 219 = .ok (.goto (-100), 3) := by decide +kernel
theorem dL_sells_222 : decode cL_sells 222 = .ok (.iload_n 1, 1) := by decide +kernel
theorem dL_sells_223 : decode cL_sells 223 = .ok (.bipush 14, 2) := by decide +kernel
theorem dL_sells_225 : decode cL_sells 225 = .ok (.ishr, 1) := by decide +kernel
theorem dL_sells_226 : decode cL_sells 226 = .ok (.iconst 2, 1) := by decide +kernel
theorem dL_sells_227 : decode cL_sells 227 = .ok (.invokestatic 64, 3) := by decide +kernel
theorem dL_sells_230 : decode cL_sells 230 = .ok (.ifCond .ne 38, 3) := by decide +kernel
theorem dL_sells_233 : decode cL_sells 233 = .ok (.iload 5, 2) := by decide +kernel
theorem dL_sells_235 : decode cL_sells 235 = .ok (.ifCond .lt 33, 3) := by decide +kernel
theorem dL_sells_238 : decode cL_sells 238 = .ok (.iload 5, 2) := by decide +kernel
theorem dL_sells_240 : decode cL_sells 240 = .ok (.bipush 100, 2) := by decide +kernel
theorem dL_sells_242 : decode cL_sells 242 = .ok (.idiv, 1) := by decide +kernel
theorem dL_sells_243 : decode cL_sells 243 = .ok (.istore 6, 2) := by decide +kernel
theorem dL_sells_245 : decode cL_sells 245 = .ok (.iload 5, 2) := by decide +kernel
theorem dL_sells_247 : decode cL_sells 247 = .ok (.bipush 100, 2) := by decide +kernel
theorem dL_sells_249 : decode cL_sells 249 = .ok (.irem, 1) := by decide +kernel
theorem dL_sells_250 : decode cL_sells 250 = .ok (.istore 7, 2) := by decide +kernel
theorem dL_sells_252 : decode cL_sells 252 = .ok (.aload_n 0, 1) := by decide +kernel
theorem dL_sells_253 : decode cL_sells 253 = .ok (.iload_n 2, 1) := by decide +kernel
theorem dL_sells_254 : decode cL_sells 254 = .ok (.iload 4, 2) := by decide +kernel
theorem dL_sells_256 : decode cL_sells 256 = .ok (.iload 6, 2) := by decide +kernel
theorem dL_sells_258 : decode cL_sells 258 = .ok (.iload 7, 2) := by decide +kernel
theorem dL_sells_260 : decode cL_sells 260 = .ok (.invokevirtual 74, 3) := by decide +kernel
theorem dL_sells_263 : decode cL_sells 263 = .ok (.ifCond .eq 5, 3) := by decide +kernel
theorem dL_sells_266 : decode cL_sells 266 = .ok (.iconst 0, 1) := by decide +kernel
theorem dL_sells_267 : decode cL_sells 267 = .ok (.ireturn, 1) := by decide +kernel
theorem dL_sells_268 : decode cL_sells 268 = .ok (.aload_n 0, 1) := by decide +kernel
theorem dL_sells_269 : decode cL_sells 269 = .ok (.iload_n 2, 1) := by decide +kernel
theorem dL_sells_270 : decode cL_sells 270 = .ok (.iload 4, 2) := by decide +kernel
theorem dL_sells_272 : decode cL_sells 272 = .ok (.iload 6, 2) := by decide +kernel
theorem dL_sells_274 : decode cL_sells 274 = .ok (.iload 7, 2) := by decide +kernel
theorem dL_sells_276 : decode cL_sells 276 = .ok (.invokevirtual 74, 3) := by decide +kernel
theorem dL_sells_279 : decode cL_sells 279 = .ok (.istore 8, 2) := by decide +kernel
theorem dL_sells_281 : decode cL_sells 281 = .ok (.aload_n 0, 1) := by decide +kernel
theorem dL_sells_282 : decode cL_sells 282 = .ok (.iload_n 2, 1) := by decide +kernel
theorem dL_sells_283 : decode cL_sells 283 = .ok (.iload 4, 2) := by decide +kernel
theorem dL_sells_285 : decode cL_sells 285 = .ok (.iconst 0, 1) := by decide +kernel
theorem dL_sells_286 : decode cL_sells 286 = .ok (.invokevirtual 16, 3) := by decide +kernel
theorem dL_sells_289 : decode cL_sells 289 = .ok (.istore 9, 2) := by decide +kernel
theorem dL_sells_291 : decode cL_sells 291 = .ok (.aload_n 0, 1) := by decide +kernel
theorem dL_sells_292 : decode cL_sells 292 = .ok (.iload_n 2, 1) := by decide +kernel
theorem dL_sells_293 : decode cL_sells 293 = .ok (.iload 4, 2) := by decide +kernel
theorem dL_sells_295 : decode cL_sells 295 = .ok (.iconst 1, 1) := by decide +kernel
theorem dL_sells_296 : decode cL_sells 296 = .ok (.invokevirtual 16, 3) := by decide +kernel
theorem dL_sells_299 : decode cL_sells 299 = .ok (.istore 10, 2) := by decide +kernel
theorem dL_sells_301 : decode cL_sells 301 = .ok (.aload_n 0, 1) := by decide +kernel
theorem dL_sells_302 : decode cL_sells 302 = .ok (.iload_n 2, 1) := by decide +kernel
theorem dL_sells_303 : decode cL_sells 303 = .ok (.iconst 1, 1) := by decide +kernel
theorem dL_sells_304 : decode cL_sells 304 = .ok (.invokevirtual 10, 3) := by decide +kernel
theorem dL_sells_307 : decode cL_sells 307 = .ok (.istore 11, 2) := by decide +kernel
theorem dL_sells_309 : decode cL_sells 309 = .ok (.aload_n 0, 1) := by decide +kernel
theorem dL_sells_310 : decode cL_sells 310 = .ok (.iload 6, 2) := by decide +kernel
theorem dL_sells_312 : decode cL_sells 312 = .ok (.iconst 1, 1) := by decide +kernel
theorem dL_sells_313 : decode cL_sells 313 = .ok (.invokevirtual 10, 3) := by decide +kernel
theorem dL_sells_316 : decode cL_sells 316 = .ok (.istore 12, 2) := by decide +kernel
theorem dL_sells_318 : decode cL_sells 318 = .ok (.aload_n 0, 1) := by decide +kernel
theorem dL_sells_319 : decode cL_sells 319 = .ok (.iload 6, 2) := by decide +kernel
theorem dL_sells_321 : decode cL_sells 321 = .ok (.iconst 2, 1) := by decide +kernel
theorem dL_sells_322 : decode cL_sells 322 = .ok (.invokevirtual 10, 3) := by decide +kernel
theorem dL_sells_325 : decode cL_sells 325 = .ok (.istore 13, 2) := by decide +kernel
theorem dL_sells_327 : decode cL_sells 327 = .ok (.aload_n 0, 1) := by decide +kernel
theorem dL_sells_328 : decode cL_sells 328 = .ok (.bipush 6, 2) := by decide +kernel
theorem dL_sells_330 : decode cL_sells 330 = .ok (.invokevirtual 38, 3) := by decide +kernel
theorem dL_sells_333 : decode cL_sells 333 = .ok (.istore 14, 2) := by decide +kernel
theorem dL_sells_335 : decode cL_sells 335 = .ok (.aload_n 0, 1) := by decide +kernel
theorem dL_sells_336 : decode cL_sells 336 = .ok (.iload_n 2, 1) := by decide +kernel
theorem dL_sells_337 : decode cL_sells 337 = .ok (.iload 4, 2) := by decide +kernel
theorem dL_sells_339 : decode cL_sells 339 = .ok (.iload 6, 2) := by decide +kernel
theorem dL_sells_341 : decode cL_sells 341 = .ok (.iload 7, 2) := by decide +kernel
theorem dL_sells_343 : decode cL_sells 343 = .ok (.invokevirtual 67, 3) := by decide +kernel
theorem dL_sells_346 : decode cL_sells 346 = .ok (.istore 15, 2) := by decide +kernel
theorem dL_sells_348 : decode cL_sells 348 = .ok (.iload 6, 2) := by decide +kernel
theorem dL_sells_350 : decode cL_sells 350 = .ok (.iload_n 2, 1) := by decide +kernel
theorem dL_sells_351 : decode cL_sells 351 = .ok (.if_icmp .ne 23, 3) := by decide +kernel
theorem dL_sells_354 : decode cL_sells 354 = .ok (.iload 15, 2) := by decide +kernel
theorem dL_sells_356 : decode cL_sells 356 = .ok (.bipush (-2), 2) := by decide +kernel
theorem dL_sells_358 : decode cL_sells 358 = .ok (.if_icmp .ne 14, 3) := by decide +kernel
theorem dL_sells_361 : decode cL_sells 361 = .ok (.iload 8, 2) := by decide +kernel
theorem dL_sells_363 : decode cL_sells 363 = .ok (.bipush (-2), 2) := by decide +kernel
theorem dL_sells_365 : decode cL_sells 365 = .ok (.if_icmp .ne 7, 3) := by decide +kernel
theorem dL_sells_368 : decode cL_sells 368 = .ok (.iconst 1, 1) := by decide +kernel
theorem dL_sells_369 : decode cL_sells 369 = .ok (.goto 4, 3) := by decide +kernel
theorem dL_sells_372 : decode cL_sells 372 = .ok (.iconst 0, 1) := by decide +kernel
theorem dL_sells_373 : decode cL_sells 373 = .ok (.ireturn, 1) := by decide +kernel
theorem dL_sells_374 : decode cL_sells 374 = .ok (.iload 8, 2) := by decide +kernel
theorem dL_sells_376 : decode cL_sells 376 = .ok (.ifCond .eq 35, 3) := by decide +kernel
theorem dL_sells_379 : decode cL_sells 379 = .ok (.iload 8, 2) := by decide +kernel
theorem dL_sells_381 : decode cL_sells 381 = .ok (.ifCond .le 28, 3) := by decide +kernel
theorem dL_sells_384 : decode cL_sells 384 = .ok (.iload 15, 2) := by decide +kernel
theorem dL_sells_386 : decode cL_sells 386 = .ok (.bipush (-10), 2) := by decide +kernel
theorem dL_sells_388 : decode cL_sells 388 = .ok (.iload 8, 2) := by decide +kernel
theorem dL_sells_390 : decode cL_sells 390 = .ok (.isub, 1) := by decide +kernel
theorem dL_sells_391 : decode cL_sells 391 = .ok (.if_icmp .ne 18, 3) := by decide +kernel
theorem dL_sells_394 : decode cL_sells 394 = .ok (.aload_n 0, 1) := by decide +kernel
theorem dL_sells_395 : decode cL_sells 395 = .ok (.bipush 6, 2) := by decide +kernel
theorem dL_sells_397 : decode cL_sells 397 = .ok (.invokevirtual 38, 3) := by decide +kernel
theorem dL_sells_400 : decode cL_sells 400 = .ok (.iload 14, 2) := by decide +kernel
theorem dL_sells_402 : decode cL_sells 402 = .ok (.if_icmp .ne 7, 3) := by decide +kernel
theorem dL_sells_405 : decode cL_sells 405 = .ok (.iconst 1, 1) := by decide +kernel
theorem dL_sells_406 : decode cL_sells 406 = .ok (.goto 4, 3) := by decide +kernel
theorem dL_sells_409 : decode cL_sells 409 = .ok (.iconst 0, 1) := by decide +kernel
theorem dL_sells_410 : decode cL_sells 410 = .ok (.ireturn, 1) := by decide +kernel
theorem dL_sells_411 : decode cL_sells 411 = .ok (.iload 15, 2) := by decide +kernel
theorem dL_sells_413 : decode cL_sells 413 = .ok (.iload 12, 2) := by decide +kernel
theorem dL_sells_415 : decode cL_sells 415 = .ok (.iload 7, 2) := by decide +kernel
theorem dL_sells_417 : decode cL_sells 417 = .ok (.iadd, 1) := by decide +kernel
theorem dL_sells_418 : decode cL_sells 418 = .ok (.if_icmp .ne 102, 3) := by decide +kernel
theorem dL_sells_421 : decode cL_sells 421 = .ok (.aload_n 0, 1) := by decide +kernel
theorem dL_sells_422 : decode cL_sells 422 = .ok (.iload 6, 2) := by decide +kernel
theorem dL_sells_424 : decode cL_sells 424 = .ok (.iconst 1, 1) := by decide +kernel
theorem dL_sells_425 : decode cL_sells 425 = .ok (.invokevirtual 10, 3) := by decide +kernel
theorem dL_sells_428 : decode cL_sells 428 = .ok (.iload 15, 2) := by decide +kernel
theorem dL_sells_430 : decode cL_sells 430 = .ok (.if_icmp .ne 90, 3) := by decide +kernel
theorem dL_sells_433 : decode cL_sells 433 = .ok (.aload_n 0, 1) := by decide +kernel
theorem dL_sells_434 : decode cL_sells 434 = .ok (.iload_n 2, 1) := by decide +kernel
theorem dL_sells_435 : decode cL_sells 435 = .ok (.iconst 1, 1) := by decide +kernel
theorem dL_sells_436 : decode cL_sells 436 = .ok (.invokevirtual 10, 3) := by decide +kernel
theorem dL_sells_439 : decode cL_sells 439 = .ok (.iload 11, 2) := by decide +kernel
theorem dL_sells_441 : decode cL_sells 441 = .ok (.iload 7, 2) := by decide +kernel
theorem dL_sells_443 : decode cL_sells 443 = .ok (.isub, 1) := by decide +kernel
theorem dL_sells_444 : decode cL_sells 444 = .ok (.if_icmp .ne 76, 3) := by decide +kernel
theorem dL_sells_447 : decode cL_sells 447 = .ok (.aload_n 0, 1) := by decide +kernel
theorem dL_sells_448 : decode cL_sells 448 = .ok (.iload_n 2, 1) := by decide +kernel
theorem dL_sells_449 : decode cL_sells 449 = .ok (.iconst 2, 1) := by decide +kernel
theorem dL_sells_450 : decode cL_sells 450 = .ok (.invokevirtual 10, 3) := by decide +kernel
theorem dL_sells_453 : decode cL_sells 453 = .ok (.iload_n 3, 1) := by decide +kernel
theorem dL_sells_454 : decode cL_sells 454 = .ok (.iconst 1, 1) := by decide +kernel
theorem dL_sells_455 : decode cL_sells 455 = .ok (.isub, 1) := by decide +kernel
theorem dL_sells_456 : decode cL_sells 456 = .ok (.if_icmp .ne 64, 3) := by decide +kernel
theorem dL_sells_459 : decode cL_sells 459 = .ok (.aload_n 0, 1) := by decide +kernel
theorem dL_sells_460 : decode cL_sells 460 = .ok (.iload 6, 2) := by decide +kernel
theorem dL_sells_462 : decode cL_sells 462 = .ok (.iconst 2, 1) := by decide +kernel
theorem dL_sells_463 : decode cL_sells 463 = .ok (.invokevirtual 10, 3) := by decide +kernel
theorem dL_sells_466 : decode cL_sells 466 = .ok (.iload 13, 2) := by decide +kernel
theorem dL_sells_468 : decode cL_sells 468 = .ok (.iconst 1, 1) := by decide +kernel
theorem dL_sells_469 : decode cL_sells 469 = .ok (.iadd, 1) := by decide +kernel
theorem dL_sells_470 : decode cL_sells 470 = .ok (.if_icmp .ne 50, 3) := by decide +kernel
theorem dL_sells_473 : decode cL_sells 473 = .ok (.aload_n 0, 1) := by decide +kernel
theorem dL_sells_474 : decode cL_sells 474 = .ok (.iload 6, 2) := by decide +kernel
theorem dL_sells_476 : decode cL_sells 476 = .ok (.iload 13, 2) := by decide +kernel
theorem dL_sells_478 : decode cL_sells 478 = .ok (.iconst 0, 1) := by decide +kernel
theorem dL_sells_479 : decode cL_sells 479 = .ok (.invokevirtual 16, 3) := by decide +kernel
theorem dL_sells_482 : decode cL_sells 482 = .ok (.iload 9, 2) := by decide +kernel
theorem dL_sells_484 : decode cL_sells 484 = .ok (.if_icmp .ne 36, 3) := by decide +kernel
theorem dL_sells_487 : decode cL_sells 487 = .ok (.aload_n 0, 1) := by decide +kernel
theorem dL_sells_488 : decode cL_sells 488 = .ok (.iload 6, 2) := by decide +kernel
theorem dL_sells_490 : decode cL_sells 490 = .ok (.iload 13, 2) := by decide +kernel
theorem dL_sells_492 : decode cL_sells 492 = .ok (.iconst 1, 1) := by decide +kernel
theorem dL_sells_493 : decode cL_sells 493 = .ok (.invokevirtual 16, 3) := by decide +kernel
theorem dL_sells_496 : decode cL_sells 496 = .ok (.iload 10, 2) := by decide +kernel
theorem dL_sells_498 : decode cL_sells 498 = .ok (.iconst 1, 1) := by decide +kernel
theorem dL_sells_499 : decode cL_sells 499 = .ok (.iadd, 1) := by decide +kernel
theorem dL_sells_500 : decode cL_sells 500 = .ok (.if_icmp .ne 20, 3) := by decide +kernel
theorem dL_sells_503 : decode cL_sells 503 = .ok (.aload_n 0, 1) := by decide +kernel
theorem dL_sells_504 : decode cL_sells 504 = .ok (.bipush 6, 2) := by decide +kernel
theorem dL_sells_506 : decode cL_sells 506 = .ok (.invokevirtual 38, 3) := by decide +kernel
theorem dL_sells_509 : decode cL_sells 509 = .ok (.iload 14, 2) := by decide +kernel
theorem dL_sells_511 : decode cL_sells 511 = .ok (.iconst 1, 1) := by decide +kernel
theorem dL_sells_512 : decode cL_sells 512 = .ok (.iadd, 1) := by decide +kernel
theorem dL_sells_513 : decode cL_sells 513 = .ok (.if_icmp .ne 7, 3) := by decide +kernel
theorem dL_sells_516 : decode cL_sells 516 = .ok (.iconst 1, 1) := by decide +kernel
theorem dL_sells_517 : decode cL_sells 517 = .ok (.goto 4, 3) := by decide +kernel
theorem dL_sells_520 : decode cL_sells 520 = .ok (.iconst 0, 1) := by decide +kernel
theorem dL_sells_521 : decode cL_sells 521 = .ok (.ireturn, 1) := by decide +kernel
theorem dL_act_0 : decode cL_act 0 = .ok (.iload_n 1, 1) := by decide +kernel
theorem dL_act_1 : decode cL_act 1 = .ok (.bipush 20, 2) := by decide +kernel
theorem dL_act_3 : decode cL_act 3 = .ok (.invokestatic 64, 3) := by decide +kernel
theorem dL_act_6 : decode cL_act 6 = .ok (.istore_n 3, 1) := by decide +kernel
theorem dL_act_7 : decode cL_act 7 = .ok (.iload_n 3, 1) := by decide +kernel
theorem dL_act_8 : decode cL_act 8 = .ok (.iconst 4, 1) := by decide +kernel
theorem dL_act_9 : decode cL_act 9 = .ok (.if_icmp .ge 201, 3) := by decide +kernel
theorem dL_act_12 : decode cL_act 12 = .ok (.bipush 7, 2) := by decide +kernel
theorem dL_act_14 : decode cL_act 14 = .ok (.iload_n 2, 1) := by decide +kernel
theorem dL_act_15 : decode cL_act 15 = .ok (.bipush 53, 2) := by decide +kernel
theorem dL_act_17 : decode cL_act 17 = .ok (.invokestatic 64, 3) := by decide +kernel
theorem dL_act_20 : decode cL_act 20 = .ok (.iadd, 1) := by decide +kernel
theorem dL_act_21 : decode cL_act 21 = .ok (.istore 4, 2) := by decide +kernel
theorem dL_act_23 : decode cL_act 23 = .ok (.iload 4, 2) := by decide +kernel
theorem dL_act_25 : decode cL_act 25 = .ok (.bipush 6, 2) := by decide +kernel
theorem dL_act_27 : decode cL_act 27 = .ok (.isub, 1) := by decide +kernel
theorem dL_act_28 : decode cL_act 28 = .ok (.iload_n 2, 1) := by decide +kernel
theorem dL_act_29 : decode cL_act 29 = .ok (.bipush 6, 2) := by decide +kernel
theorem dL_act_31 : decode cL_act 31 = .ok (.ishr, 1) := by decide +kernel
theorem dL_act_32 : decode cL_act 32 = .ok (.iload_n 2, 1) := by decide +kernel
theorem dL_act_33 : decode cL_act 33 = .ok (.bipush 13, 2) := by decide +kernel
theorem dL_act_35 : decode cL_act 35 = .ok (.ishr, 1) := by decide +kernel
theorem dL_act_36 : decode cL_act 36 = .ok (.iconst 2, 1) := by decide +kernel
theorem dL_act_37 : decode cL_act 37 = .ok (.invokestatic 64, 3) := by decide +kernel
theorem dL_act_40 : decode cL_act 40 = .ok (.ifCond .ne 8, 3) := by decide +kernel
theorem dL_act_43 : decode cL_act 43 = .ok (.bipush 35, 2) := by decide +kernel
theorem dL_act_45 : decode cL_act 45 = .ok (.goto 5, 3) := by decide +kernel
theorem dL_act_48 : decode cL_act 48 = .ok (.bipush 12, 2) := by decide +kernel
theorem dL_act_50 : decode cL_act 50 = .ok (.invokestatic 64, 3) := by decide +kernel
theorem dL_act_53 : decode cL_act 53 = .ok (.isub, 1) := by decide +kernel
theorem dL_act_54 : decode cL_act 54 = .ok (.istore 5, 2) := by decide +kernel
theorem dL_act_56 : decode cL_act 56 = .ok (.aload_n 0, 1) := by decide +kernel
theorem dL_act_57 : decode cL_act 57 = .ok (.iconst 3, 1) := by decide +kernel
theorem dL_act_58 : decode cL_act 58 = .ok (.invokevirtual 38, 3) := by decide +kernel
theorem dL_act_61 : decode cL_act 61 = .ok (.istore 6, 2) := by decide +kernel
theorem dL_act_63 : decode cL_act 63 = .ok (.aload_n 0, 1) := by decide +kernel
theorem dL_act_64 : decode cL_act 64 = .ok (.iload 4, 2) := by decide +kernel
theorem dL_act_66 : decode cL_act 66 = .ok (.iconst 1, 1) := by decide +kernel
theorem dL_act_67 : decode cL_act 67 = .ok (.invokevirtual 26, 3) := by decide +kernel
theorem dL_act_70 : decode cL_act 70 = .ok (.ifCond .lt 7, 3) := by decide +kernel
theorem dL_act_73 : decode cL_act 73 = .ok (.iconst 1, 1) := by decide +kernel
theorem dL_act_74 : decode cL_act 74 = .ok (.goto 4, 3) := by decide +kernel
theorem dL_act_77 : decode cL_act 77 = .ok (.iconst 0, 1) := by decide +kernel
theorem dL_act_78 : decode cL_act 78 = .ok (.istore 7, 2) := by decide +kernel
theorem dL_act_80 : decode cL_act 80 = .ok (.aload_n 0, 1) := by decide +kernel
theorem dL_act_81 : decode cL_act 81 = .ok (.iload 4, 2) := by decide +kernel
theorem dL_act_83 : decode cL_act 83 = .ok (.iload 5, 2) := by decide +kernel
theorem dL_act_85 : decode cL_act 85 = .ok (.invokevirtual 77, 3) := by decide +kernel
theorem dL_act_88 : decode cL_act 88 = .ok (.istore 8, 2) := by decide +kernel
theorem dL_act_90 : decode cL_act 90 = .ok (.iload 5, 2) := by decide +kernel
theorem dL_act_92 : decode cL_act 92 = .ok (.iconst 1, 1) := by decide +kernel
theorem dL_act_93 : decode cL_act 93 = .ok (.if_icmp .ge 18, 3) := by decide +kernel
theorem dL_act_96 : decode cL_act 96 = .ok (.iload 8, 2) := by decide +kernel
theorem dL_act_98 : decode cL_act 98 = .ok (.bipush (-2), 2) := by decide +kernel
theorem dL_act_100 : decode cL_act 100 = .ok (.if_icmp .ne 7, 3) := by decide +kernel
theorem dL_act_103 : decode cL_act 103 = .ok (.iconst 1, 1) := by decide +kernel
theorem dL_act_104 : decode cL_act 104 = .ok (.goto 105, 3) := by decide +kernel
theorem dL_act_107 : decode cL_act 107 = .ok (.iconst 0, 1) := by decide +kernel
theorem dL_act_108 : decode cL_act 108 = .ok (.goto 101, 3) := by decide +kernel
theorem dL_act_111 : decode cL_act 111 = .ok (.iload 7, 2) := by decide +kernel
theorem dL_act_113 : decode cL_act 113 = .ok (.ifCond .eq 18, 3) := by decide +kernel
theorem dL_act_116 : decode cL_act 116 = .ok (.iload 8, 2) := by decide +kernel
theorem dL_act_118 : decode cL_act 118 = .ok (.bipush (-4), 2) := by decide +kernel
theorem dL_act_120 : decode cL_act 120 = .ok (.if_icmp .ne 7, 3) := by decide +kernel
theorem dL_act_123 : decode cL_act 123 = .ok (.iconst 1, 1) := by decide +kernel
theorem dL_act_124 : decode cL_act 124 = .ok (.goto 85, 3) := by decide +kernel
theorem dL_act_127 : decode cL_act 127 = .ok (.iconst 0, 1) := by decide +kernel
theorem dL_act_128 : decode cL_act 128 = .ok (.goto 81, 3) := by decide +kernel
theorem dL_act_131 : decode cL_act 131 = .ok (.iload 6, 2) := by decide +kernel
theorem dL_act_133 : decode cL_act 133 = .ok (.bipush 10, 2) := by decide +kernel
theorem dL_act_135 : decode cL_act 135 = .ok (.if_icmp .ne 18, 3) := by decide +kernel
theorem dL_act_138 : decode cL_act 138 = .ok (.iload 8, 2) := by decide +kernel
theorem dL_act_140 : decode cL_act 140 = .ok (.bipush (-3), 2) := by decide +kernel
theorem dL_act_142 : decode cL_act 142 = .ok (.if_icmp .ne 7, 3) := by decide +kernel
theorem dL_act_145 : decode cL_act 145 = .ok (.iconst 1, 1) := by decide +kernel
theorem dL_act_146 : decode cL_act 146 = .ok (.goto 63, 3) := by decide +kernel
theorem dL_act_149 : decode cL_act 149 = .ok (.iconst 0, 1) := by decide +kernel
theorem dL_act_150 : decode cL_act 150 = .ok (.goto 59, 3) := by decide +kernel
theorem dL_act_153 : decode cL_act 153 = .ok (.iload 8, 2) := by decide +kernel
theorem dL_act_155 : decode cL_act 155 = .ok (.ifCond .lt 53, 3) := by decide +kernel
theorem dL_act_158 : decode cL_act 158 = .ok (.aload_n 0, 1) := by decide +kernel
theorem dL_act_159 : decode cL_act 159 = .ok (.iload 8, 2) := by decide +kernel
theorem dL_act_161 : decode cL_act 161 = .ok (.iconst 0, 1) := by decide +kernel
theorem dL_act_162 : decode cL_act 162 = .ok (.invokevirtual 48, 3) := by decide +kernel
theorem dL_act_165 : decode cL_act 165 = .ok (.iload 4, 2) := by decide +kernel
theorem dL_act_167 : decode cL_act 167 = .ok (.if_icmp .ne 41, 3) := by decide +kernel
theorem dL_act_170 : decode cL_act 170 = .ok (.aload_n 0, 1) := by decide +kernel
theorem dL_act_171 : decode cL_act 171 = .ok (.iload 8, 2) := by decide +kernel
theorem dL_act_173 : decode cL_act 173 = .ok (.iconst 1, 1) := by decide +kernel
theorem dL_act_174 : decode cL_act 174 = .ok (.invokevirtual 48, 3) := by decide +kernel
theorem dL_act_177 : decode cL_act 177 = .ok (.iload 5, 2) := by decide +kernel
theorem dL_act_179 : decode cL_act 179 = .ok (.if_icmp .ne 29, 3) := by decide +kernel
theorem dL_act_182 : decode cL_act 182 = .ok (.aload_n 0, 1) := by decide +kernel
theorem dL_act_183 : decode cL_act 183 = .ok (.iload 8, 2) := by decide +kernel
theorem dL_act_185 : decode cL_act 185 = .ok (.iconst 2, 1) := by decide +kernel
theorem dL_act_186 : decode cL_act 186 = .ok (.invokevirtual 48, 3) := by decide +kernel
theorem dL_act_189 : decode cL_act 189 = .ok (.ifCond .ne 19, 3) := by decide +kernel
theorem dL_act_192 : decode cL_act 192 = .ok (.aload_n 0, 1) := by decide +kernel
theorem dL_act_193 : decode cL_act 193 = .ok (.iconst 3, 1) := by decide +kernel
theorem dL_act_194 : decode cL_act 194 = .ok (.invokevirtual 38, 3) := by decide +kernel
theorem dL_act_197 : decode cL_act 197 = .ok (.iload 6, 2) := by decide +kernel
theorem dL_act_199 : decode cL_act 199 = .ok (.iconst 1, 1) := by decide +kernel
theorem dL_act_200 : decode cL_act 200 = .ok (.iadd, 1) := by decide +kernel
theorem dL_act_201 : decode cL_act 201 = .ok (.if_icmp .ne 7, 3) := by decide +kernel
theorem dL_act_204 : decode cL_act 204 = .ok (.iconst 1, 1) := by decide +kernel
theorem dL_act_205 : decode cL_act 205 = .ok (.goto 4, 3) := by decide +kernel
theorem dL_act_208 : decode cL_act 208 = .ok (.iconst 0, 1) := by decide +kernel
theorem dL_act_209 : decode cL_act 209 = .ok (.ireturn, 1) := by decide +kernel
theorem dL_act_210 : decode cL_act 210 = .ok (.iload_n 3, 1) := by decide +kernel
theorem dL_act_211 : decode cL_act 211 = .ok (.bipush 12, 2) := by decide +kernel
theorem dL_act_213 : decode cL_act 213 = .ok (.if_icmp .ge 82, 3) := by decide +kernel
theorem dL_act_216 : decode cL_act 216 = .ok (.iconst 1, 1) := by decide +kernel
theorem dL_act_217 : decode cL_act 217 = .ok (.iload_n 2, 1) := by decide +kernel
theorem dL_act_218 : decode cL_act 218 = .ok (.bipush 6, 2) := by decide +kernel
theorem dL_act_220 : decode cL_act 220 = .ok (.invokestatic 64, 3) := by decide +kernel
theorem dL_act_223 : decode cL_act 223 = .ok (.iadd, 1) := by decide +kernel
theorem dL_act_224 : decode cL_act 224 = .ok (.istore 4, 2) := by decide +kernel
theorem dL_act_226 : decode cL_act 226 = .ok (.aload_n 0, 1) := by decide +kernel
theorem dL_act_227 : decode cL_act 227 = .ok (.iconst 1, 1) := by decide +kernel
theorem dL_act_228 : decode cL_act 228 = .ok (.invokevirtual 38, 3) := by decide +kernel
theorem dL_act_231 : decode cL_act 231 = .ok (.istore 5, 2) := by decide +kernel
theorem dL_act_233 : decode cL_act 233 = .ok (.iconst 1, 1) := by decide +kernel
theorem dL_act_234 : decode cL_act 234 = .ok (.istore 6, 2) := by decide +kernel
theorem dL_act_236 : decode cL_act 236 = .ok (.iload 6, 2) := by decide +kernel
theorem dL_act_238 : decode cL_act 238 = .ok (.bipush 7, 2) := by decide +kernel
theorem dL_act_240 : decode cL_act 240 = .ok (.if_icmp .ge 48, 3) := by decide +kernel
theorem dL_act_243 : decode cL_act 243 = .ok (.iload 5, 2) := by decide +kernel
theorem dL_act_245 : decode cL_act 245 = .ok (.ifCond .lt 43, 3) := by decide +kernel
theorem dL_act_248 : decode cL_act 248 = .ok (.iload_n 2, 1) := by decide +kernel
theorem dL_act_249 : decode cL_act 249 = .ok (.iconst 4, 1) := by decide +kernel
theorem dL_act_250 : decode cL_act 250 = .ok (.ishr, 1) := by decide +kernel
theorem dL_act_251 : decode cL_act 251 = .ok (.iconst 2, 1) := by decide +kernel
theorem dL_act_252 : decode cL_act 252 = .ok (.invokestatic 64, 3) := by decide +kernel
theorem dL_act_255 : decode cL_act 255 = .ok (.ifCond .ne 33, 3) := by decide +kernel
theorem dL_act_258 : decode cL_act 258 = .ok (.aload_n 0, 1) := by decide +kernel
theorem dL_act_259 : decode cL_act 259 = .ok (.iload 5, 2) := by decide +kernel
theorem dL_act_261 : decode cL_act 261 = .ok (.invokevirtual 41, 3) := by decide +kernel
theorem dL_act_264 : decode cL_act 264 = .ok (.iload 6, 2) := by decide +kernel
theorem dL_act_266 : decode cL_act 266 = .ok (.ishr, 1) := by decide +kernel
theorem dL_act_267 : decode cL_act 267 = .ok (.iconst 1, 1) := by decide +kernel
theorem dL_act_268 : decode cL_act 268 = .ok (.iand, 1) := by decide +kernel
theorem dL_act_269 : decode cL_act 269 = .ok (.iconst 1, 1) := by decide +kernel
theorem dL_act_270 : decode cL_act 270 = .ok (.if_icmp .ne 8, 3) := by decide +kernel
theorem dL_act_273 : decode cL_act 273 = .ok (.iload 6, 2) := by decide +kernel
theorem dL_act_275 : decode cL_act 275 = .ok (.goto 5, 3) := by decide +kernel
theorem dL_act_278 : decode cL_act 278 = .ok (.iload 4, 2) := by decide +kernel
theorem dL_act_280 : decode cL_act 280 = .ok (.istore 4, 2) := by decide +kernel
theorem dL_act_282 : decode cL_act 282 = .ok (.iinc 6 1, 3) := by decide +kernel
theorem dL_act_285 : decode cL_act 285 = .ok (.goto (-49), 3) := by decide +kernel
theorem dL_act_288 : decode cL_act 288 = .ok (.aload_n 0, 1) := by decide +kernel
theorem dL_act_289 : decode cL_act 289 = .ok (.iload 4, 2) := by decide +kernel
theorem dL_act_291 : decode cL_act 291 = .ok (.invokestatic 80, 3) := by decide +kernel
theorem dL_act_294 : decode cL_act 294 = .ok (.ireturn, 1) := by decide +kernel
theorem dL_act_295 : decode cL_act 295 = .ok (.iload_n 3, 1) := by decide +kernel
theorem dL_act_296 : decode cL_act 296 = .ok (.bipush 12, 2) := by decide +kernel
theorem dL_act_298 : decode cL_act 298 = .ok (.if_icmp .ne 40, 3) := by decide +kernel
theorem dL_act_301 : decode cL_act 301 = .ok (.aload_n 0, 1) := by decide +kernel
theorem dL_act_302 : decode cL_act 302 = .ok (.iload_n 2, 1) := by decide +kernel
theorem dL_act_303 : decode cL_act 303 = .ok (.ldc 83, 2) := by decide +kernel
theorem dL_act_305 : decode cL_act 305 = .ok (.invokestatic 64, 3) := by decide +kernel
theorem dL_act_308 : decode cL_act 308 = .ok (.iconst 1, 1) := by decide +kernel
theorem dL_act_309 : decode cL_act 309 = .ok (.iload_n 2, 1) := by decide +kernel
theorem dL_act_310 : decode cL_act 310 = .ok (.iconst 5, 1) := by decide +kernel
theorem dL_act_311 : decode cL_act 311 = .ok (.ishr, 1) := by decide +kernel
theorem dL_act_312 : decode cL_act 312 = .ok (.iload_n 2, 1) := by decide +kernel
theorem dL_act_313 : decode cL_act 313 = .ok (.bipush 12, 2) := by decide +kernel
theorem dL_act_315 : decode cL_act 315 = .ok (.ishr, 1) := by decide +kernel
theorem dL_act_316 : decode cL_act 316 = .ok (.iconst 4, 1) := by decide +kernel
theorem dL_act_317 : decode cL_act 317 = .ok (.invokestatic 64, 3) := by decide +kernel
theorem dL_act_320 : decode cL_act 320 = .ok (.ifCond .ne 8, 3) := by decide +kernel
theorem dL_act_323 : decode cL_act 323 = .ok (.bipush 50, 2) := by decide +kernel
theorem dL_act_325 : decode cL_act 325 = .ok (.goto 5, 3) := by decide +kernel
theorem dL_act_328 : decode cL_act 328 = .ok (.bipush 8, 2) := by decide +kernel
theorem dL_act_330 : decode cL_act 330 = .ok (.invokestatic 64, 3) := by decide +kernel
theorem dL_act_333 : decode cL_act 333 = .ok (.iadd, 1) := by decide +kernel
theorem dL_act_334 : decode cL_act 334 = .ok (.invokestatic 84, 3) := by decide +kernel
theorem dL_act_337 : decode cL_act 337 = .ok (.ireturn, 1) := by decide +kernel
theorem dL_act_338 : decode cL_act 338 = .ok (.iload_n 3, 1) := by decide +kernel
theorem dL_act_339 : decode cL_act 339 = .ok (.bipush 17, 2) := by decide +kernel
theorem dL_act_341 : decode cL_act 341 = .ok (.if_icmp .ge 9, 3) := by decide +kernel
theorem dL_act_344 : decode cL_act 344 = .ok (.aload_n 0, 1) := by decide +kernel
theorem dL_act_345 : decode cL_act 345 = .ok (.iload_n 2, 1) := by decide +kernel
theorem dL_act_346 : decode cL_act 346 = .ok (.invokestatic 88, 3) := by decide +kernel
theorem dL_act_349 : decode cL_act 349 = .ok (.ireturn, 1) := by decide +kernel
theorem dL_act_350 : decode cL_act 350 = .ok (.iload_n 3, 1) := by decide +kernel
theorem dL_act_351 : decode cL_act 351 = .ok (.bipush 17, 2) := by decide +kernel
theorem dL_act_353 : decode cL_act 353 = .ok (.if_icmp .ne 82, 3) := by decide +kernel
theorem dL_act_356 : decode cL_act 356 = .ok (.iload_n 2, 1) := by decide +kernel
theorem dL_act_357 : decode cL_act 357 = .ok (.bipush 10, 2) := by decide +kernel
theorem dL_act_359 : decode cL_act 359 = .ok (.invokestatic 64, 3) := by decide +kernel
theorem dL_act_362 : decode cL_act 362 = .ok (.istore 4, 2) := by decide +kernel
theorem dL_act_364 : decode cL_act 364 = .ok (.iconst 1, 1) := by decide +kernel
theorem dL_act_365 : decode cL_act 365 = .ok (.iload_n 2, 1) := by decide +kernel
theorem dL_act_366 : decode cL_act 366 = .ok (.iconst 4, 1) := by decide +kernel
theorem dL_act_367 : decode cL_act 367 = .ok (.ishr, 1) := by decide +kernel
theorem dL_act_368 : decode cL_act 368 = .ok (.bipush 10, 2) := by decide +kernel
theorem dL_act_370 : decode cL_act 370 = .ok (.invokestatic 64, 3) := by decide +kernel
theorem dL_act_373 : decode cL_act 373 = .ok (.iadd, 1) := by decide +kernel
theorem dL_act_374 : decode cL_act 374 = .ok (.istore 5, 2) := by decide +kernel
theorem dL_act_376 : decode cL_act 376 = .ok (.aload_n 0, 1) := by decide +kernel
theorem dL_act_377 : decode cL_act 377 = .ok (.iload 4, 2) := by decide +kernel
theorem dL_act_379 : decode cL_act 379 = .ok (.iconst 2, 1) := by decide +kernel
theorem dL_act_380 : decode cL_act 380 = .ok (.invokevirtual 48, 3) := by decide +kernel
theorem dL_act_383 : decode cL_act 383 = .ok (.istore 6, 2) := by decide +kernel
theorem dL_act_385 : decode cL_act 385 = .ok (.aload_n 0, 1) := by decide +kernel
theorem dL_act_386 : decode cL_act 386 = .ok (.iload 4, 2) := by decide +kernel
theorem dL_act_388 : decode cL_act 388 = .ok (.iload 5, 2) := by decide +kernel
theorem dL_act_390 : decode cL_act 390 = .ok (.invokevirtual 91, 3) := by decide +kernel
theorem dL_act_393 : decode cL_act 393 = .ok (.iload 6, 2) := by decide +kernel
theorem dL_act_395 : decode cL_act 395 = .ok (.if_icmp .ne 38, 3) := by decide +kernel
theorem dL_act_398 : decode cL_act 398 = .ok (.aload_n 0, 1) := by decide +kernel
theorem dL_act_399 : decode cL_act 399 = .ok (.iload 4, 2) := by decide +kernel
theorem dL_act_401 : decode cL_act 401 = .ok (.iconst 2, 1) := by decide +kernel
theorem dL_act_402 : decode cL_act 402 = .ok (.invokevirtual 48, 3) := by decide +kernel
theorem dL_act_405 : decode cL_act 405 = .ok (.iload 6, 2) := by decide +kernel
theorem dL_act_407 : decode cL_act 407 = .ok (.ifCond .lt 10, 3) := by decide +kernel
theorem dL_act_410 : decode cL_act 410 = .ok (.iload 5, 2) := by decide +kernel
theorem dL_act_412 : decode cL_act 412 = .ok (.bipush 10, 2) := by decide +kernel
theorem dL_act_414 : decode cL_act 414 = .ok (.if_icmp .ne 7, 3) := by decide +kernel
theorem dL_act_417 : decode cL_act 417 = .ok (.iconst (-1), 1) := by decide +kernel
theorem dL_act_418 : decode cL_act 418 = .ok (.goto 8, 3) := by decide +kernel
theorem dL_act_421 : decode cL_act 421 = .ok (.iload 6, 2) := by decide +kernel
theorem dL_act_423 : decode cL_act 423 = .ok (.iload 5, 2) := by decide +kernel
theorem dL_act_425 : decode cL_act 425 = .ok (.iadd, 1) := by decide +kernel
theorem dL_act_426 : decode cL_act 426 = .ok (.if_icmp .ne 7, 3) := by decide +kernel
theorem dL_act_429 : decode cL_act 429 = .ok (.iconst 1, 1) := by decide +kernel
theorem dL_act_430 : decode cL_act 430 = .ok (.goto 4, 3) := by decide +kernel
theorem dL_act_433 : decode cL_act 433 = .ok (.iconst 0, 1) := by decide +kernel
theorem dL_act_434 : decode cL_act 434 = .ok (.ireturn, 1) := by decide +kernel
theorem dL_act_435 : decode cL_act 435 = .ok (.iload_n 2, 1) := by decide +kernel
theorem dL_act_436 : decode cL_act 436 = .ok (.iconst 3, 1) := by decide +kernel
theorem dL_act_437 : decode cL_act 437 = .ok (.invokestatic 64, 3) := by decide +kernel
theorem dL_act_440 : decode cL_act 440 = .ok (.istore 4, 2) := by decide +kernel
theorem dL_act_442 : decode cL_act 442 = .ok (.aload_n 0, 1) := by decide +kernel
theorem dL_act_443 : decode cL_act 443 = .ok (.bipush 8, 2) := by decide +kernel
theorem dL_act_445 : decode cL_act 445 = .ok (.iload 4, 2) := by decide +kernel
theorem dL_act_447 : decode cL_act 447 = .ok (.iadd, 1) := by decide +kernel
theorem dL_act_448 : decode cL_act 448 = .ok (.invokevirtual 38, 3) := by decide +kernel
theorem dL_act_451 : decode cL_act 451 = .ok (.istore 5, 2) := by decide +kernel
theorem dL_act_453 : decode cL_act 453 = .ok (.iload 4, 2) := by decide +kernel
theorem dL_act_455 : decode cL_act 455 = .ok (.ifCond .ne 29, 3) := by decide +kernel
theorem dL_act_458 : decode cL_act 458 = .ok (.iload_n 2, 1) := by decide +kernel
theorem dL_act_459 : decode cL_act 459 = .ok (.iconst 2, 1) := by decide +kernel
theorem dL_act_460 : decode cL_act 460 = .ok (.ishr, 1) := by decide +kernel
theorem dL_act_461 : decode cL_act 461 = .ok (.iload_n 2, 1) := by decide +kernel
theorem dL_act_462 : decode cL_act 462 = .ok (.bipush 9, 2) := by decide +kernel
theorem dL_act_464 : decode cL_act 464 = .ok (.ishr, 1) := by decide +kernel
theorem dL_act_465 : decode cL_act 465 = .ok (.iconst 2, 1) := by decide +kernel
theorem dL_act_466 : decode cL_act 466 = .ok (.invokestatic 64, 3) := by decide +kernel
theorem dL_act_469 : decode cL_act 469 = .ok (.ifCond .ne 8, 3) := by decide +kernel
theorem dL_act_472 : decode cL_act 472 = .ok (.bipush 10, 2) := by decide +kernel
theorem dL_act_474 : decode cL_act 474 = .ok (.goto 4, 3) := by decide +kernel
theorem dL_act_477 : decode cL_act 477 = .ok (.iconst 2, 1) := by decide +kernel
theorem dL_act_478 : decode cL_act 478 = .ok (.invokestatic 64, 3) := by decide +kernel
theorem dL_act_481 : decode cL_act 481 = .ok (.goto 29, 3) := by decide +kernel
theorem dL_act_484 : decode cL_act 484 = .ok (.iload 4, 2) := by decide +kernel
theorem dL_act_486 : decode cL_act 486 = .ok (.iconst 1, 1) := by decide +kernel
theorem dL_act_487 : decode cL_act 487 = .ok (.if_icmp .ne 14, 3) := by decide +kernel
theorem dL_act_490 : decode cL_act 490 = .ok (.iload_n 2, 1) := by decide +kernel
theorem dL_act_491 : decode cL_act 491 = .ok (.iconst 2, 1) := by decide +kernel
theorem dL_act_492 : decode cL_act 492 = .ok (.ishr, 1) := by decide +kernel
theorem dL_act_493 : decode cL_act 493 = .ok (.bipush 51, 2) := by decide +kernel
theorem dL_act_495 : decode cL_act 495 = .ok (.invokestatic 64, 3) := by decide +kernel
theorem dL_act_498 : decode cL_act 498 = .ok (.goto 12, 3) := by decide +kernel
theorem dL_act_501 : decode cL_act 501 = .ok (.iconst 1, 1) := by decide +kernel
theorem dL_act_502 : decode cL_act 502 = .ok (.iload_n 2, 1) := by decide +kernel
theorem dL_act_503 : decode cL_act 503 = .ok (.iconst 2, 1) := by decide +kernel
theorem dL_act_504 : decode cL_act 504 = .ok (.ishr, 1) := by decide +kernel
theorem dL_act_505 : decode cL_act 505 = .ok (.iconst 3, 1) := by decide +kernel
theorem dL_act_506 : decode cL_act 506 = .ok (.invokestatic 64, 3) := by decide +kernel
theorem dL_act_509 : decode cL_act 509 = .ok (.iadd, 1) := by decide +kernel
theorem dL_act_510 : decode cL_act 510 = .ok (.istore 6, 2) := by decide +kernel
theorem dL_act_512 : decode cL_act 512 = .ok (.aload_n 0, 1) := by decide +kernel
theorem dL_act_513 : decode cL_act 513 = .ok (.iload 4, 2) := by decide +kernel
theorem dL_act_515 : decode cL_act 515 = .ok (.iload 6, 2) := by decide +kernel
theorem dL_act_517 : decode cL_act 517 = .ok (.invokevirtual 94, 3) := by decide +kernel
theorem dL_act_520 : decode cL_act 520 = .ok (.iload 5, 2) := by decide +kernel
theorem dL_act_522 : decode cL_act 522 = .ok (.if_icmp .ne 21, 3) := by decide +kernel
theorem dL_act_525 : decode cL_act 525 = .ok (.aload_n 0, 1) := by decide +kernel
theorem dL_act_526 : decode cL_act 526 = .ok (.bipush 8, 2) := by decide +kernel
theorem dL_act_528 : decode cL_act 528 = .ok (.iload 4, 2) := by decide +kernel
theorem dL_act_530 : decode cL_act 530 = .ok (.iadd, 1) := by decide +kernel
theorem dL_act_531 : decode cL_act 531 = .ok (.invokevirtual 38, 3) := by decide +kernel
theorem dL_act_534 : decode cL_act 534 = .ok (.iload 6, 2) := by decide +kernel
theorem dL_act_536 : decode cL_act 536 = .ok (.if_icmp .ne 7, 3) := by decide +kernel
theorem dL_act_539 : decode cL_act 539 = .ok (.iconst 1, 1) := by decide +kernel
theorem dL_act_540 : decode cL_act 540 = .ok (.goto 4, 3) := by decide +kernel
theorem dL_act_543 : decode cL_act 543 = .ok (.iconst 0, 1) := by decide +kernel
theorem dL_act_544 : decode cL_act 544 = .ok (.ireturn, 1) := by decide +kernel
theorem dL_law_0 : decode cL_law 0 = .ok (.new 11, 3) := by decide +kernel
theorem dL_law_3 : decode cL_law 3 = .ok (.dup, 1) := by decide +kernel
theorem dL_law_4 : decode cL_law 4 = .ok (.invokespecial 97, 3) := by decide +kernel
theorem dL_law_7 : decode cL_law 7 = .ok (.astore_n 1, 1) := by decide +kernel
theorem dL_law_8 : decode cL_law 8 = .ok (.aload_n 1, 1) := by decide +kernel
theorem dL_law_9 : decode cL_law 9 = .ok (.invokestatic 98, 3) := by decide +kernel
theorem dL_law_12 : decode cL_law 12 = .ok (.ifCond .eq 22, 3) := by decide +kernel
theorem dL_law_15 : decode cL_law 15 = .ok (.aload_n 1, 1) := by decide +kernel
theorem dL_law_16 : decode cL_law 16 = .ok (.iconst 1, 1) := by decide +kernel
theorem dL_law_17 : decode cL_law 17 = .ok (.invokevirtual 38, 3) := by decide +kernel
theorem dL_law_20 : decode cL_law 20 = .ok (.ifCond .ne 14, 3) := by decide +kernel
theorem dL_law_23 : decode cL_law 23 = .ok (.aload_n 1, 1) := by decide +kernel
theorem dL_law_24 : decode cL_law 24 = .ok (.iconst 3, 1) := by decide +kernel
theorem dL_law_25 : decode cL_law 25 = .ok (.iconst 1, 1) := by decide +kernel
theorem dL_law_26 : decode cL_law 26 = .ok (.invokevirtual 35, 3) := by decide +kernel
theorem dL_law_29 : decode cL_law 29 = .ok (.bipush 10, 2) := by decide +kernel
theorem dL_law_31 : decode cL_law 31 = .ok (.if_icmp .eq 5, 3) := by decide +kernel
theorem dL_law_34 : decode cL_law 34 = .ok (.iconst 0, 1) := by decide +kernel
theorem dL_law_35 : decode cL_law 35 = .ok (.ireturn, 1) := by decide +kernel
theorem dL_law_36 : decode cL_law 36 = .ok (.iconst 0, 1) := by decide +kernel
theorem dL_law_37 : decode cL_law 37 = .ok (.istore_n 2, 1) := by decide +kernel
theorem dL_law_38 : decode cL_law 38 = .ok (.iload_n 2, 1) := by decide +kernel
theorem dL_law_39 : decode cL_law 39 = .ok (.bipush 52, 2) := by decide +kernel
theorem dL_law_41 : decode cL_law 41 = .ok (.if_icmp .ge 65, 3) := by decide +kernel
theorem dL_law_44 : decode cL_law 44 = .ok (.aload_n 1, 1) := by decide +kernel
theorem dL_law_45 : decode cL_law 45 = .ok (.iload_n 2, 1) := by decide +kernel
theorem dL_law_46 : decode cL_law 46 = .ok (.iconst 5, 1) := by decide +kernel
theorem dL_law_47 : decode cL_law 47 = .ok (.if_icmp .ge 22, 3) := by decide +kernel
theorem dL_law_50 : decode cL_law 50 = .ok (.bipush 20, 2) := by decide +kernel
theorem dL_law_52 : decode cL_law 52 = .ok (.aload_n 0, 1) := by decide +kernel
theorem dL_law_53 : decode cL_law 53 = .ok (.iconst 2, 1) := by decide +kernel
theorem dL_law_54 : decode cL_law 54 = .ok (.iload_n 2, 1) := by decide +kernel
theorem dL_law_55 : decode cL_law 55 = .ok (.imul, 1) := by decide +kernel
theorem dL_law_56 : decode cL_law 56 = .ok (.invokestatic 102, 3) := by decide +kernel
theorem dL_law_59 : decode cL_law 59 = .ok (.bipush 8, 2) := by decide +kernel
theorem dL_law_61 : decode cL_law 61 = .ok (.ishr, 1) := by decide +kernel
theorem dL_law_62 : decode cL_law 62 = .ok (.ldc 106, 2) := by decide +kernel
theorem dL_law_64 : decode cL_law 64 = .ok (.iand, 1) := by decide +kernel
theorem dL_law_65 : decode cL_law 65 = .ok (.imul, 1) := by decide +kernel
theorem dL_law_66 : decode cL_law 66 = .ok (.goto 10, 3) := by decide +kernel
theorem dL_law_69 : decode cL_law 69 = .ok (.aload_n 0, 1) := by decide +kernel
theorem dL_law_70 : decode cL_law 70 = .ok (.iconst 2, 1) := by decide +kernel
theorem dL_law_71 : decode cL_law 71 = .ok (.iload_n 2, 1) := by decide +kernel
theorem dL_law_72 : decode cL_law 72 = .ok (.imul, 1) := by decide +kernel
theorem dL_law_73 : decode cL_law 73 = .ok (.invokestatic 102, 3) := by decide +kernel
theorem dL_law_76 : decode cL_law 76 = .ok (.aload_n 0, 1) := by decide +kernel
theorem dL_law_77 : decode cL_law 77 = .ok (.iconst 2, 1) := by decide +kernel
theorem dL_law_78 : decode cL_law 78 = .ok (.iload_n 2, 1) := by decide +kernel
theorem dL_law_79 : decode cL_law 79 = .ok (.imul, 1) := by decide +kernel
theorem dL_law_80 : decode cL_law 80 = .ok (.iconst 1, 1) := by decide +kernel
theorem dL_law_81 : decode cL_law 81 = .ok (.iadd, 1) := by decide +kernel
theorem dL_law_82 : decode cL_law 82 = .ok (.invokestatic 102, 3) := by decide +kernel
theorem dL_law_85 : decode cL_law 85 = .ok (.invokestatic 107, 3) := by decide +kernel
theorem dL_law_88 : decode cL_law 88 = .ok (.ifCond .eq 10, 3) := by decide +kernel
theorem dL_law_91 : decode cL_law 91 = .ok (.aload_n 1, 1) := by decide +kernel
theorem dL_law_92 : decode cL_law 92 = .ok (.invokestatic 98, 3) := by decide +kernel
theorem dL_law_95 : decode cL_law 95 = .ok (.ifCond .ne 5, 3) := by decide +kernel
theorem dL_law_98 : decode cL_law 98 = .ok (.iconst 0, 1) := by decide +kernel
theorem dL_law_99 : decode cL_law 99 = .ok (.ireturn, 1) := by decide +kernel
theorem dL_law_100 : decode cL_law 100 = .ok (.iinc 2 1, 3) := by decide +kernel
theorem dL_law_103 : decode cL_law 103 = .ok (.goto (-65), 3) := by decide +kernel
theorem dL_law_106 : decode cL_law 106 = .ok (.aload_n 1, 1) := by decide +kernel
theorem dL_law_107 : decode cL_law 107 = .ok (.aload_n 0, 1) := by decide +kernel
theorem dL_law_108 : decode cL_law 108 = .ok (.bipush 104, 2) := by decide +kernel
theorem dL_law_110 : decode cL_law 110 = .ok (.invokestatic 102, 3) := by decide +kernel
theorem dL_law_113 : decode cL_law 113 = .ok (.ldc 83, 2) := by decide +kernel
theorem dL_law_115 : decode cL_law 115 = .ok (.invokestatic 64, 3) := by decide +kernel
theorem dL_law_118 : decode cL_law 118 = .ok (.iconst 1, 1) := by decide +kernel
theorem dL_law_119 : decode cL_law 119 = .ok (.aload_n 0, 1) := by decide +kernel
theorem dL_law_120 : decode cL_law 120 = .ok (.bipush 105, 2) := by decide +kernel
theorem dL_law_122 : decode cL_law 122 = .ok (.invokestatic 102, 3) := by decide +kernel
theorem dL_law_125 : decode cL_law 125 = .ok (.bipush 50, 2) := by decide +kernel
theorem dL_law_127 : decode cL_law 127 = .ok (.invokestatic 64, 3) := by decide +kernel
theorem dL_law_130 : decode cL_law 130 = .ok (.iadd, 1) := by decide +kernel
theorem dL_law_131 : decode cL_law 131 = .ok (.invokestatic 84, 3) := by decide +kernel
theorem dL_law_134 : decode cL_law 134 = .ok (.ifCond .eq 14, 3) := by decide +kernel
theorem dL_law_137 : decode cL_law 137 = .ok (.aload_n 1, 1) := by decide +kernel
theorem dL_law_138 : decode cL_law 138 = .ok (.invokestatic 98, 3) := by decide +kernel
theorem dL_law_141 : decode cL_law 141 = .ok (.ifCond .eq 7, 3) := by decide +kernel
theorem dL_law_144 : decode cL_law 144 = .ok (.iconst 1, 1) := by decide +kernel
theorem dL_law_145 : decode cL_law 145 = .ok (.goto 4, 3) := by decide +kernel
theorem dL_law_148 : decode cL_law 148 = .ok (.iconst 0, 1) := by decide +kernel
theorem dL_law_149 : decode cL_law 149 = .ok (.ireturn, 1) := by decide +kernel
