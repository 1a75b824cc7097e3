theorem dX7_dangers_49 : decode cX7_dangers 49 = .ok (.iload 5, 2) := by decide +kernel
theorem dX7_dangers_51 : decode cX7_dangers 51 = .ok (.invokestatic 233, 3) := by decide +kernel
theorem dX7_dangers_54 : decode cX7_dangers 54 = .ok (.invokevirtual 237, 3) := by decide +kernel
theorem dX7_dangers_57 : decode cX7_dangers 57 = .ok (.ifnull 12, 3) := by decide +kernel
theorem dX7_dangers_60 : decode cX7_dangers 60 = .ok (.iload 4, 2) := by decide +kernel
theorem dX7_dangers_62 : decode cX7_dangers 62 = .ok (.iconst 1, 1) := by decide +kernel
theorem dX7_dangers_63 : decode cX7_dangers 63 = .ok (.iload 5, 2) := by decide +kernel
theorem dX7_dangers_65 : decode cX7_dangers 65 = .ok (.ishl, 1) := by decide +kernel
theorem dX7_dangers_66 : decode cX7_dangers 66 = .ok (.ior, 1) := by decide +kernel
theorem dX7_dangers_67 : decode cX7_dangers 67 = .ok (.istore 4, 2) := by decide +kernel
theorem dX7_dangers_69 : decode cX7_dangers 69 = .ok (.iinc 5 1, 3) := by decide +kernel
theorem dX7_dangers_72 : decode cX7_dangers 72 = .ok (.goto (-36), 3) := by decide +kernel
theorem dX7_dangers_75 : decode cX7_dangers 75 = .ok (.iload 4, 2) := by decide +kernel
theorem dX7_dangers_77 : decode cX7_dangers 77 = .ok (.ireturn, 1) := by decide +kernel
theorem dX7_fewest_0 : decode cX7_fewest 0 = .ok (.aload_n 0, 1) := by decide +kernel
theorem dX7_fewest_1 : decode cX7_fewest 1 = .ok (.getfield 12, 3) := by decide +kernel
theorem dX7_fewest_4 : decode cX7_fewest 4 = .ok (.iload_n 1, 1) := by decide +kernel
theorem dX7_fewest_5 : decode cX7_fewest 5 = .ok (.invokevirtual 141, 3) := by decide +kernel
theorem dX7_fewest_8 : decode cX7_fewest 8 = .ok (.astore_n 3, 1) := by decide +kernel
theorem dX7_fewest_9 : decode cX7_fewest 9 = .ok (.aload_n 3, 1) := by decide +kernel
theorem dX7_fewest_10 : decode cX7_fewest 10 = .ok (.ifnonnull 5, 3) := by decide +kernel
theorem dX7_fewest_13 : decode cX7_fewest 13 = .ok (.iconst (-1), 1) := by decide +kernel
theorem dX7_fewest_14 : decode cX7_fewest 14 = .ok (.ireturn, 1) := by decide +kernel
theorem dX7_fewest_15 : decode cX7_fewest 15 = .ok (.iload_n 2, 1) := by decide +kernel
theorem dX7_fewest_16 : decode cX7_fewest 16 = .ok (.ifCond .eq 11, 3) := by decide +kernel
theorem dX7_fewest_19 : decode cX7_fewest 19 = .ok (.iload_n 2, 1) := by decide +kernel
theorem dX7_fewest_20 : decode cX7_fewest 20 = .ok (.iconst 1, 1) := by decide +kernel
theorem dX7_fewest_21 : decode cX7_fewest 21 = .ok (.if_icmp .eq 6, 3) := by decide +kernel
theorem dX7_fewest_24 : decode cX7_fewest 24 = .ok (.bipush (-2), 2) := by decide +kernel
theorem dX7_fewest_26 : decode cX7_fewest 26 = .ok (.ireturn, 1) := by decide +kernel
theorem dX7_fewest_27 : decode cX7_fewest 27 = .ok (.aload_n 3, 1) := by decide +kernel
theorem dX7_fewest_28 : decode cX7_fewest 28 = .ok (.invokevirtual 230, 3) := by decide +kernel
theorem dX7_fewest_31 : decode cX7_fewest 31 = .ok (.ifCond .ne 5, 3) := by decide +kernel
theorem dX7_fewest_34 : decode cX7_fewest 34 = .ok (.iconst 0, 1) := by decide +kernel
theorem dX7_fewest_35 : decode cX7_fewest 35 = .ok (.ireturn, 1) := by decide +kernel
theorem dX7_fewest_36 : decode cX7_fewest 36 = .ok (.aload_n 3, 1) := by decide +kernel
theorem dX7_fewest_37 : decode cX7_fewest 37 = .ok (.invokevirtual 159, 3) := by decide +kernel
theorem dX7_fewest_40 : decode cX7_fewest 40 = .ok (.istore 4, 2) := by decide +kernel
theorem dX7_fewest_42 : decode cX7_fewest 42 = .ok (.iload_n 2, 1) := by decide +kernel
theorem dX7_fewest_43 : decode cX7_fewest 43 = .ok (.ifCond .ne 19, 3) := by decide +kernel
theorem dX7_fewest_46 : decode cX7_fewest 46 = .ok (.aload_n 0, 1) := by decide +kernel
theorem dX7_fewest_47 : decode cX7_fewest 47 = .ok (.getfield 39, 3) := by decide +kernel
theorem dX7_fewest_50 : decode cX7_fewest 50 = .ok (.aload_n 0, 1) := by decide +kernel
theorem dX7_fewest_51 : decode cX7_fewest 51 = .ok (.getfield 12, 3) := by decide +kernel
theorem dX7_fewest_54 : decode cX7_fewest 54 = .ok (.iload 4, 2) := by decide +kernel
theorem dX7_fewest_56 : decode cX7_fewest 56 = .ok (.invokevirtual 241, 3) := by decide +kernel
theorem dX7_fewest_59 : decode cX7_fewest 59 = .ok (.goto 16, 3) := by decide +kernel
theorem dX7_fewest_62 : decode cX7_fewest 62 = .ok (.aload_n 0, 1) := by decide +kernel
theorem dX7_fewest_63 : decode cX7_fewest 63 = .ok (.getfield 39, 3) := by decide +kernel
theorem dX7_fewest_66 : decode cX7_fewest 66 = .ok (.aload_n 0, 1) := by decide +kernel
theorem dX7_fewest_67 : decode cX7_fewest 67 = .ok (.getfield 12, 3) := by decide +kernel
theorem dX7_fewest_70 : decode cX7_fewest 70 = .ok (.iload 4, 2) := by decide +kernel
theorem dX7_fewest_72 : decode cX7_fewest 72 = .ok (.invokevirtual 245, 3) := by decide +kernel
theorem dX7_fewest_75 : decode cX7_fewest 75 = .ok (.ireturn, 1) := by decide +kernel
theorem dX7_nextHome_0 : decode cX7_nextHome 0 = .ok (.iload_n 1, 1) := by decide +kernel
theorem dX7_nextHome_1 : decode cX7_nextHome 1 = .ok (.invokestatic 90, 3) := by decide +kernel
theorem dX7_nextHome_4 : decode cX7_nextHome 4 = .ok (.ifCond .ne 6, 3) := by decide +kernel
theorem dX7_nextHome_7 : decode cX7_nextHome 7 = .ok (.bipush (-2), 2) := by decide +kernel
theorem dX7_nextHome_9 : decode cX7_nextHome 9 = .ok (.ireturn, 1) := by decide +kernel
theorem dX7_nextHome_10 : decode cX7_nextHome 10 = .ok (.aload_n 0, 1) := by decide +kernel
theorem dX7_nextHome_11 : decode cX7_nextHome 11 = .ok (.getfield 12, 3) := by decide +kernel
theorem dX7_nextHome_14 : decode cX7_nextHome 14 = .ok (.invokevirtual 83, 3) := by decide +kernel
theorem dX7_nextHome_17 : decode cX7_nextHome 17 = .ok (.ifCond .eq 6, 3) := by decide +kernel
theorem dX7_nextHome_20 : decode cX7_nextHome 20 = .ok (.bipush (-4), 2) := by decide +kernel
theorem dX7_nextHome_22 : decode cX7_nextHome 22 = .ok (.ireturn, 1) := by decide +kernel
theorem dX7_nextHome_23 : decode cX7_nextHome 23 = .ok (.aload_n 0, 1) := by decide +kernel
theorem dX7_nextHome_24 : decode cX7_nextHome 24 = .ok (.getfield 16, 3) := by decide +kernel
theorem dX7_nextHome_27 : decode cX7_nextHome 27 = .ok (.aload_n 0, 1) := by decide +kernel
theorem dX7_nextHome_28 : decode cX7_nextHome 28 = .ok (.getfield 12, 3) := by decide +kernel
theorem dX7_nextHome_31 : decode cX7_nextHome 31 = .ok (.invokevirtual 135, 3) := by decide +kernel
theorem dX7_nextHome_34 : decode cX7_nextHome 34 = .ok (.iload_n 1, 1) := by decide +kernel
theorem dX7_nextHome_35 : decode cX7_nextHome 35 = .ok (.istore_n 2, 1) := by decide +kernel
theorem dX7_nextHome_36 : decode cX7_nextHome 36 = .ok (.iconst 0, 1) := by decide +kernel
theorem dX7_nextHome_37 : decode cX7_nextHome 37 = .ok (.istore_n 3, 1) := by decide +kernel
theorem dX7_nextHome_38 : decode cX7_nextHome 38 = .ok (.iload_n 3, 1) := by decide +kernel
theorem dX7_nextHome_39 : decode cX7_nextHome 39 = .ok (.sipush 200, 3) := by decide +kernel
theorem dX7_nextHome_42 : decode cX7_nextHome 42 = .ok (.if_icmp .ge 42, 3) := by decide +kernel
theorem dX7_nextHome_45 : decode cX7_nextHome 45 = .ok (.aload_n 0, 1) := by decide +kernel
theorem dX7_nextHome_46 : decode cX7_nextHome 46 = .ok (.getfield 16, 3) := by decide +kernel
theorem dX7_nextHome_49 : decode cX7_nextHome 49 = .ok (.getfield 204, 3) := by decide +kernel
theorem dX7_nextHome_52 : decode cX7_nextHome 52 = .ok (.istore 4, 2) := by decide +kernel
theorem dX7_nextHome_54 : decode cX7_nextHome 54 = .ok (.iload_n 2, 1) := by decide +kernel
theorem dX7_nextHome_55 : decode cX7_nextHome 55 = .ok (.invokestatic 94, 3) := by decide +kernel
theorem dX7_nextHome_58 : decode cX7_nextHome 58 = .ok (.istore_n 2, 1) := by decide +kernel
theorem dX7_nextHome_59 : decode cX7_nextHome 59 = .ok (.aload_n 0, 1) := by decide +kernel
theorem dX7_nextHome_60 : decode cX7_nextHome 60 = .ok (.getfield 16, 3) := by decide +kernel
theorem dX7_nextHome_63 : decode cX7_nextHome 63 = .ok (.iload_n 2, 1) := by decide +kernel
theorem dX7_nextHome_64 : decode cX7_nextHome 64 = .ok (.invokestatic 97, 3) := by decide +kernel
theorem dX7_nextHome_67 : decode cX7_nextHome 67 = .ok (.invokevirtual 87, 3) := by decide +kernel
theorem dX7_nextHome_70 : decode cX7_nextHome 70 = .ok (.bipush 60, 2) := by decide +kernel
theorem dX7_nextHome_72 : decode cX7_nextHome 72 = .ok (.if_icmp .ne 6, 3) := by decide +kernel
theorem dX7_nextHome_75 : decode cX7_nextHome 75 = .ok (.iload 4, 2) := by decide +kernel
theorem dX7_nextHome_77 : decode cX7_nextHome 77 = .ok (.ireturn, 1) := by decide +kernel
theorem dX7_nextHome_78 : decode cX7_nextHome 78 = .ok (.iinc 3 1, 3) := by decide +kernel
theorem dX7_nextHome_81 : decode cX7_nextHome 81 = .ok (.goto (-43), 3) := by decide +kernel
theorem dX7_nextHome_84 : decode cX7_nextHome 84 = .ok (.bipush (-5), 2) := by decide +kernel
theorem dX7_nextHome_86 : decode cX7_nextHome 86 = .ok (.ireturn, 1) := by decide +kernel
theorem dX7_progress_0 : decode cX7_progress 0 = .ok (.aload_n 0, 1) := by decide +kernel
theorem dX7_progress_1 : decode cX7_progress 1 = .ok (.getfield 12, 3) := by decide +kernel
theorem dX7_progress_4 : decode cX7_progress 4 = .ok (.iload_n 1, 1) := by decide +kernel
theorem dX7_progress_5 : decode cX7_progress 5 = .ok (.invokevirtual 141, 3) := by decide +kernel
theorem dX7_progress_8 : decode cX7_progress 8 = .ok (.astore_n 2, 1) := by decide +kernel
theorem dX7_progress_9 : decode cX7_progress 9 = .ok (.aload_n 2, 1) := by decide +kernel
theorem dX7_progress_10 : decode cX7_progress 10 = .ok (.ifnonnull 7, 3) := by decide +kernel
theorem dX7_progress_13 : decode cX7_progress 13 = .ok (.dconst 0, 1) := by decide +kernel
theorem dX7_progress_14 : decode cX7_progress 14 = .ok (.goto 12, 3) := by decide +kernel
theorem dX7_progress_17 : decode cX7_progress 17 = .ok (.aload_n 2, 1) := by decide +kernel
theorem dX7_progress_18 : decode cX7_progress 18 = .ok (.invokevirtual 159, 3) := by decide +kernel
theorem dX7_progress_21 : decode cX7_progress 21 = .ok (.i2d, 1) := by decide +kernel
theorem dX7_progress_22 : decode cX7_progress 22 = .ok (.ldc2_w 248, 3) := by decide +kernel
theorem dX7_progress_25 : decode cX7_progress 25 = .ok (.ddiv, 1) := by decide +kernel
theorem dX7_progress_26 : decode cX7_progress 26 = .ok (.dreturn, 1) := by decide +kernel
theorem dX7_isSnakeForm_0 : decode cX7_isSnakeForm 0 = .ok (.iload_n 0, 1) := by decide +kernel
theorem dX7_isSnakeForm_1 : decode cX7_isSnakeForm 1 = .ok (.bipush 7, 2) := by decide +kernel
theorem dX7_isSnakeForm_3 : decode cX7_isSnakeForm 3 = .ok (.if_icmp .lt 40, 3) := by decide +kernel
theorem dX7_isSnakeForm_6 : decode cX7_isSnakeForm 6 = .ok (.iload_n 0, 1) := by decide +kernel
theorem dX7_isSnakeForm_7 : decode cX7_isSnakeForm 7 = .ok (.bipush 59, 2) := by decide +kernel
theorem dX7_isSnakeForm_9 : decode cX7_isSnakeForm 9 = .ok (.if_icmp .gt 34, 3) := by decide +kernel
theorem dX7_isSnakeForm_12 : decode cX7_isSnakeForm 12 = .ok (.iload_n 1, 1) := by decide +kernel
theorem dX7_isSnakeForm_13 : decode cX7_isSnakeForm 13 = .ok (.iconst 1, 1) := by decide +kernel
theorem dX7_isSnakeForm_14 : decode cX7_isSnakeForm 14 = .ok (.if_icmp .lt 29, 3) := by decide +kernel
theorem dX7_isSnakeForm_17 : decode cX7_isSnakeForm 17 = .ok (.iload_n 1, 1) := by decide +kernel
theorem dX7_isSnakeForm_18 : decode cX7_isSnakeForm 18 = .ok (.bipush 53, 2) := by decide +kernel
theorem dX7_isSnakeForm_20 : decode cX7_isSnakeForm 20 = .ok (.if_icmp .gt 23, 3) := by decide +kernel
theorem dX7_isSnakeForm_23 : decode cX7_isSnakeForm 23 = .ok (.iload_n 0, 1) := by decide +kernel
theorem dX7_isSnakeForm_24 : decode cX7_isSnakeForm 24 = .ok (.iload_n 1, 1) := by decide +kernel
theorem dX7_isSnakeForm_25 : decode cX7_isSnakeForm 25 = .ok (.isub, 1) := by decide +kernel
theorem dX7_isSnakeForm_26 : decode cX7_isSnakeForm 26 = .ok (.bipush 6, 2) := by decide +kernel
theorem dX7_isSnakeForm_28 : decode cX7_isSnakeForm 28 = .ok (.if_icmp .lt 15, 3) := by decide +kernel
theorem dX7_isSnakeForm_31 : decode cX7_isSnakeForm 31 = .ok (.iload_n 0, 1) := by decide +kernel
theorem dX7_isSnakeForm_32 : decode cX7_isSnakeForm 32 = .ok (.iload_n 1, 1) := by decide +kernel
theorem dX7_isSnakeForm_33 : decode cX7_isSnakeForm 33 = .ok (.isub, 1) := by decide +kernel
theorem dX7_isSnakeForm_34 : decode cX7_isSnakeForm 34 = .ok (.bipush 40, 2) := by decide +kernel
theorem dX7_isSnakeForm_36 : decode cX7_isSnakeForm 36 = .ok (.if_icmp .gt 7, 3) := by decide +kernel
theorem dX7_isSnakeForm_39 : decode cX7_isSnakeForm 39 = .ok (.iconst 1, 1) := by decide +kernel
theorem dX7_isSnakeForm_40 : decode cX7_isSnakeForm 40 = .ok (.goto 4, 3) := by decide +kernel
theorem dX7_isSnakeForm_43 : decode cX7_isSnakeForm 43 = .ok (.iconst 0, 1) := by decide +kernel
theorem dX7_isSnakeForm_44 : decode cX7_isSnakeForm 44 = .ok (.ireturn, 1) := by decide +kernel
theorem dX7_leastValue_0 : decode cX7_leastValue 0 = .ok (.iload_n 0, 1) := by decide +kernel
theorem dX7_leastValue_1 : decode cX7_leastValue 1 = .ok (.iconst 2, 1) := by decide +kernel
theorem dX7_leastValue_2 : decode cX7_leastValue 2 = .ok (.if_icmp .ne 7, 3) := by decide +kernel
theorem dX7_leastValue_5 : decode cX7_leastValue 5 = .ok (.iconst 1, 1) := by decide +kernel
theorem dX7_leastValue_6 : decode cX7_leastValue 6 = .ok (.goto 4, 3) := by decide +kernel
theorem dX7_leastValue_9 : decode cX7_leastValue 9 = .ok (.iconst 0, 1) := by decide +kernel
theorem dX7_leastValue_10 : decode cX7_leastValue 10 = .ok (.ireturn, 1) := by decide +kernel
theorem dX7_highestValue_0 : decode cX7_highestValue 0 = .ok (.iload_n 0, 1) := by decide +kernel
theorem dX7_highestValue_1 : decode cX7_highestValue 1 = .ok (.lookupswitch 33 #[(0, 27), (1, 30)], 27) := by decide +kernel
theorem dX7_highestValue_28 : decode cX7_highestValue 28 = .ok (.bipush 9, 2) := by decide +kernel
theorem dX7_highestValue_30 : decode cX7_highestValue 30 = .ok (.ireturn, 1) := by decide +kernel
theorem dX7_highestValue_31 : decode cX7_highestValue 31 = .ok (.bipush 50, 2) := by decide +kernel
theorem dX7_highestValue_33 : decode cX7_highestValue 33 = .ok (.ireturn, 1) := by decide +kernel
theorem dX7_highestValue_34 : decode cX7_highestValue 34 = .ok (.iconst 3, 1) := by decide +kernel
theorem dX7_highestValue_35 : decode cX7_highestValue 35 = .ok (.ireturn, 1) := by decide +kernel
theorem dX7_isDraw_0 : decode cX7_isDraw 0 = .ok (.iload_n 0, 1) := by decide +kernel
theorem dX7_isDraw_1 : decode cX7_isDraw 1 = .ok (.ifCond .lt 13, 3) := by decide +kernel
theorem dX7_isDraw_4 : decode cX7_isDraw 4 = .ok (.iload_n 0, 1) := by decide +kernel
theorem dX7_isDraw_5 : decode cX7_isDraw 5 = .ok (.ldc 250, 2) := by decide +kernel
theorem dX7_isDraw_7 : decode cX7_isDraw 7 = .ok (.if_icmp .gt 7, 3) := by decide +kernel
theorem dX7_isDraw_10 : decode cX7_isDraw 10 = .ok (.iconst 1, 1) := by decide +kernel
theorem dX7_isDraw_11 : decode cX7_isDraw 11 = .ok (.goto 4, 3) := by decide +kernel
theorem dX7_isDraw_14 : decode cX7_isDraw 14 = .ok (.iconst 0, 1) := by decide +kernel
theorem dX7_isDraw_15 : decode cX7_isDraw 15 = .ok (.ireturn, 1) := by decide +kernel
theorem dX7_drawAfter_0 : decode cX7_drawAfter 0 = .ok (.sipush 25173, 3) := by decide +kernel
theorem dX7_drawAfter_3 : decode cX7_drawAfter 3 = .ok (.iload_n 0, 1) := by decide +kernel
theorem dX7_drawAfter_4 : decode cX7_drawAfter 4 = .ok (.imul, 1) := by decide +kernel
theorem dX7_drawAfter_5 : decode cX7_drawAfter 5 = .ok (.sipush 13849, 3) := by decide +kernel
theorem dX7_drawAfter_8 : decode cX7_drawAfter 8 = .ok (.iadd, 1) := by decide +kernel
theorem dX7_drawAfter_9 : decode cX7_drawAfter 9 = .ok (.ldc 251, 2) := by decide +kernel
theorem dX7_drawAfter_11 : decode cX7_drawAfter 11 = .ok (.irem, 1) := by decide +kernel
theorem dX7_drawAfter_12 : decode cX7_drawAfter 12 = .ok (.ireturn, 1) := by decide +kernel
theorem dX7_throwOf_0 : decode cX7_throwOf 0 = .ok (.iconst 1, 1) := by decide +kernel
theorem dX7_throwOf_1 : decode cX7_throwOf 1 = .ok (.iload_n 0, 1) := by decide +kernel
theorem dX7_throwOf_2 : decode cX7_throwOf 2 = .ok (.sipush 10923, 3) := by decide +kernel
theorem dX7_throwOf_5 : decode cX7_throwOf 5 = .ok (.idiv, 1) := by decide +kernel
theorem dX7_throwOf_6 : decode cX7_throwOf 6 = .ok (.iadd, 1) := by decide +kernel
theorem dX7_throwOf_7 : decode cX7_throwOf 7 = .ok (.ireturn, 1) := by decide +kernel
theorem dX7_landing_0 : decode cX7_landing 0 = .ok (.iload_n 0, 1) := by decide +kernel
theorem dX7_landing_1 : decode cX7_landing 1 = .ok (.iload_n 1, 1) := by decide +kernel
theorem dX7_landing_2 : decode cX7_landing 2 = .ok (.iadd, 1) := by decide +kernel
theorem dX7_landing_3 : decode cX7_landing 3 = .ok (.istore_n 2, 1) := by decide +kernel
theorem dX7_landing_4 : decode cX7_landing 4 = .ok (.iload_n 2, 1) := by decide +kernel
theorem dX7_landing_5 : decode cX7_landing 5 = .ok (.bipush 60, 2) := by decide +kernel
theorem dX7_landing_7 : decode cX7_landing 7 = .ok (.if_icmp .le 10, 3) := by decide +kernel
theorem dX7_landing_10 : decode cX7_landing 10 = .ok (.bipush 120, 2) := by decide +kernel
theorem dX7_landing_12 : decode cX7_landing 12 = .ok (.iload_n 2, 1) := by decide +kernel
theorem dX7_landing_13 : decode cX7_landing 13 = .ok (.isub, 1) := by decide +kernel
theorem dX7_landing_14 : decode cX7_landing 14 = .ok (.goto 4, 3) := by decide +kernel
theorem dX7_landing_17 : decode cX7_landing 17 = .ok (.iload_n 2, 1) := by decide +kernel
theorem dX7_landing_18 : decode cX7_landing 18 = .ok (.ireturn, 1) := by decide +kernel
theorem dX8_init_0 : decode cX8_init 0 = .ok (.aload_n 0, 1) := by decide +kernel
theorem dX8_init_1 : decode cX8_init 1 = .ok (.invokespecial 1, 3) := by decide +kernel
theorem dX8_init_4 : decode cX8_init 4 = .ok (.aload_n 0, 1) := by decide +kernel
theorem dX8_init_5 : decode cX8_init 5 = .ok (.sipush 392, 3) := by decide +kernel
theorem dX8_init_8 : decode cX8_init 8 = .ok (.newarray .int, 2) := by decide +kernel
theorem dX8_init_10 : decode cX8_init 10 = .ok (.putfield 7, 3) := by decide +kernel
theorem dX8_init_13 : decode cX8_init 13 = .ok (.aload_n 0, 1) := by decide +kernel
theorem dX8_init_14 : decode cX8_init 14 = .ok (.sipush 1960, 3) := by decide +kernel
theorem dX8_init_17 : decode cX8_init 17 = .ok (.newarray .int, 2) := by decide +kernel
theorem dX8_init_19 : decode cX8_init 19 = .ok (.putfield 13, 3) := by decide +kernel
theorem dX8_init_22 : decode cX8_init 22 = .ok (.aload_n 0, 1) := by decide +kernel
theorem dX8_init_23 : decode cX8_init 23 = .ok (.sipush 392, 3) := by decide +kernel
theorem dX8_init_26 : decode cX8_init 26 = .ok (.newarray .int, 2) := by decide +kernel
theorem dX8_init_28 : decode cX8_init 28 = .ok (.putfield 16, 3) := by decide +kernel
theorem dX8_init_31 : decode cX8_init 31 = .ok (.aload_n 0, 1) := by decide +kernel
theorem dX8_init_32 : decode cX8_init 32 = .ok (.sipush 392, 3) := by decide +kernel
theorem dX8_init_35 : decode cX8_init 35 = .ok (.newarray .int, 2) := by decide +kernel
theorem dX8_init_37 : decode cX8_init 37 = .ok (.putfield 19, 3) := by decide +kernel
theorem dX8_init_40 : decode cX8_init 40 = .ok (.aload_n 0, 1) := by decide +kernel
theorem dX8_init_41 : decode cX8_init 41 = .ok (.bipush 60, 2) := by decide +kernel
theorem dX8_init_43 : decode cX8_init 43 = .ok (.newarray .int, 2) := by decide +kernel
theorem dX8_init_45 : decode cX8_init 45 = .ok (.putfield 22, 3) := by decide +kernel
theorem dX8_init_48 : decode cX8_init 48 = .ok (.aload_n 0, 1) := by decide +kernel
theorem dX8_init_49 : decode cX8_init 49 = .ok (.iconst 4, 1) := by decide +kernel
theorem dX8_init_50 : decode cX8_init 50 = .ok (.newarray .int, 2) := by decide +kernel
theorem dX8_init_52 : decode cX8_init 52 = .ok (.putfield 25, 3) := by decide +kernel
theorem dX8_init_55 : decode cX8_init 55 = .ok (.aload_n 0, 1) := by decide +kernel
theorem dX8_init_56 : decode cX8_init 56 = .ok (.bipush 61, 2) := by decide +kernel
theorem dX8_init_58 : decode cX8_init 58 = .ok (.newarray .boolean, 2) := by decide +kernel
theorem dX8_init_60 : decode cX8_init 60 = .ok (.putfield 28, 3) := by decide +kernel
theorem dX8_init_63 : decode cX8_init 63 = .ok (.aload_n 0, 1) := by decide +kernel
theorem dX8_init_64 : decode cX8_init 64 = .ok (.bipush 61, 2) := by decide +kernel
theorem dX8_init_66 : decode cX8_init 66 = .ok (.newarray .boolean, 2) := by decide +kernel
theorem dX8_init_68 : decode cX8_init 68 = .ok (.putfield 32, 3) := by decide +kernel
theorem dX8_init_71 : decode cX8_init 71 = .ok (.aload_n 0, 1) := by decide +kernel
theorem dX8_init_72 : decode cX8_init 72 = .ok (.getfield 7, 3) := by decide +kernel
theorem dX8_init_75 : decode cX8_init 75 = .ok (.iconst 5, 1) := by decide +kernel
theorem dX8_init_76 : decode cX8_init 76 = .ok (.iconst 2, 1) := by decide +kernel
theorem dX8_init_77 : decode cX8_init 77 = .ok (.iastore, 1) := by decide +kernel
theorem dX8_init_78 : decode cX8_init 78 = .ok (.aload_n 0, 1) := by decide +kernel
theorem dX8_init_79 : decode cX8_init 79 = .ok (.getfield 7, 3) := by decide +kernel
theorem dX8_init_82 : decode cX8_init 82 = .ok (.bipush 6, 2) := by decide +kernel
theorem dX8_init_84 : decode cX8_init 84 = .ok (.bipush 20, 2) := by decide +kernel
theorem dX8_init_86 : decode cX8_init 86 = .ok (.iastore, 1) := by decide +kernel
theorem dX8_init_87 : decode cX8_init 87 = .ok (.aload_n 0, 1) := by decide +kernel
theorem dX8_init_88 : decode cX8_init 88 = .ok (.getfield 7, 3) := by decide +kernel
theorem dX8_init_91 : decode cX8_init 91 = .ok (.bipush 7, 2) := by decide +kernel
theorem dX8_init_93 : decode cX8_init 93 = .ok (.iconst 2, 1) := by decide +kernel
theorem dX8_init_94 : decode cX8_init 94 = .ok (.iastore, 1) := by decide +kernel
theorem dX8_init_95 : decode cX8_init 95 = .ok (.iconst 0, 1) := by decide +kernel
theorem dX8_init_96 : decode cX8_init 96 = .ok (.istore_n 1, 1) := by decide +kernel
theorem dX8_init_97 : decode cX8_init 97 = .ok (.iload_n 1, 1) := by decide +kernel
theorem dX8_init_98 : decode cX8_init 98 = .ok (.iconst 4, 1) := by decide +kernel
theorem dX8_init_99 : decode cX8_init 99 = .ok (.if_icmp .ge 25, 3) := by decide +kernel
theorem dX8_init_102 : decode cX8_init 102 = .ok (.aload_n 0, 1) := by decide +kernel
theorem dX8_init_103 : decode cX8_init 103 = .ok (.getfield 7, 3) := by decide +kernel
theorem dX8_init_106 : decode cX8_init 106 = .ok (.bipush 8, 2) := by decide +kernel
theorem dX8_init_108 : decode cX8_init 108 = .ok (.bipush 6, 2) := by decide +kernel
theorem dX8_init_110 : decode cX8_init 110 = .ok (.iload_n 1, 1) := by decide +kernel
theorem dX8_init_111 : decode cX8_init 111 = .ok (.imul, 1) := by decide +kernel
theorem dX8_init_112 : decode cX8_init 112 = .ok (.iadd, 1) := by decide +kernel
theorem dX8_init_113 : decode cX8_init 113 = .ok (.iconst 1, 1) := by decide +kernel
theorem dX8_init_114 : decode cX8_init 114 = .ok (.iadd, 1) := by decide +kernel
theorem dX8_init_115 : decode cX8_init 115 = .ok (.bipush 10, 2) := by decide +kernel
theorem dX8_init_117 : decode cX8_init 117 = .ok (.iastore, 1) := by decide +kernel
theorem dX8_init_118 : decode cX8_init 118 = .ok (.iinc 1 1, 3) := by decide +kernel
theorem dX8_init_121 : decode cX8_init 121 = .ok (.goto (-24), 3) := by decide +kernel
theorem dX8_init_124 : decode cX8_init 124 = .ok (.return_, 1) := by decide +kernel
theorem dX8_in_0 : decode cX8_in 0 = .ok (.iload_n 0, 1) := by decide +kernel
theorem dX8_in_1 : decode cX8_in 1 = .ok (.iload_n 1, 1) := by decide +kernel
theorem dX8_in_2 : decode cX8_in 2 = .ok (.if_icmp .lt 12, 3) := by decide +kernel
theorem dX8_in_5 : decode cX8_in 5 = .ok (.iload_n 0, 1) := by decide +kernel
theorem dX8_in_6 : decode cX8_in 6 = .ok (.iload_n 2, 1) := by decide +kernel
theorem dX8_in_7 : decode cX8_in 7 = .ok (.if_icmp .gt 7, 3) := by decide +kernel
theorem dX8_in_10 : decode cX8_in 10 = .ok (.iconst 1, 1) := by decide +kernel
theorem dX8_in_11 : decode cX8_in 11 = .ok (.goto 4, 3) := by decide +kernel
theorem dX8_in_14 : decode cX8_in 14 = .ok (.iconst 0, 1) := by decide +kernel
theorem dX8_in_15 : decode cX8_in 15 = .ok (.ireturn, 1) := by decide +kernel
theorem dX8_isPlayer_0 : decode cX8_isPlayer 0 = .ok (.iload_n 0, 1) := by decide +kernel
theorem dX8_isPlayer_1 : decode cX8_isPlayer 1 = .ok (.iconst 0, 1) := by decide +kernel
theorem dX8_isPlayer_2 : decode cX8_isPlayer 2 = .ok (.iconst 3, 1) := by decide +kernel
theorem dX8_isPlayer_3 : decode cX8_isPlayer 3 = .ok (.invokestatic 35, 3) := by decide +kernel
theorem dX8_isPlayer_6 : decode cX8_isPlayer 6 = .ok (.ireturn, 1) := by decide +kernel
theorem dX8_of_0 : decode cX8_of 0 = .ok (.aload_n 0, 1) := by decide +kernel
theorem dX8_of_1 : decode cX8_of 1 = .ok (.getfield 7, 3) := by decide +kernel
theorem dX8_of_4 : decode cX8_of 4 = .ok (.bipush 8, 2) := by decide +kernel
theorem dX8_of_6 : decode cX8_of 6 = .ok (.bipush 6, 2) := by decide +kernel
theorem dX8_of_8 : decode cX8_of 8 = .ok (.iload_n 1, 1) := by decide +kernel
theorem dX8_of_9 : decode cX8_of 9 = .ok (.imul, 1) := by decide +kernel
theorem dX8_of_10 : decode cX8_of 10 = .ok (.iadd, 1) := by decide +kernel
theorem dX8_of_11 : decode cX8_of 11 = .ok (.iload_n 2, 1) := by decide +kernel
theorem dX8_of_12 : decode cX8_of 12 = .ok (.iadd, 1) := by decide +kernel
theorem dX8_of_13 : decode cX8_of 13 = .ok (.iaload, 1) := by decide +kernel
theorem dX8_of_14 : decode cX8_of 14 = .ok (.ireturn, 1) := by decide +kernel
theorem dX8_add_0 : decode cX8_add 0 = .ok (.aload_n 0, 1) := by decide +kernel
theorem dX8_add_1 : decode cX8_add 1 = .ok (.getfield 7, 3) := by decide +kernel
theorem dX8_add_4 : decode cX8_add 4 = .ok (.bipush 8, 2) := by decide +kernel
theorem dX8_add_6 : decode cX8_add 6 = .ok (.bipush 6, 2) := by decide +kernel
theorem dX8_add_8 : decode cX8_add 8 = .ok (.iload_n 1, 1) := by decide +kernel
theorem dX8_add_9 : decode cX8_add 9 = .ok (.imul, 1) := by decide +kernel
theorem dX8_add_10 : decode cX8_add 10 = .ok (.iadd, 1) := by decide +kernel
theorem dX8_add_11 : decode cX8_add 11 = .ok (.iload_n 2, 1) := by decide +kernel
theorem dX8_add_12 : decode cX8_add 12 = .ok (.iadd, 1) := by decide +kernel
theorem dX8_add_13 : decode cX8_add 13 = .ok (.dup2, 1) := by decide +kernel
theorem dX8_add_14 : decode cX8_add 14 = .ok (.iaload, 1) := by decide +kernel
theorem dX8_add_15 : decode cX8_add 15 = .ok (.iload_n 3, 1) := by decide +kernel
theorem dX8_add_16 : decode cX8_add 16 = .ok (.iadd, 1) := by decide +kernel
theorem dX8_add_17 : decode cX8_add 17 = .ok (.iastore, 1) := by decide +kernel
theorem dX8_add_18 : decode cX8_add 18 = .ok (.return_, 1) := by decide +kernel
theorem dX8_whereIs_0 : decode cX8_whereIs 0 = .ok (.bipush 32, 2) := by decide +kernel
theorem dX8_whereIs_2 : decode cX8_whereIs 2 = .ok (.iconst 4, 1) := by decide +kernel
theorem dX8_whereIs_3 : decode cX8_whereIs 3 = .ok (.bipush 20, 2) := by decide +kernel
theorem dX8_whereIs_5 : decode cX8_whereIs 5 = .ok (.iload_n 0, 1) := by decide +kernel
theorem dX8_whereIs_6 : decode cX8_whereIs 6 = .ok (.imul, 1) := by decide +kernel
theorem dX8_whereIs_7 : decode cX8_whereIs 7 = .ok (.iload_n 1, 1) := by decide +kernel
theorem dX8_whereIs_8 : decode cX8_whereIs 8 = .ok (.iadd, 1) := by decide +kernel
theorem dX8_whereIs_9 : decode cX8_whereIs 9 = .ok (.imul, 1) := by decide +kernel
theorem dX8_whereIs_10 : decode cX8_whereIs 10 = .ok (.iadd, 1) := by decide +kernel
theorem dX8_whereIs_11 : decode cX8_whereIs 11 = .ok (.ireturn, 1) := by decide +kernel
theorem dX8_isBite_0 : decode cX8_isBite 0 = .ok (.iload_n 1, 1) := by decide +kernel
theorem dX8_isBite_1 : decode cX8_isBite 1 = .ok (.invokestatic 39, 3) := by decide +kernel
theorem dX8_isBite_4 : decode cX8_isBite 4 = .ok (.ifCond .eq 23, 3) := by decide +kernel
theorem dX8_isBite_7 : decode cX8_isBite 7 = .ok (.iload_n 2, 1) := by decide +kernel
theorem dX8_isBite_8 : decode cX8_isBite 8 = .ok (.iconst 0, 1) := by decide +kernel
theorem dX8_isBite_9 : decode cX8_isBite 9 = .ok (.aload_n 0, 1) := by decide +kernel
theorem dX8_isBite_10 : decode cX8_isBite 10 = .ok (.iload_n 1, 1) := by decide +kernel
theorem dX8_isBite_11 : decode cX8_isBite 11 = .ok (.iconst 5, 1) := by decide +kernel
theorem dX8_isBite_12 : decode cX8_isBite 12 = .ok (.invokevirtual 43, 3) := by decide +kernel
theorem dX8_isBite_15 : decode cX8_isBite 15 = .ok (.iconst 1, 1) := by decide +kernel
theorem dX8_isBite_16 : decode cX8_isBite 16 = .ok (.isub, 1) := by decide +kernel
theorem dX8_isBite_17 : decode cX8_isBite 17 = .ok (.invokestatic 35, 3) := by decide +kernel
theorem dX8_isBite_20 : decode cX8_isBite 20 = .ok (.ifCond .eq 7, 3) := by decide +kernel
theorem dX8_isBite_23 : decode cX8_isBite 23 = .ok (.iconst 1, 1) := by decide +kernel
theorem dX8_isBite_24 : decode cX8_isBite 24 = .ok (.goto 4, 3) := by decide +kernel
theorem dX8_isBite_27 : decode cX8_isBite 27 = .ok (.iconst 0, 1) := by decide +kernel
theorem dX8_isBite_28 : decode cX8_isBite 28 = .ok (.ireturn, 1) := by decide +kernel
theorem dX8_ofSnake_0 : decode cX8_ofSnake 0 = .ok (.aload_n 0, 1) := by decide +kernel
theorem dX8_ofSnake_1 : decode cX8_ofSnake 1 = .ok (.getfield 7, 3) := by decide +kernel
theorem dX8_ofSnake_4 : decode cX8_ofSnake 4 = .ok (.sipush 352, 3) := by decide +kernel
theorem dX8_ofSnake_7 : decode cX8_ofSnake 7 = .ok (.iconst 4, 1) := by decide +kernel
theorem dX8_ofSnake_8 : decode cX8_ofSnake 8 = .ok (.iload_n 1, 1) := by decide +kernel
theorem dX8_ofSnake_9 : decode cX8_ofSnake 9 = .ok (.imul, 1) := by decide +kernel
theorem dX8_ofSnake_10 : decode cX8_ofSnake 10 = .ok (.iadd, 1) := by decide +kernel
theorem dX8_ofSnake_11 : decode cX8_ofSnake 11 = .ok (.iload_n 2, 1) := by decide +kernel
theorem dX8_ofSnake_12 : decode cX8_ofSnake 12 = .ok (.iadd, 1) := by decide +kernel
theorem dX8_ofSnake_13 : decode cX8_ofSnake 13 = .ok (.iaload, 1) := by decide +kernel
theorem dX8_ofSnake_14 : decode cX8_ofSnake 14 = .ok (.ireturn, 1) := by decide +kernel
theorem dX8_isSnake_0 : decode cX8_isSnake 0 = .ok (.iload_n 1, 1) := by decide +kernel
theorem dX8_isSnake_1 : decode cX8_isSnake 1 = .ok (.iconst 0, 1) := by decide +kernel
theorem dX8_isSnake_2 : decode cX8_isSnake 2 = .ok (.bipush 9, 2) := by decide +kernel
theorem dX8_isSnake_4 : decode cX8_isSnake 4 = .ok (.invokestatic 35, 3) := by decide +kernel
theorem dX8_isSnake_7 : decode cX8_isSnake 7 = .ok (.ifCond .eq 16, 3) := by decide +kernel
theorem dX8_isSnake_10 : decode cX8_isSnake 10 = .ok (.aload_n 0, 1) := by decide +kernel
theorem dX8_isSnake_11 : decode cX8_isSnake 11 = .ok (.iload_n 1, 1) := by decide +kernel
theorem dX8_isSnake_12 : decode cX8_isSnake 12 = .ok (.iconst 0, 1) := by decide +kernel
theorem dX8_isSnake_13 : decode cX8_isSnake 13 = .ok (.invokevirtual 47, 3) := by decide +kernel
theorem dX8_isSnake_16 : decode cX8_isSnake 16 = .ok (.ifCond .le 7, 3) := by decide +kernel
theorem dX8_isSnake_19 : decode cX8_isSnake 19 = .ok (.iconst 1, 1) := by decide +kernel
theorem dX8_isSnake_20 : decode cX8_isSnake 20 = .ok (.goto 4, 3) := by decide +kernel
theorem dX8_isSnake_23 : decode cX8_isSnake 23 = .ok (.iconst 0, 1) := by decide +kernel
theorem dX8_isSnake_24 : decode cX8_isSnake 24 = .ok (.ireturn, 1) := by decide +kernel
theorem dX8_isIn_0 : decode cX8_isIn 0 = .ok (.aload_n 0, 1) := by decide +kernel
theorem dX8_isIn_1 : decode cX8_isIn 1 = .ok (.iload_n 1, 1) := by decide +kernel
theorem dX8_isIn_2 : decode cX8_isIn 2 = .ok (.iconst 2, 1) := by decide +kernel
theorem dX8_isIn_3 : decode cX8_isIn 3 = .ok (.invokevirtual 43, 3) := by decide +kernel
theorem dX8_isIn_6 : decode cX8_isIn 6 = .ok (.ifCond .ne 7, 3) := by decide +kernel
theorem dX8_isIn_9 : decode cX8_isIn 9 = .ok (.iconst 1, 1) := by decide +kernel
theorem dX8_isIn_10 : decode cX8_isIn 10 = .ok (.goto 4, 3) := by decide +kernel
theorem dX8_isIn_13 : decode cX8_isIn 13 = .ok (.iconst 0, 1) := by decide +kernel
theorem dX8_isIn_14 : decode cX8_isIn 14 = .ok (.ireturn, 1) := by decide +kernel
theorem dX8_isOver_0 : decode cX8_isOver 0 = .ok (.aload_n 0, 1) := by decide +kernel
theorem dX8_isOver_1 : decode cX8_isOver 1 = .ok (.getfield 7, 3) := by decide +kernel
theorem dX8_isOver_4 : decode cX8_isOver 4 = .ok (.iconst 4, 1) := by decide +kernel
theorem dX8_isOver_5 : decode cX8_isOver 5 = .ok (.iaload, 1) := by decide +kernel
theorem dX8_isOver_6 : decode cX8_isOver 6 = .ok (.iconst 4, 1) := by decide +kernel
theorem dX8_isOver_7 : decode cX8_isOver 7 = .ok (.if_icmp .ne 7, 3) := by decide +kernel
theorem dX8_isOver_10 : decode cX8_isOver 10 = .ok (.iconst 1, 1) := by decide +kernel
theorem dX8_isOver_11 : decode cX8_isOver 11 = .ok (.goto 4, 3) := by decide +kernel
theorem dX8_isOver_14 : decode cX8_isOver 14 = .ok (.iconst 0, 1) := by decide +kernel
theorem dX8_isOver_15 : decode cX8_isOver 15 = .ok (.ireturn, 1) := by decide +kernel
theorem dX8_copy_0 : decode cX8_copy 0 = .ok (.iconst 0, 1) := by decide +kernel
theorem dX8_copy_1 : decode cX8_copy 1 = .ok (.istore 4, 2) := by decide +kernel
theorem dX8_copy_3 : decode cX8_copy 3 = .ok (.iload 4, 2) := by decide +kernel
theorem dX8_copy_5 : decode cX8_copy 5 = .ok (.sipush 392, 3) := by decide +kernel
theorem dX8_copy_8 : decode cX8_copy 8 = .ok (.if_icmp .ge 21, 3) := by decide +kernel
theorem dX8_copy_11 : decode cX8_copy 11 = .ok (.aload_n 2, 1) := by decide +kernel
theorem dX8_copy_12 : decode cX8_copy 12 = .ok (.iload_n 3, 1) := by decide +kernel
theorem dX8_copy_13 : decode cX8_copy 13 = .ok (.iload 4, 2) := by decide +kernel
theorem dX8_copy_15 : decode cX8_copy 15 = .ok (.iadd, 1) := by decide +kernel
theorem dX8_copy_16 : decode cX8_copy 16 = .ok (.aload_n 0, 1) := by decide +kernel
theorem dX8_copy_17 : decode cX8_copy 17 = .ok (.iload_n 1, 1) := by decide +kernel
theorem dX8_copy_18 : decode cX8_copy 18 = .ok (.iload 4, 2) := by decide +kernel
theorem dX8_copy_20 : decode cX8_copy 20 = .ok (.iadd, 1) := by decide +kernel
theorem dX8_copy_21 : decode cX8_copy 21 = .ok (.iaload, 1) := by decide +kernel
theorem dX8_copy_22 : decode cX8_copy 22 = .ok (.iastore, 1) := by decide +kernel
theorem dX8_copy_23 : decode cX8_copy 23 = .ok (.iinc 4 1, 3) := by decide +kernel
theorem dX8_copy_26 : decode cX8_copy 26 = .ok (.goto (-23), 3) := by decide +kernel
theorem dX8_copy_29 : decode cX8_copy 29 = .ok (.return_, 1) := by decide +kernel
theorem dX8_record_0 : decode cX8_record 0 = .ok (.aload_n 0, 1) := by decide +kernel
theorem dX8_record_1 : decode cX8_record 1 = .ok (.getfield 50, 3) := by decide +kernel
theorem dX8_record_4 : decode cX8_record 4 = .ok (.iconst 5, 1) := by decide +kernel
theorem dX8_record_5 : decode cX8_record 5 = .ok (.if_icmp .ne 44, 3) := by decide +kernel
theorem dX8_record_8 : decode cX8_record 8 = .ok (.iconst 0, 1) := by decide +kernel
theorem dX8_record_9 : decode cX8_record 9 = .ok (.istore_n 1, 1) := by decide +kernel
theorem dX8_record_10 : decode cX8_record 10 = .ok (.iload_n 1, 1) := by decide +kernel
theorem dX8_record_11 : decode cX8_record 11 = .ok (.sipush 1568, 3) := by decide +kernel
theorem dX8_record_14 : decode cX8_record 14 = .ok (.if_icmp .ge 25, 3) := by decide +kernel
theorem dX8_record_17 : decode cX8_record 17 = .ok (.aload_n 0, 1) := by decide +kernel
theorem dX8_record_18 : decode cX8_record 18 = .ok (.getfield 13, 3) := by decide +kernel
theorem dX8_record_21 : decode cX8_record 21 = .ok (.iload_n 1, 1) := by decide +kernel
theorem dX8_record_22 : decode cX8_record 22 = .ok (.aload_n 0, 1) := by decide +kernel
theorem dX8_record_23 : decode cX8_record 23 = .ok (.getfield 13, 3) := by decide +kernel
theorem dX8_record_26 : decode cX8_record 26 = .ok (.sipush 392, 3) := by decide +kernel
theorem dX8_record_29 : decode cX8_record 29 = .ok (.iload_n 1, 1) := by decide +kernel
theorem dX8_record_30 : decode cX8_record 30 = .ok (.iadd, 1) := by decide +kernel
theorem dX8_record_31 : decode cX8_record 31 = .ok (.iaload, 1) := by decide +kernel
theorem dX8_record_32 : decode cX8_record 32 = .ok (.iastore, 1) := by decide +kernel
theorem dX8_record_33 : decode cX8_record 33 = .ok (.iinc 1 1, 3) := by decide +kernel
theorem dX8_record_36 : decode cX8_record 36 = .ok (.goto (-26), 3) := by decide +kernel
theorem dX8_record_39 : decode cX8_record 39 = .ok (.aload_n 0, 1) := by decide +kernel
theorem dX8_record_40 : decode cX8_record 40 = .ok (.dup, 1) := by decide +kernel
theorem dX8_record_41 : decode cX8_record 41 = .ok (.getfield 50, 3) := by decide +kernel
theorem dX8_record_44 : decode cX8_record 44 = .ok (.iconst 1, 1) := by decide +kernel
theorem dX8_record_45 : decode cX8_record 45 = .ok (.isub, 1) := by decide +kernel
theorem dX8_record_46 : decode cX8_record 46 = .ok (.putfield 50, 3) := by decide +kernel
theorem dX8_record_49 : decode cX8_record 49 = .ok (.aload_n 0, 1) := by decide +kernel
theorem dX8_record_50 : decode cX8_record 50 = .ok (.getfield 7, 3) := by decide +kernel
theorem dX8_record_53 : decode cX8_record 53 = .ok (.iconst 0, 1) := by decide +kernel
theorem dX8_record_54 : decode cX8_record 54 = .ok (.aload_n 0, 1) := by decide +kernel
theorem dX8_record_55 : decode cX8_record 55 = .ok (.getfield 13, 3) := by decide +kernel
theorem dX8_record_58 : decode cX8_record 58 = .ok (.sipush 392, 3) := by decide +kernel
theorem dX8_record_61 : decode cX8_record 61 = .ok (.aload_n 0, 1) := by decide +kernel
theorem dX8_record_62 : decode cX8_record 62 = .ok (.getfield 50, 3) := by decide +kernel
theorem dX8_record_65 : decode cX8_record 65 = .ok (.imul, 1) := by decide +kernel
theorem dX8_record_66 : decode cX8_record 66 = .ok (.invokestatic 54, 3) := by decide +kernel
theorem dX8_record_69 : decode cX8_record 69 = .ok (.aload_n 0, 1) := by decide +kernel
theorem dX8_record_70 : decode cX8_record 70 = .ok (.dup, 1) := by decide +kernel
theorem dX8_record_71 : decode cX8_record 71 = .ok (.getfield 50, 3) := by decide +kernel
theorem dX8_record_74 : decode cX8_record 74 = .ok (.iconst 1, 1) := by decide +kernel
theorem dX8_record_75 : decode cX8_record 75 = .ok (.iadd, 1) := by decide +kernel
theorem dX8_record_76 : decode cX8_record 76 = .ok (.putfield 50, 3) := by decide +kernel
theorem dX8_record_79 : decode cX8_record 79 = .ok (.return_, 1) := by decide +kernel
theorem dX8_snakeAt_0 : decode cX8_snakeAt 0 = .ok (.bipush (-5), 2) := by decide +kernel
theorem dX8_snakeAt_2 : decode cX8_snakeAt 2 = .ok (.istore_n 2, 1) := by decide +kernel
theorem dX8_snakeAt_3 : decode cX8_snakeAt 3 = .ok (.iconst 0, 1) := by decide +kernel
theorem dX8_snakeAt_4 : decode cX8_snakeAt 4 = .ok (.istore_n 3, 1) := by decide +kernel
theorem dX8_snakeAt_5 : decode cX8_snakeAt 5 = .ok (.iload_n 3, 1) := by decide +kernel
theorem dX8_snakeAt_6 : decode cX8_snakeAt 6 = .ok (.bipush 10, 2) := by decide +kernel
theorem dX8_snakeAt_8 : decode cX8_snakeAt 8 = .ok (.if_icmp .ge 29, 3) := by decide +kernel
theorem dX8_snakeAt_11 : decode cX8_snakeAt 11 = .ok (.aload_n 0, 1) := by decide +kernel
theorem dX8_snakeAt_12 : decode cX8_snakeAt 12 = .ok (.iload_n 3, 1) := by decide +kernel
theorem dX8_snakeAt_13 : decode cX8_snakeAt 13 = .ok (.iconst 0, 1) := by decide +kernel
theorem dX8_snakeAt_14 : decode cX8_snakeAt 14 = .ok (.invokevirtual 47, 3) := by decide +kernel
theorem dX8_snakeAt_17 : decode cX8_snakeAt 17 = .ok (.iload_n 1, 1) := by decide +kernel
theorem dX8_snakeAt_18 : decode cX8_snakeAt 18 = .ok (.if_icmp .ne 11, 3) := by decide +kernel
theorem dX8_snakeAt_21 : decode cX8_snakeAt 21 = .ok (.iload_n 1, 1) := by decide +kernel
theorem dX8_snakeAt_22 : decode cX8_snakeAt 22 = .ok (.ifCond .le 7, 3) := by decide +kernel
theorem dX8_snakeAt_25 : decode cX8_snakeAt 25 = .ok (.iload_n 3, 1) := by decide +kernel
theorem dX8_snakeAt_26 : decode cX8_snakeAt 26 = .ok (.goto 4, 3) := by decide +kernel
theorem dX8_snakeAt_29 : decode cX8_snakeAt 29 = .ok (.iload_n 2, 1) := by decide +kernel
theorem dX8_snakeAt_30 : decode cX8_snakeAt 30 = .ok (.istore_n 2, 1) := by decide +kernel
theorem dX8_snakeAt_31 : decode cX8_snakeAt 31 = .ok (.iinc 3 1, 3) := by decide +kernel
theorem dX8_snakeAt_34 : decode cX8_snakeAt 34 = .ok (.goto (-29), 3) := by decide +kernel
theorem dX8_snakeAt_37 : decode cX8_snakeAt 37 = .ok (.iload_n 2, 1) := by decide +kernel
theorem dX8_snakeAt_38 : decode cX8_snakeAt 38 = .ok (.ireturn, 1) := by decide +kernel
theorem dX8_snakes_0 : decode cX8_snakes 0 = .ok (.iconst 0, 1) := by decide +kernel
theorem dX8_snakes_1 : decode cX8_snakes 1 = .ok (.istore_n 1, 1) := by decide +kernel
theorem dX8_snakes_2 : decode cX8_snakes 2 = .ok (.iconst 0, 1) := by decide +kernel
theorem dX8_snakes_3 : decode cX8_snakes 3 = .ok (.istore_n 2, 1) := by decide +kernel
theorem dX8_snakes_4 : decode cX8_snakes 4 = .ok (.iload_n 2, 1) := by decide +kernel
theorem dX8_snakes_5 : decode cX8_snakes 5 = .ok (.bipush 10, 2) := by decide +kernel
theorem dX8_snakes_7 : decode cX8_snakes 7 = .ok (.if_icmp .ge 26, 3) := by decide +kernel
theorem dX8_snakes_10 : decode cX8_snakes 10 = .ok (.iload_n 1, 1) := by decide +kernel
theorem dX8_snakes_11 : decode cX8_snakes 11 = .ok (.aload_n 0, 1) := by decide +kernel
theorem dX8_snakes_12 : decode cX8_snakes 12 = .ok (.iload_n 2, 1) := by decide +kernel
theorem dX8_snakes_13 : decode cX8_snakes 13 = .ok (.iconst 0, 1) := by decide +kernel
theorem dX8_snakes_14 : decode cX8_snakes 14 = .ok (.invokevirtual 47, 3) := by decide +kernel
theorem dX8_snakes_17 : decode cX8_snakes 17 = .ok (.ifCond .le 7, 3) := by decide +kernel
theorem dX8_snakes_20 : decode cX8_snakes 20 = .ok (.iconst 1, 1) := by decide +kernel
theorem dX8_snakes_21 : decode cX8_snakes 21 = .ok (.goto 4, 3) := by decide +kernel
theorem dX8_snakes_24 : decode cX8_snakes 24 = .ok (.iconst 0, 1) := by decide +kernel
theorem dX8_snakes_25 : decode cX8_snakes 25 = .ok (.iadd, 1) := by decide +kernel
theorem dX8_snakes_26 : decode cX8_snakes 26 = .ok (.istore_n 1, 1) := by decide +kernel
theorem dX8_snakes_27 : decode cX8_snakes 27 = .ok (.iinc 2 1, 3) := by decide +kernel
theorem dX8_snakes_30 : decode cX8_snakes 30 = .ok (.goto (-26), 3) := by decide +kernel
theorem dX8_snakes_33 : decode cX8_snakes 33 = .ok (.iload_n 1, 1) := by decide +kernel
theorem dX8_snakes_34 : decode cX8_snakes 34 = .ok (.ireturn, 1) := by decide +kernel
theorem dX8_goOn_0 : decode cX8_goOn 0 = .ok (.iload_n 0, 1) := by decide +kernel
theorem dX8_goOn_1 : decode cX8_goOn 1 = .ok (.iload_n 1, 1) := by decide +kernel
theorem dX8_goOn_2 : decode cX8_goOn 2 = .ok (.iadd, 1) := by decide +kernel
theorem dX8_goOn_3 : decode cX8_goOn 3 = .ok (.bipush 60, 2) := by decide +kernel
theorem dX8_goOn_5 : decode cX8_goOn 5 = .ok (.if_icmp .le 12, 3) := by decide +kernel
theorem dX8_goOn_8 : decode cX8_goOn 8 = .ok (.bipush 120, 2) := by decide +kernel
theorem dX8_goOn_10 : decode cX8_goOn 10 = .ok (.iload_n 0, 1) := by decide +kernel
theorem dX8_goOn_11 : decode cX8_goOn 11 = .ok (.isub, 1) := by decide +kernel
theorem dX8_goOn_12 : decode cX8_goOn 12 = .ok (.iload_n 1, 1) := by decide +kernel
theorem dX8_goOn_13 : decode cX8_goOn 13 = .ok (.isub, 1) := by decide +kernel
theorem dX8_goOn_14 : decode cX8_goOn 14 = .ok (.goto 6, 3) := by decide +kernel
theorem dX8_goOn_17 : decode cX8_goOn 17 = .ok (.iload_n 0, 1) := by decide +kernel
theorem dX8_goOn_18 : decode cX8_goOn 18 = .ok (.iload_n 1, 1) := by decide +kernel
theorem dX8_goOn_19 : decode cX8_goOn 19 = .ok (.iadd, 1) := by decide +kernel
theorem dX8_goOn_20 : decode cX8_goOn 20 = .ok (.ireturn, 1) := by decide +kernel
theorem dX8_hurts_0 : decode cX8_hurts 0 = .ok (.iconst 0, 1) := by decide +kernel
theorem dX8_hurts_1 : decode cX8_hurts 1 = .ok (.istore_n 2, 1) := by decide +kernel
theorem dX8_hurts_2 : decode cX8_hurts 2 = .ok (.iconst 0, 1) := by decide +kernel
theorem dX8_hurts_3 : decode cX8_hurts 3 = .ok (.istore_n 3, 1) := by decide +kernel
theorem dX8_hurts_4 : decode cX8_hurts 4 = .ok (.iload_n 3, 1) := by decide +kernel
theorem dX8_hurts_5 : decode cX8_hurts 5 = .ok (.aload_n 0, 1) := by decide +kernel
theorem dX8_hurts_6 : decode cX8_hurts 6 = .ok (.iload_n 1, 1) := by decide +kernel
theorem dX8_hurts_7 : decode cX8_hurts 7 = .ok (.iconst 5, 1) := by decide +kernel
theorem dX8_hurts_8 : decode cX8_hurts 8 = .ok (.invokevirtual 43, 3) := by decide +kernel
theorem dX8_hurts_11 : decode cX8_hurts 11 = .ok (.if_icmp .ge 24, 3) := by decide +kernel
theorem dX8_hurts_14 : decode cX8_hurts 14 = .ok (.iload_n 2, 1) := by decide +kernel
theorem dX8_hurts_15 : decode cX8_hurts 15 = .ok (.aload_n 0, 1) := by decide +kernel
theorem dX8_hurts_16 : decode cX8_hurts 16 = .ok (.getfield 7, 3) := by decide +kernel
theorem dX8_hurts_19 : decode cX8_hurts 19 = .ok (.iload_n 1, 1) := by decide +kernel
theorem dX8_hurts_20 : decode cX8_hurts 20 = .ok (.iload_n 3, 1) := by decide +kernel
theorem dX8_hurts_21 : decode cX8_hurts 21 = .ok (.invokestatic 58, 3) := by decide +kernel
theorem dX8_hurts_24 : decode cX8_hurts 24 = .ok (.iconst 0, 1) := by decide +kernel
theorem dX8_hurts_25 : decode cX8_hurts 25 = .ok (.iadd, 1) := by decide +kernel
theorem dX8_hurts_26 : decode cX8_hurts 26 = .ok (.iaload, 1) := by decide +kernel
theorem dX8_hurts_27 : decode cX8_hurts 27 = .ok (.iadd, 1) := by decide +kernel
theorem dX8_hurts_28 : decode cX8_hurts 28 = .ok (.istore_n 2, 1) := by decide +kernel
theorem dX8_hurts_29 : decode cX8_hurts 29 = .ok (.iinc 3 1, 3) := by decide +kernel
theorem dX8_hurts_32 : decode cX8_hurts 32 = .ok (.goto (-28), 3) := by decide +kernel
theorem dX8_hurts_35 : decode cX8_hurts 35 = .ok (.iload_n 2, 1) := by decide +kernel
theorem dX8_hurts_36 : decode cX8_hurts 36 = .ok (.ireturn, 1) := by decide +kernel
theorem dX8_beginsAt_0 : decode cX8_beginsAt 0 = .ok (.aload_n 0, 1) := by decide +kernel
theorem dX8_beginsAt_1 : decode cX8_beginsAt 1 = .ok (.iload_n 1, 1) := by decide +kernel
theorem dX8_beginsAt_2 : decode cX8_beginsAt 2 = .ok (.iconst 0, 1) := by decide +kernel
theorem dX8_beginsAt_3 : decode cX8_beginsAt 3 = .ok (.invokevirtual 43, 3) := by decide +kernel
theorem dX8_beginsAt_6 : decode cX8_beginsAt 6 = .ok (.aload_n 0, 1) := by decide +kernel
theorem dX8_beginsAt_7 : decode cX8_beginsAt 7 = .ok (.iload_n 1, 1) := by decide +kernel
theorem dX8_beginsAt_8 : decode cX8_beginsAt 8 = .ok (.invokevirtual 61, 3) := by decide +kernel
theorem dX8_beginsAt_11 : decode cX8_beginsAt 11 = .ok (.isub, 1) := by decide +kernel
theorem dX8_beginsAt_12 : decode cX8_beginsAt 12 = .ok (.istore_n 2, 1) := by decide +kernel
theorem dX8_beginsAt_13 : decode cX8_beginsAt 13 = .ok (.iload_n 2, 1) := by decide +kernel
theorem dX8_beginsAt_14 : decode cX8_beginsAt 14 = .ok (.ifCond .ge 7, 3) := by decide +kernel
theorem dX8_beginsAt_17 : decode cX8_beginsAt 17 = .ok (.iconst 0, 1) := by decide +kernel
theorem dX8_beginsAt_18 : decode cX8_beginsAt 18 = .ok (.goto 4, 3) := by decide +kernel
theorem dX8_beginsAt_21 : decode cX8_beginsAt 21 = .ok (.iload_n 2, 1) := by decide +kernel
theorem dX8_beginsAt_22 : decode cX8_beginsAt 22 = .ok (.ireturn, 1) := by decide +kernel
theorem dX8_piecesAt_0 : decode cX8_piecesAt 0 = .ok (.iconst 0, 1) := by decide +kernel
theorem dX8_piecesAt_1 : decode cX8_piecesAt 1 = .ok (.istore_n 2, 1) := by decide +kernel
theorem dX8_piecesAt_2 : decode cX8_piecesAt 2 = .ok (.iconst 0, 1) := by decide +kernel
theorem dX8_piecesAt_3 : decode cX8_piecesAt 3 = .ok (.istore_n 3, 1) := by decide +kernel
theorem dX8_piecesAt_4 : decode cX8_piecesAt 4 = .ok (.iload_n 3, 1) := by decide +kernel
theorem dX8_piecesAt_5 : decode cX8_piecesAt 5 = .ok (.iconst 4, 1) := by decide +kernel
theorem dX8_piecesAt_6 : decode cX8_piecesAt 6 = .ok (.if_icmp .ge 29, 3) := by decide +kernel
theorem dX8_piecesAt_9 : decode cX8_piecesAt 9 = .ok (.iload_n 2, 1) := by decide +kernel
theorem dX8_piecesAt_10 : decode cX8_piecesAt 10 = .ok (.aload_n 0, 1) := by decide +kernel
theorem dX8_piecesAt_11 : decode cX8_piecesAt 11 = .ok (.iload_n 3, 1) := by decide +kernel
theorem dX8_piecesAt_12 : decode cX8_piecesAt 12 = .ok (.iconst 0, 1) := by decide +kernel
theorem dX8_piecesAt_13 : decode cX8_piecesAt 13 = .ok (.invokevirtual 43, 3) := by decide +kernel
theorem dX8_piecesAt_16 : decode cX8_piecesAt 16 = .ok (.iload_n 1, 1) := by decide +kernel
theorem dX8_piecesAt_17 : decode cX8_piecesAt 17 = .ok (.if_icmp .ne 9, 3) := by decide +kernel
theorem dX8_piecesAt_20 : decode cX8_piecesAt 20 = .ok (.iconst 1, 1) := by decide +kernel
theorem dX8_piecesAt_21 : decode cX8_piecesAt 21 = .ok (.iload_n 3, 1) := by decide +kernel
theorem dX8_piecesAt_22 : decode cX8_piecesAt 22 = .ok (.ishl, 1) := by decide +kernel
theorem dX8_piecesAt_23 : decode cX8_piecesAt 23 = .ok (.goto 4, 3) := by decide +kernel
theorem dX8_piecesAt_26 : decode cX8_piecesAt 26 = .ok (.iconst 0, 1) := by decide +kernel
theorem dX8_piecesAt_27 : decode cX8_piecesAt 27 = .ok (.ior, 1) := by decide +kernel
theorem dX8_piecesAt_28 : decode cX8_piecesAt 28 = .ok (.istore_n 2, 1) := by decide +kernel
theorem dX8_piecesAt_29 : decode cX8_piecesAt 29 = .ok (.iinc 3 1, 3) := by decide +kernel
theorem dX8_piecesAt_32 : decode cX8_piecesAt 32 = .ok (.goto (-28), 3) := by decide +kernel
theorem dX8_piecesAt_35 : decode cX8_piecesAt 35 = .ok (.iload_n 2, 1) := by decide +kernel
theorem dX8_piecesAt_36 : decode cX8_piecesAt 36 = .ok (.ireturn, 1) := by decide +kernel
theorem dX8_bites_0 : decode cX8_bites 0 = .ok (.aload_n 0, 1) := by decide +kernel
theorem dX8_bites_1 : decode cX8_bites 1 = .ok (.iload_n 2, 1) := by decide +kernel
theorem dX8_bites_2 : decode cX8_bites 2 = .ok (.invokevirtual 65, 3) := by decide +kernel
theorem dX8_bites_5 : decode cX8_bites 5 = .ok (.istore_n 3, 1) := by decide +kernel
theorem dX8_bites_6 : decode cX8_bites 6 = .ok (.iload_n 3, 1) := by decide +kernel
theorem dX8_bites_7 : decode cX8_bites 7 = .ok (.bipush (-5), 2) := by decide +kernel
theorem dX8_bites_9 : decode cX8_bites 9 = .ok (.if_icmp .eq 30, 3) := by decide +kernel
theorem dX8_bites_12 : decode cX8_bites 12 = .ok (.aload_n 0, 1) := by decide +kernel
theorem dX8_bites_13 : decode cX8_bites 13 = .ok (.iload_n 3, 1) := by decide +kernel
theorem dX8_bites_14 : decode cX8_bites 14 = .ok (.iconst 2, 1) := by decide +kernel
theorem dX8_bites_15 : decode cX8_bites 15 = .ok (.invokevirtual 47, 3) := by decide +kernel
theorem dX8_bites_18 : decode cX8_bites 18 = .ok (.ifCond .ne 21, 3) := by decide +kernel
theorem dX8_bites_21 : decode cX8_bites 21 = .ok (.aload_n 0, 1) := by decide +kernel
theorem dX8_bites_22 : decode cX8_bites 22 = .ok (.iload_n 2, 1) := by decide +kernel
theorem dX8_bites_23 : decode cX8_bites 23 = .ok (.invokevirtual 68, 3) := by decide +kernel
theorem dX8_bites_26 : decode cX8_bites 26 = .ok (.iconst 1, 1) := by decide +kernel
theorem dX8_bites_27 : decode cX8_bites 27 = .ok (.iload_n 1, 1) := by decide +kernel
theorem dX8_bites_28 : decode cX8_bites 28 = .ok (.ishl, 1) := by decide +kernel
theorem dX8_bites_29 : decode cX8_bites 29 = .ok (.iconst (-1), 1) := by decide +kernel
theorem dX8_bites_30 : decode cX8_bites 30 = .ok (.ixor, 1) := by decide +kernel
theorem dX8_bites_31 : decode cX8_bites 31 = .ok (.iand, 1) := by decide +kernel
theorem dX8_bites_32 : decode cX8_bites 32 = .ok (.ifCond .ne 7, 3) := by decide +kernel
theorem dX8_bites_35 : decode cX8_bites 35 = .ok (.iconst 1, 1) := by decide +kernel
theorem dX8_bites_36 : decode cX8_bites 36 = .ok (.goto 4, 3) := by decide +kernel
theorem dX8_bites_39 : decode cX8_bites 39 = .ok (.iconst 0, 1) := by decide +kernel
theorem dX8_bites_40 : decode cX8_bites 40 = .ok (.ireturn, 1) := by decide +kernel
theorem dX8_getBite_0 : decode cX8_getBite 0 = .ok (.iload_n 1, 1) := by decide +kernel
theorem dX8_getBite_1 : decode cX8_getBite 1 = .ok (.aload_n 0, 1) := by decide +kernel
theorem dX8_getBite_2 : decode cX8_getBite 2 = .ok (.iload_n 1, 1) := by decide +kernel
theorem dX8_getBite_3 : decode cX8_getBite 3 = .ok (.iconst 5, 1) := by decide +kernel
theorem dX8_getBite_4 : decode cX8_getBite 4 = .ok (.invokevirtual 43, 3) := by decide +kernel
theorem dX8_getBite_7 : decode cX8_getBite 7 = .ok (.invokestatic 58, 3) := by decide +kernel
theorem dX8_getBite_10 : decode cX8_getBite 10 = .ok (.istore_n 3, 1) := by decide +kernel
theorem dX8_getBite_11 : decode cX8_getBite 11 = .ok (.aload_n 0, 1) := by decide +kernel
theorem dX8_getBite_12 : decode cX8_getBite 12 = .ok (.getfield 7, 3) := by decide +kernel
theorem dX8_getBite_15 : decode cX8_getBite 15 = .ok (.iload_n 3, 1) := by decide +kernel
theorem dX8_getBite_16 : decode cX8_getBite 16 = .ok (.iconst 0, 1) := by decide +kernel
theorem dX8_getBite_17 : decode cX8_getBite 17 = .ok (.iadd, 1) := by decide +kernel
theorem dX8_getBite_18 : decode cX8_getBite 18 = .ok (.iload_n 2, 1) := by decide +kernel
theorem dX8_getBite_19 : decode cX8_getBite 19 = .ok (.iastore, 1) := by decide +kernel
theorem dX8_getBite_20 : decode cX8_getBite 20 = .ok (.aload_n 0, 1) := by decide +kernel
theorem dX8_getBite_21 : decode cX8_getBite 21 = .ok (.getfield 7, 3) := by decide +kernel
theorem dX8_getBite_24 : decode cX8_getBite 24 = .ok (.iload_n 3, 1) := by decide +kernel
theorem dX8_getBite_25 : decode cX8_getBite 25 = .ok (.iconst 1, 1) := by decide +kernel
theorem dX8_getBite_26 : decode cX8_getBite 26 = .ok (.iadd, 1) := by decide +kernel
theorem dX8_getBite_27 : decode cX8_getBite 27 = .ok (.iconst 0, 1) := by decide +kernel
theorem dX8_getBite_28 : decode cX8_getBite 28 = .ok (.iastore, 1) := by decide +kernel
theorem dX8_getBite_29 : decode cX8_getBite 29 = .ok (.aload_n 0, 1) := by decide +kernel
theorem dX8_getBite_30 : decode cX8_getBite 30 = .ok (.getfield 7, 3) := by decide +kernel
theorem dX8_getBite_33 : decode cX8_getBite 33 = .ok (.iload_n 3, 1) := by decide +kernel
theorem dX8_getBite_34 : decode cX8_getBite 34 = .ok (.iconst 2, 1) := by decide +kernel
theorem dX8_getBite_35 : decode cX8_getBite 35 = .ok (.iadd, 1) := by decide +kernel
theorem dX8_getBite_36 : decode cX8_getBite 36 = .ok (.iload_n 1, 1) := by decide +kernel
theorem dX8_getBite_37 : decode cX8_getBite 37 = .ok (.iastore, 1) := by decide +kernel
theorem dX8_getBite_38 : decode cX8_getBite 38 = .ok (.aload_n 0, 1) := by decide +kernel
theorem dX8_getBite_39 : decode cX8_getBite 39 = .ok (.getfield 7, 3) := by decide +kernel
theorem dX8_getBite_42 : decode cX8_getBite 42 = .ok (.iload_n 3, 1) := by decide +kernel
theorem dX8_getBite_43 : decode cX8_getBite 43 = .ok (.iconst 3, 1) := by decide +kernel
theorem dX8_getBite_44 : decode cX8_getBite 44 = .ok (.iadd, 1) := by decide +kernel
theorem dX8_getBite_45 : decode cX8_getBite 45 = .ok (.iconst 1, 1) := by decide +kernel
theorem dX8_getBite_46 : decode cX8_getBite 46 = .ok (.iload_n 1, 1) := by decide +kernel
theorem dX8_getBite_47 : decode cX8_getBite 47 = .ok (.ishl, 1) := by decide +kernel
theorem dX8_getBite_48 : decode cX8_getBite 48 = .ok (.iastore, 1) := by decide +kernel
theorem dX8_getBite_49 : decode cX8_getBite 49 = .ok (.aload_n 0, 1) := by decide +kernel
theorem dX8_getBite_50 : decode cX8_getBite 50 = .ok (.iload_n 1, 1) := by decide +kernel
theorem dX8_getBite_51 : decode cX8_getBite 51 = .ok (.iconst 5, 1) := by decide +kernel
theorem dX8_getBite_52 : decode cX8_getBite 52 = .ok (.iconst 1, 1) := by decide +kernel
theorem dX8_getBite_53 : decode cX8_getBite 53 = .ok (.invokevirtual 71, 3) := by decide +kernel
theorem dX8_getBite_56 : decode cX8_getBite 56 = .ok (.aload_n 0, 1) := by decide +kernel
theorem dX8_getBite_57 : decode cX8_getBite 57 = .ok (.iload_n 1, 1) := by decide +kernel
theorem dX8_getBite_58 : decode cX8_getBite 58 = .ok (.iconst 3, 1) := by decide +kernel
theorem dX8_getBite_59 : decode cX8_getBite 59 = .ok (.iconst 1, 1) := by decide +kernel
theorem dX8_getBite_60 : decode cX8_getBite 60 = .ok (.invokevirtual 71, 3) := by decide +kernel
theorem dX8_getBite_63 : decode cX8_getBite 63 = .ok (.aload_n 0, 1) := by decide +kernel
theorem dX8_getBite_64 : decode cX8_getBite 64 = .ok (.getfield 7, 3) := by decide +kernel
theorem dX8_getBite_67 : decode cX8_getBite 67 = .ok (.iconst 2, 1) := by decide +kernel
theorem dX8_getBite_68 : decode cX8_getBite 68 = .ok (.dup2, 1) := by decide +kernel
theorem dX8_getBite_69 : decode cX8_getBite 69 = .ok (.iaload, 1) := by decide +kernel
theorem dX8_getBite_70 : decode cX8_getBite 70 = .ok (.iconst 1, 1) := by decide +kernel
theorem dX8_getBite_71 : decode cX8_getBite 71 = .ok (.iadd, 1) := by decide +kernel
theorem dX8_getBite_72 : decode cX8_getBite 72 = .ok (.iastore, 1) := by decide +kernel
theorem dX8_getBite_73 : decode cX8_getBite 73 = .ok (.return_, 1) := by decide +kernel
theorem dX8_beBitten_0 : decode cX8_beBitten 0 = .ok (.sipush 352, 3) := by decide +kernel
theorem dX8_beBitten_3 : decode cX8_beBitten 3 = .ok (.iconst 4, 1) := by decide +kernel
theorem dX8_beBitten_4 : decode cX8_beBitten 4 = .ok (.aload_n 0, 1) := by decide +kernel
theorem dX8_beBitten_5 : decode cX8_beBitten 5 = .ok (.iload_n 2, 1) := by decide +kernel
theorem dX8_beBitten_6 : decode cX8_beBitten 6 = .ok (.invokevirtual 65, 3) := by decide +kernel
theorem dX8_beBitten_9 : decode cX8_beBitten 9 = .ok (.imul, 1) := by decide +kernel
theorem dX8_beBitten_10 : decode cX8_beBitten 10 = .ok (.iadd, 1) := by decide +kernel
theorem dX8_beBitten_11 : decode cX8_beBitten 11 = .ok (.istore_n 3, 1) := by decide +kernel
theorem dX8_beBitten_12 : decode cX8_beBitten 12 = .ok (.aload_n 0, 1) := by decide +kernel
theorem dX8_beBitten_13 : decode cX8_beBitten 13 = .ok (.iload_n 1, 1) := by decide +kernel
theorem dX8_beBitten_14 : decode cX8_beBitten 14 = .ok (.aload_n 0, 1) := by decide +kernel
theorem dX8_beBitten_15 : decode cX8_beBitten 15 = .ok (.getfield 7, 3) := by decide +kernel
theorem dX8_beBitten_18 : decode cX8_beBitten 18 = .ok (.iload_n 3, 1) := by decide +kernel
theorem dX8_beBitten_19 : decode cX8_beBitten 19 = .ok (.iconst 0, 1) := by decide +kernel
theorem dX8_beBitten_20 : decode cX8_beBitten 20 = .ok (.iadd, 1) := by decide +kernel
theorem dX8_beBitten_21 : decode cX8_beBitten 21 = .ok (.iaload, 1) := by decide +kernel
theorem dX8_beBitten_22 : decode cX8_beBitten 22 = .ok (.aload_n 0, 1) := by decide +kernel
theorem dX8_beBitten_23 : decode cX8_beBitten 23 = .ok (.getfield 7, 3) := by decide +kernel
theorem dX8_beBitten_26 : decode cX8_beBitten 26 = .ok (.iload_n 3, 1) := by decide +kernel
theorem dX8_beBitten_27 : decode cX8_beBitten 27 = .ok (.iconst 1, 1) := by decide +kernel
theorem dX8_beBitten_28 : decode cX8_beBitten 28 = .ok (.iadd, 1) := by decide +kernel
theorem dX8_beBitten_29 : decode cX8_beBitten 29 = .ok (.iaload, 1) := by decide +kernel
theorem dX8_beBitten_30 : decode cX8_beBitten 30 = .ok (.isub, 1) := by decide +kernel
theorem dX8_beBitten_31 : decode cX8_beBitten 31 = .ok (.invokevirtual 75, 3) := by decide +kernel
theorem dX8_beBitten_34 : decode cX8_beBitten 34 = .ok (.aload_n 0, 1) := by decide +kernel
theorem dX8_beBitten_35 : decode cX8_beBitten 35 = .ok (.getfield 7, 3) := by decide +kernel
theorem dX8_beBitten_38 : decode cX8_beBitten 38 = .ok (.iload_n 3, 1) := by decide +kernel
theorem dX8_beBitten_39 : decode cX8_beBitten 39 = .ok (.iconst 2, 1) := by decide +kernel
theorem dX8_beBitten_40 : decode cX8_beBitten 40 = .ok (.iadd, 1) := by decide +kernel
theorem dX8_beBitten_41 : decode cX8_beBitten 41 = .ok (.aload_n 0, 1) := by decide +kernel
theorem dX8_beBitten_42 : decode cX8_beBitten 42 = .ok (.getfield 7, 3) := by decide +kernel
theorem dX8_beBitten_45 : decode cX8_beBitten 45 = .ok (.iconst 5, 1) := by decide +kernel
theorem dX8_beBitten_46 : decode cX8_beBitten 46 = .ok (.iaload, 1) := by decide +kernel
theorem dX8_beBitten_47 : decode cX8_beBitten 47 = .ok (.iconst 1, 1) := by decide +kernel
theorem dX8_beBitten_48 : decode cX8_beBitten 48 = .ok (.iadd, 1) := by decide +kernel
theorem dX8_beBitten_49 : decode cX8_beBitten 49 = .ok (.iastore, 1) := by decide +kernel
theorem dX8_beBitten_50 : decode cX8_beBitten 50 = .ok (.aload_n 0, 1) := by decide +kernel
theorem dX8_beBitten_51 : decode cX8_beBitten 51 = .ok (.getfield 7, 3) := by decide +kernel
theorem dX8_beBitten_54 : decode cX8_beBitten 54 = .ok (.iload_n 3, 1) := by decide +kernel
theorem dX8_beBitten_55 : decode cX8_beBitten 55 = .ok (.iconst 3, 1) := by decide +kernel
theorem dX8_beBitten_56 : decode cX8_beBitten 56 = .ok (.iadd, 1) := by decide +kernel
theorem dX8_beBitten_57 : decode cX8_beBitten 57 = .ok (.dup2, 1) := by decide +kernel
theorem dX8_beBitten_58 : decode cX8_beBitten 58 = .ok (.iaload, 1) := by decide +kernel
theorem dX8_beBitten_59 : decode cX8_beBitten 59 = .ok (.iconst 1, 1) := by decide +kernel
theorem dX8_beBitten_60 : decode cX8_beBitten 60 = .ok (.iadd, 1) := by decide +kernel
theorem dX8_beBitten_61 : decode cX8_beBitten 61 = .ok (.iastore, 1) := by decide +kernel
theorem dX8_beBitten_62 : decode cX8_beBitten 62 = .ok (.return_, 1) := by decide +kernel
theorem dX8_doTurn_0 : decode cX8_doTurn 0 = .ok (.aload_n 0, 1) := by decide +kernel
theorem dX8_doTurn_1 : decode cX8_doTurn 1 = .ok (.getfield 7, 3) := by decide +kernel
theorem dX8_doTurn_4 : decode cX8_doTurn 4 = .ok (.iconst 1, 1) := by decide +kernel
theorem dX8_doTurn_5 : decode cX8_doTurn 5 = .ok (.iaload, 1) := by decide +kernel
theorem dX8_doTurn_6 : decode cX8_doTurn 6 = .ok (.istore_n 2, 1) := by decide +kernel
theorem dX8_doTurn_7 : decode cX8_doTurn 7 = .ok (.aload_n 0, 1) := by decide +kernel
theorem dX8_doTurn_8 : decode cX8_doTurn 8 = .ok (.iload_n 2, 1) := by decide +kernel
theorem dX8_doTurn_9 : decode cX8_doTurn 9 = .ok (.invokevirtual 79, 3) := by decide +kernel
theorem dX8_doTurn_12 : decode cX8_doTurn 12 = .ok (.istore_n 3, 1) := by decide +kernel
theorem dX8_doTurn_13 : decode cX8_doTurn 13 = .ok (.aload_n 0, 1) := by decide +kernel
theorem dX8_doTurn_14 : decode cX8_doTurn 14 = .ok (.iload_n 2, 1) := by decide +kernel
theorem dX8_doTurn_15 : decode cX8_doTurn 15 = .ok (.iconst 4, 1) := by decide +kernel
theorem dX8_doTurn_16 : decode cX8_doTurn 16 = .ok (.aload_n 0, 1) := by decide +kernel
theorem dX8_doTurn_17 : decode cX8_doTurn 17 = .ok (.iload_n 2, 1) := by decide +kernel
theorem dX8_doTurn_18 : decode cX8_doTurn 18 = .ok (.iconst 0, 1) := by decide +kernel
theorem dX8_doTurn_19 : decode cX8_doTurn 19 = .ok (.invokevirtual 43, 3) := by decide +kernel
theorem dX8_doTurn_22 : decode cX8_doTurn 22 = .ok (.iload_n 3, 1) := by decide +kernel
theorem dX8_doTurn_23 : decode cX8_doTurn 23 = .ok (.isub, 1) := by decide +kernel
theorem dX8_doTurn_24 : decode cX8_doTurn 24 = .ok (.invokevirtual 71, 3) := by decide +kernel
theorem dX8_doTurn_27 : decode cX8_doTurn 27 = .ok (.aload_n 0, 1) := by decide +kernel
theorem dX8_doTurn_28 : decode cX8_doTurn 28 = .ok (.iload_n 2, 1) := by decide +kernel
theorem dX8_doTurn_29 : decode cX8_doTurn 29 = .ok (.iconst 5, 1) := by decide +kernel
theorem dX8_doTurn_30 : decode cX8_doTurn 30 = .ok (.aload_n 0, 1) := by decide +kernel
theorem dX8_doTurn_31 : decode cX8_doTurn 31 = .ok (.iload_n 2, 1) := by decide +kernel
theorem dX8_doTurn_32 : decode cX8_doTurn 32 = .ok (.iconst 5, 1) := by decide +kernel
theorem dX8_doTurn_33 : decode cX8_doTurn 33 = .ok (.invokevirtual 43, 3) := by decide +kernel
theorem dX8_doTurn_36 : decode cX8_doTurn 36 = .ok (.ineg, 1) := by decide +kernel
theorem dX8_doTurn_37 : decode cX8_doTurn 37 = .ok (.invokevirtual 71, 3) := by decide +kernel
theorem dX8_doTurn_40 : decode cX8_doTurn 40 = .ok (.iload_n 3, 1) := by decide +kernel
theorem dX8_doTurn_41 : decode cX8_doTurn 41 = .ok (.iload_n 1, 1) := by decide +kernel
theorem dX8_doTurn_42 : decode cX8_doTurn 42 = .ok (.invokestatic 82, 3) := by decide +kernel
theorem dX8_doTurn_45 : decode cX8_doTurn 45 = .ok (.istore 4, 2) := by decide +kernel
theorem dX8_doTurn_47 : decode cX8_doTurn 47 = .ok (.aload_n 0, 1) := by decide +kernel
theorem dX8_doTurn_48 : decode cX8_doTurn 48 = .ok (.iload_n 2, 1) := by decide +kernel
theorem dX8_doTurn_49 : decode cX8_doTurn 49 = .ok (.iconst 0, 1) := by decide +kernel
theorem dX8_doTurn_50 : decode cX8_doTurn 50 = .ok (.iload 4, 2) := by decide +kernel
theorem dX8_doTurn_52 : decode cX8_doTurn 52 = .ok (.aload_n 0, 1) := by decide +kernel
theorem dX8_doTurn_53 : decode cX8_doTurn 53 = .ok (.iload_n 2, 1) := by decide +kernel
theorem dX8_doTurn_54 : decode cX8_doTurn 54 = .ok (.iconst 0, 1) := by decide +kernel
theorem dX8_doTurn_55 : decode cX8_doTurn 55 = .ok (.invokevirtual 43, 3) := by decide +kernel
theorem dX8_doTurn_58 : decode cX8_doTurn 58 = .ok (.isub, 1) := by decide +kernel
theorem dX8_doTurn_59 : decode cX8_doTurn 59 = .ok (.invokevirtual 71, 3) := by decide +kernel
theorem dX8_doTurn_62 : decode cX8_doTurn 62 = .ok (.aload_n 0, 1) := by decide +kernel
theorem dX8_doTurn_63 : decode cX8_doTurn 63 = .ok (.iload_n 2, 1) := by decide +kernel
theorem dX8_doTurn_64 : decode cX8_doTurn 64 = .ok (.iload 4, 2) := by decide +kernel
theorem dX8_doTurn_66 : decode cX8_doTurn 66 = .ok (.invokevirtual 85, 3) := by decide +kernel
theorem dX8_doTurn_69 : decode cX8_doTurn 69 = .ok (.ifCond .eq 10, 3) := by decide +kernel
theorem dX8_doTurn_72 : decode cX8_doTurn 72 = .ok (.aload_n 0, 1) := by decide +kernel
theorem dX8_doTurn_73 : decode cX8_doTurn 73 = .ok (.iload_n 2, 1) := by decide +kernel
theorem dX8_doTurn_74 : decode cX8_doTurn 74 = .ok (.iload 4, 2) := by decide +kernel
theorem dX8_doTurn_76 : decode cX8_doTurn 76 = .ok (.invokevirtual 89, 3) := by decide +kernel
theorem dX8_doTurn_79 : decode cX8_doTurn 79 = .ok (.iload 4, 2) := by decide +kernel
theorem dX8_doTurn_81 : decode cX8_doTurn 81 = .ok (.bipush 60, 2) := by decide +kernel
theorem dX8_doTurn_83 : decode cX8_doTurn 83 = .ok (.if_icmp .ne 25, 3) := by decide +kernel
theorem dX8_doTurn_86 : decode cX8_doTurn 86 = .ok (.aload_n 0, 1) := by decide +kernel
theorem dX8_doTurn_87 : decode cX8_doTurn 87 = .ok (.getfield 7, 3) := by decide +kernel
theorem dX8_doTurn_90 : decode cX8_doTurn 90 = .ok (.iconst 4, 1) := by decide +kernel
theorem dX8_doTurn_91 : decode cX8_doTurn 91 = .ok (.dup2, 1) := by decide +kernel
theorem dX8_doTurn_92 : decode cX8_doTurn 92 = .ok (.iaload, 1) := by decide +kernel
theorem dX8_doTurn_93 : decode cX8_doTurn 93 = .ok (.iconst 1, 1) := by decide +kernel
theorem dX8_doTurn_94 : decode cX8_doTurn 94 = .ok (.iadd, 1) := by decide +kernel
theorem dX8_doTurn_95 : decode cX8_doTurn 95 = .ok (.iastore, 1) := by decide +kernel
theorem dX8_doTurn_96 : decode cX8_doTurn 96 = .ok (.aload_n 0, 1) := by decide +kernel
theorem dX8_doTurn_97 : decode cX8_doTurn 97 = .ok (.iload_n 2, 1) := by decide +kernel
theorem dX8_doTurn_98 : decode cX8_doTurn 98 = .ok (.iconst 2, 1) := by decide +kernel
theorem dX8_doTurn_99 : decode cX8_doTurn 99 = .ok (.aload_n 0, 1) := by decide +kernel
theorem dX8_doTurn_100 : decode cX8_doTurn 100 = .ok (.getfield 7, 3) := by decide +kernel
theorem dX8_doTurn_103 : decode cX8_doTurn 103 = .ok (.iconst 4, 1) := by decide +kernel
theorem dX8_doTurn_104 : decode cX8_doTurn 104 = .ok (.iaload, 1) := by decide +kernel
theorem dX8_doTurn_105 : decode cX8_doTurn 105 = .ok (.invokevirtual 71, 3) := by decide +kernel
theorem dX8_doTurn_108 : decode cX8_doTurn 108 = .ok (.iconst 0, 1) := by decide +kernel
theorem dX8_doTurn_109 : decode cX8_doTurn 109 = .ok (.istore 5, 2) := by decide +kernel
theorem dX8_doTurn_111 : decode cX8_doTurn 111 = .ok (.iload 5, 2) := by decide +kernel
theorem dX8_doTurn_113 : decode cX8_doTurn 113 = .ok (.bipush 10, 2) := by decide +kernel
theorem dX8_doTurn_115 : decode cX8_doTurn 115 = .ok (.if_icmp .ge 42, 3) := by decide +kernel
theorem dX8_doTurn_118 : decode cX8_doTurn 118 = .ok (.aload_n 0, 1) := by decide +kernel
theorem dX8_doTurn_119 : decode cX8_doTurn 119 = .ok (.getfield 7, 3) := by decide +kernel
theorem dX8_doTurn_122 : decode cX8_doTurn 122 = .ok (.sipush 352, 3) := by decide +kernel
theorem dX8_doTurn_125 : decode cX8_doTurn 125 = .ok (.iconst 4, 1) := by decide +kernel
theorem dX8_doTurn_126 : decode cX8_doTurn 126 = .ok (.iload 5, 2) := by decide +kernel
theorem dX8_doTurn_128 : decode cX8_doTurn 128 = .ok (.imul, 1) := by decide +kernel
theorem dX8_doTurn_129 : decode cX8_doTurn 129 = .ok (.iadd, 1) := by decide +kernel
theorem dX8_doTurn_130 : decode cX8_doTurn 130 = .ok (.iconst 2, 1) := by decide +kernel
theorem dX8_doTurn_131 : decode cX8_doTurn 131 = .ok (.iadd, 1) := by decide +kernel
theorem dX8_doTurn_132 : decode cX8_doTurn 132 = .ok (.dup2, 1) := by decide +kernel
theorem dX8_doTurn_133 : decode cX8_doTurn 133 = .ok (.iaload, 1) := by decide +kernel
theorem dX8_doTurn_134 : decode cX8_doTurn 134 = .ok (.aload_n 0, 1) := by decide +kernel
theorem dX8_doTurn_135 : decode cX8_doTurn 135 = .ok (.iload 5, 2) := by decide +kernel
theorem dX8_doTurn_137 : decode cX8_doTurn 137 = .ok (.iconst 2, 1) := by decide +kernel
theorem dX8_doTurn_138 : decode cX8_doTurn 138 = .ok (.invokevirtual 47, 3) := by decide +kernel
theorem dX8_doTurn_141 : decode cX8_doTurn 141 = .ok (.ifCond .le 7, 3) := by decide +kernel
theorem dX8_doTurn_144 : decode cX8_doTurn 144 = .ok (.iconst 1, 1) := by decide +kernel
theorem dX8_doTurn_145 : decode cX8_doTurn 145 = .ok (.goto 4, 3) := by decide +kernel
theorem dX8_doTurn_148 : decode cX8_doTurn 148 = .ok (.iconst 0, 1) := by decide +kernel
theorem dX8_doTurn_149 : decode cX8_doTurn 149 = .ok (.isub, 1) := by decide +kernel
theorem dX8_doTurn_150 : decode cX8_doTurn 150 = .ok (.iastore, 1) := by decide +kernel
theorem dX8_doTurn_151 : decode cX8_doTurn 151 = .ok (.iinc 5 1, 3) := by decide +kernel
theorem dX8_doTurn_154 : decode cX8_doTurn 154 = .ok (.goto (-43), 3) := by decide +kernel
theorem dX8_doTurn_157 : decode cX8_doTurn 157 = .ok (.aload_n 0, 1) := by decide +kernel
theorem dX8_doTurn_158 : decode cX8_doTurn 158 = .ok (.getfield 7, 3) := by decide +kernel
theorem dX8_doTurn_161 : decode cX8_doTurn 161 = .ok (.iconst 0, 1) := by decide +kernel
theorem dX8_doTurn_162 : decode cX8_doTurn 162 = .ok (.dup2, 1) := by decide +kernel
theorem dX8_doTurn_163 : decode cX8_doTurn 163 = .ok (.iaload, 1) := by decide +kernel
theorem dX8_doTurn_164 : decode cX8_doTurn 164 = .ok (.iconst 1, 1) := by decide +kernel
theorem dX8_doTurn_165 : decode cX8_doTurn 165 = .ok (.iadd, 1) := by decide +kernel
theorem dX8_doTurn_166 : decode cX8_doTurn 166 = .ok (.iastore, 1) := by decide +kernel
theorem dX8_doTurn_167 : decode cX8_doTurn 167 = .ok (.iconst 0, 1) := by decide +kernel
theorem dX8_doTurn_168 : decode cX8_doTurn 168 = .ok (.istore 5, 2) := by decide +kernel
theorem dX8_doTurn_170 : decode cX8_doTurn 170 = .ok (.iload 5, 2) := by decide +kernel
theorem dX8_doTurn_172 : decode cX8_doTurn 172 = .ok (.iconst 4, 1) := by decide +kernel
theorem dX8_doTurn_173 : decode cX8_doTurn 173 = .ok (.if_icmp .ge 50, 3) := by decide +kernel
theorem dX8_doTurn_176 : decode cX8_doTurn 176 = .ok (.aload_n 0, 1) := by decide +kernel
theorem dX8_doTurn_177 : decode cX8_doTurn 177 = .ok (.invokevirtual 92, 3) := by decide +kernel
theorem dX8_doTurn_180 : decode cX8_doTurn 180 = .ok (.ifCond .ne 43, 3) := by decide +kernel
theorem dX8_doTurn_183 : decode cX8_doTurn 183 = .ok (.iload 5, 2) := by decide +kernel
theorem dX8_doTurn_185 : decode cX8_doTurn 185 = .ok (.ifCond .eq 16, 3) := by decide +kernel
theorem dX8_doTurn_188 : decode cX8_doTurn 188 = .ok (.aload_n 0, 1) := by decide +kernel
theorem dX8_doTurn_189 : decode cX8_doTurn 189 = .ok (.aload_n 0, 1) := by decide +kernel
theorem dX8_doTurn_190 : decode cX8_doTurn 190 = .ok (.getfield 7, 3) := by decide +kernel
theorem dX8_doTurn_193 : decode cX8_doTurn 193 = .ok (.iconst 1, 1) := by decide +kernel
theorem dX8_doTurn_194 : decode cX8_doTurn 194 = .ok (.iaload, 1) := by decide +kernel
theorem dX8_doTurn_195 : decode cX8_doTurn 195 = .ok (.invokevirtual 96, 3) := by decide +kernel
theorem dX8_doTurn_198 : decode cX8_doTurn 198 = .ok (.ifCond .ne 25, 3) := by decide +kernel
theorem dX8_doTurn_201 : decode cX8_doTurn 201 = .ok (.aload_n 0, 1) := by decide +kernel
theorem dX8_doTurn_202 : decode cX8_doTurn 202 = .ok (.getfield 7, 3) := by decide +kernel
theorem dX8_doTurn_205 : decode cX8_doTurn 205 = .ok (.iconst 1, 1) := by decide +kernel
theorem dX8_doTurn_206 : decode cX8_doTurn 206 = .ok (.aload_n 0, 1) := by decide +kernel
theorem dX8_doTurn_207 : decode cX8_doTurn 207 = .ok (.getfield 7, 3) := by decide +kernel
theorem dX8_doTurn_210 : decode cX8_doTurn 210 = .ok (.iconst 1, 1) := by decide +kernel
theorem dX8_doTurn_211 : decode cX8_doTurn 211 = .ok (.iaload, 1) := by decide +kernel
theorem dX8_doTurn_212 : decode cX8_doTurn 212 = .ok (.iconst 1, 1) := by decide +kernel
theorem dX8_doTurn_213 : decode cX8_doTurn 213 = .ok (.iadd, 1) := by decide +kernel
theorem dX8_doTurn_214 : decode cX8_doTurn 214 = .ok (.iconst 4, 1) := by decide +kernel
theorem dX8_doTurn_215 : decode cX8_doTurn 215 = .ok (.irem, 1) := by decide +kernel
theorem dX8_doTurn_216 : decode cX8_doTurn 216 = .ok (.iastore, 1) := by decide +kernel
theorem dX8_doTurn_217 : decode cX8_doTurn 217 = .ok (.iinc 5 1, 3) := by decide +kernel
theorem dX8_doTurn_220 : decode cX8_doTurn 220 = .ok (.goto (-50), 3) := by decide +kernel
theorem dX8_doTurn_223 : decode cX8_doTurn 223 = .ok (.iload 4, 2) := by decide +kernel
theorem dX8_doTurn_225 : decode cX8_doTurn 225 = .ok (.ireturn, 1) := by decide +kernel
theorem dX8_draw_0 : decode cX8_draw 0 = .ok (.sipush 25173, 3) := by decide +kernel
theorem dX8_draw_3 : decode cX8_draw 3 = .ok (.iload_n 0, 1) := by decide +kernel
theorem dX8_draw_4 : decode cX8_draw 4 = .ok (.imul, 1) := by decide +kernel
theorem dX8_draw_5 : decode cX8_draw 5 = .ok (.sipush 13849, 3) := by decide +kernel
theorem dX8_draw_8 : decode cX8_draw 8 = .ok (.iadd, 1) := by decide +kernel
theorem dX8_draw_9 : decode cX8_draw 9 = .ok (.ldc 99, 2) := by decide +kernel
theorem dX8_draw_11 : decode cX8_draw 11 = .ok (.irem, 1) := by decide +kernel
theorem dX8_draw_12 : decode cX8_draw 12 = .ok (.ireturn, 1) := by decide +kernel
theorem dX8_diceOf_0 : decode cX8_diceOf 0 = .ok (.iconst 1, 1) := by decide +kernel
theorem dX8_diceOf_1 : decode cX8_diceOf 1 = .ok (.iload_n 0, 1) := by decide +kernel
theorem dX8_diceOf_2 : decode cX8_diceOf 2 = .ok (.sipush 10923, 3) := by decide +kernel
theorem dX8_diceOf_5 : decode cX8_diceOf 5 = .ok (.idiv, 1) := by decide +kernel
theorem dX8_diceOf_6 : decode cX8_diceOf 6 = .ok (.iadd, 1) := by decide +kernel
theorem dX8_diceOf_7 : decode cX8_diceOf 7 = .ok (.ireturn, 1) := by decide +kernel
theorem dX8_asks_0 : decode cX8_asks 0 = .ok (.iload_n 1, 1) := by decide +kernel
theorem dX8_asks_1 : decode cX8_asks 1 = .ok (.iconst 2, 1) := by decide +kernel
theorem dX8_asks_2 : decode cX8_asks 2 = .ok (.iadd, 1) := by decide +kernel
theorem dX8_asks_3 : decode cX8_asks 3 = .ok (.iconst 3, 1) := by decide +kernel
theorem dX8_asks_4 : decode cX8_asks 4 = .ok (.idiv, 1) := by decide +kernel
theorem dX8_asks_5 : decode cX8_asks 5 = .ok (.iconst 2, 1) := by decide +kernel
theorem dX8_asks_6 : decode cX8_asks 6 = .ok (.aload_n 0, 1) := by decide +kernel
theorem dX8_asks_7 : decode cX8_asks 7 = .ok (.iload_n 2, 1) := by decide +kernel
theorem dX8_asks_8 : decode cX8_asks 8 = .ok (.iconst 5, 1) := by decide +kernel
theorem dX8_asks_9 : decode cX8_asks 9 = .ok (.invokevirtual 43, 3) := by decide +kernel
theorem dX8_asks_12 : decode cX8_asks 12 = .ok (.imul, 1) := by decide +kernel
theorem dX8_asks_13 : decode cX8_asks 13 = .ok (.iadd, 1) := by decide +kernel
theorem dX8_asks_14 : decode cX8_asks 14 = .ok (.ireturn, 1) := by decide +kernel
theorem dX8_reason_0 : decode cX8_reason 0 = .ok (.iload_n 1, 1) := by decide +kernel
theorem dX8_reason_1 : decode cX8_reason 1 = .ok (.iload_n 2, 1) := by decide +kernel
theorem dX8_reason_2 : decode cX8_reason 2 = .ok (.invokestatic 58, 3) := by decide +kernel
theorem dX8_reason_5 : decode cX8_reason 5 = .ok (.istore 5, 2) := by decide +kernel
theorem dX8_reason_7 : decode cX8_reason 7 = .ok (.aload_n 0, 1) := by decide +kernel
theorem dX8_reason_8 : decode cX8_reason 8 = .ok (.iload_n 3, 1) := by decide +kernel
theorem dX8_reason_9 : decode cX8_reason 9 = .ok (.invokevirtual 96, 3) := by decide +kernel
theorem dX8_reason_12 : decode cX8_reason 12 = .ok (.ifCond .ne 5, 3) := by decide +kernel
theorem dX8_reason_15 : decode cX8_reason 15 = .ok (.iconst 1, 1) := by decide +kernel
theorem dX8_reason_16 : decode cX8_reason 16 = .ok (.ireturn, 1) := by decide +kernel
theorem dX8_reason_17 : decode cX8_reason 17 = .ok (.aload_n 0, 1) := by decide +kernel
theorem dX8_reason_18 : decode cX8_reason 18 = .ok (.getfield 7, 3) := by decide +kernel
theorem dX8_reason_21 : decode cX8_reason 21 = .ok (.iload 5, 2) := by decide +kernel
theorem dX8_reason_23 : decode cX8_reason 23 = .ok (.iconst 1, 1) := by decide +kernel
theorem dX8_reason_24 : decode cX8_reason 24 = .ok (.iadd, 1) := by decide +kernel
theorem dX8_reason_25 : decode cX8_reason 25 = .ok (.iaload, 1) := by decide +kernel
theorem dX8_reason_26 : decode cX8_reason 26 = .ok (.aload_n 0, 1) := by decide +kernel
theorem dX8_reason_27 : decode cX8_reason 27 = .ok (.getfield 7, 3) := by decide +kernel
theorem dX8_reason_30 : decode cX8_reason 30 = .ok (.bipush 7, 2) := by decide +kernel
theorem dX8_reason_32 : decode cX8_reason 32 = .ok (.iaload, 1) := by decide +kernel
theorem dX8_reason_33 : decode cX8_reason 33 = .ok (.if_icmp .lt 5, 3) := by decide +kernel
theorem dX8_reason_36 : decode cX8_reason 36 = .ok (.iconst 2, 1) := by decide +kernel
theorem dX8_reason_37 : decode cX8_reason 37 = .ok (.ireturn, 1) := by decide +kernel
theorem dX8_reason_38 : decode cX8_reason 38 = .ok (.aload_n 0, 1) := by decide +kernel
theorem dX8_reason_39 : decode cX8_reason 39 = .ok (.getfield 7, 3) := by decide +kernel
theorem dX8_reason_42 : decode cX8_reason 42 = .ok (.iload 5, 2) := by decide +kernel
theorem dX8_reason_44 : decode cX8_reason 44 = .ok (.iconst 3, 1) := by decide +kernel
theorem dX8_reason_45 : decode cX8_reason 45 = .ok (.iadd, 1) := by decide +kernel
theorem dX8_reason_46 : decode cX8_reason 46 = .ok (.iaload, 1) := by decide +kernel
theorem dX8_reason_47 : decode cX8_reason 47 = .ok (.iload_n 3, 1) := by decide +kernel
theorem dX8_reason_48 : decode cX8_reason 48 = .ok (.ishr, 1) := by decide +kernel
theorem dX8_reason_49 : decode cX8_reason 49 = .ok (.iconst 1, 1) := by decide +kernel
theorem dX8_reason_50 : decode cX8_reason 50 = .ok (.iand, 1) := by decide +kernel
theorem dX8_reason_51 : decode cX8_reason 51 = .ok (.iconst 1, 1) := by decide +kernel
theorem dX8_reason_52 : decode cX8_reason 52 = .ok (.if_icmp .ne 5, 3) := by decide +kernel
theorem dX8_reason_55 : decode cX8_reason 55 = .ok (.iconst 3, 1) := by decide +kernel
theorem dX8_reason_56 : decode cX8_reason 56 = .ok (.ireturn, 1) := by decide +kernel
theorem dX8_reason_57 : decode cX8_reason 57 = .ok (.aload_n 0, 1) := by decide +kernel
theorem dX8_reason_58 : decode cX8_reason 58 = .ok (.iload_n 1, 1) := by decide +kernel
theorem dX8_reason_59 : decode cX8_reason 59 = .ok (.iconst 1, 1) := by decide +kernel
theorem dX8_reason_60 : decode cX8_reason 60 = .ok (.invokevirtual 43, 3) := by decide +kernel
theorem dX8_reason_63 : decode cX8_reason 63 = .ok (.iload 4, 2) := by decide +kernel
theorem dX8_reason_65 : decode cX8_reason 65 = .ok (.isub, 1) := by decide +kernel
theorem dX8_reason_66 : decode cX8_reason 66 = .ok (.aload_n 0, 1) := by decide +kernel
theorem dX8_reason_67 : decode cX8_reason 67 = .ok (.getfield 7, 3) := by decide +kernel
theorem dX8_reason_70 : decode cX8_reason 70 = .ok (.bipush 6, 2) := by decide +kernel
theorem dX8_reason_72 : decode cX8_reason 72 = .ok (.iaload, 1) := by decide +kernel
theorem dX8_reason_73 : decode cX8_reason 73 = .ok (.ineg, 1) := by decide +kernel
theorem dX8_reason_74 : decode cX8_reason 74 = .ok (.if_icmp .ge 5, 3) := by decide +kernel
theorem dX8_reason_77 : decode cX8_reason 77 = .ok (.iconst 4, 1) := by decide +kernel
theorem dX8_reason_78 : decode cX8_reason 78 = .ok (.ireturn, 1) := by decide +kernel
theorem dX8_reason_79 : decode cX8_reason 79 = .ok (.iload 4, 2) := by decide +kernel
theorem dX8_reason_81 : decode cX8_reason 81 = .ok (.aload_n 0, 1) := by decide +kernel
theorem dX8_reason_82 : decode cX8_reason 82 = .ok (.aload_n 0, 1) := by decide +kernel
theorem dX8_reason_83 : decode cX8_reason 83 = .ok (.getfield 7, 3) := by decide +kernel
theorem dX8_reason_86 : decode cX8_reason 86 = .ok (.iload 5, 2) := by decide +kernel
theorem dX8_reason_88 : decode cX8_reason 88 = .ok (.iconst 0, 1) := by decide +kernel
theorem dX8_reason_89 : decode cX8_reason 89 = .ok (.iadd, 1) := by decide +kernel
theorem dX8_reason_90 : decode cX8_reason 90 = .ok (.iaload, 1) := by decide +kernel
theorem dX8_reason_91 : decode cX8_reason 91 = .ok (.iload_n 3, 1) := by decide +kernel
theorem dX8_reason_92 : decode cX8_reason 92 = .ok (.invokevirtual 100, 3) := by decide +kernel
theorem dX8_reason_95 : decode cX8_reason 95 = .ok (.if_icmp .ge 7, 3) := by decide +kernel
theorem dX8_reason_98 : decode cX8_reason 98 = .ok (.iconst 5, 1) := by decide +kernel
theorem dX8_reason_99 : decode cX8_reason 99 = .ok (.goto 4, 3) := by decide +kernel
theorem dX8_reason_102 : decode cX8_reason 102 = .ok (.iconst 0, 1) := by decide +kernel
theorem dX8_reason_103 : decode cX8_reason 103 = .ok (.ireturn, 1) := by decide +kernel
theorem dX8_sellError_0 : decode cX8_sellError 0 = .ok (.aload_n 0, 1) := by decide +kernel
theorem dX8_sellError_1 : decode cX8_sellError 1 = .ok (.iload_n 1, 1) := by decide +kernel
theorem dX8_sellError_2 : decode cX8_sellError 2 = .ok (.iload_n 2, 1) := by decide +kernel
theorem dX8_sellError_3 : decode cX8_sellError 3 = .ok (.invokevirtual 103, 3) := by decide +kernel
theorem dX8_sellError_6 : decode cX8_sellError 6 = .ok (.ifCond .eq 10, 3) := by decide +kernel
theorem dX8_sellError_9 : decode cX8_sellError 9 = .ok (.iload_n 3, 1) := by decide +kernel
theorem dX8_sellError_10 : decode cX8_sellError 10 = .ok (.invokestatic 39, 3) := by decide +kernel
theorem dX8_sellError_13 : decode cX8_sellError 13 = .ok (.ifCond .ne 5, 3) := by decide +kernel
theorem dX8_sellError_16 : decode cX8_sellError 16 = .ok (.iconst (-1), 1) := by decide +kernel
theorem dX8_sellError_17 : decode cX8_sellError 17 = .ok (.ireturn, 1) := by decide +kernel
theorem dX8_sellError_18 : decode cX8_sellError 18 = .ok (.iload 4, 2) := by decide +kernel
theorem dX8_sellError_20 : decode cX8_sellError 20 = .ok (.iconst 0, 1) := by decide +kernel
theorem dX8_sellError_21 : decode cX8_sellError 21 = .ok (.bipush 99, 2) := by decide +kernel
theorem dX8_sellError_23 : decode cX8_sellError 23 = .ok (.invokestatic 35, 3) := by decide +kernel
theorem dX8_sellError_26 : decode cX8_sellError 26 = .ok (.ifCond .eq 12, 3) := by decide +kernel
theorem dX8_sellError_29 : decode cX8_sellError 29 = .ok (.iload_n 1, 1) := by decide +kernel
theorem dX8_sellError_30 : decode cX8_sellError 30 = .ok (.iload_n 3, 1) := by decide +kernel
theorem dX8_sellError_31 : decode cX8_sellError 31 = .ok (.if_icmp .eq 7, 3) := by decide +kernel
theorem dX8_sellError_34 : decode cX8_sellError 34 = .ok (.iconst 0, 1) := by decide +kernel
theorem dX8_sellError_35 : decode cX8_sellError 35 = .ok (.goto 5, 3) := by decide +kernel
theorem dX8_sellError_38 : decode cX8_sellError 38 = .ok (.bipush (-2), 2) := by decide +kernel
theorem dX8_sellError_40 : decode cX8_sellError 40 = .ok (.ireturn, 1) := by decide +kernel
theorem dX8_doSell_0 : decode cX8_doSell 0 = .ok (.iload_n 1, 1) := by decide +kernel
theorem dX8_doSell_1 : decode cX8_doSell 1 = .ok (.iload_n 2, 1) := by decide +kernel
theorem dX8_doSell_2 : decode cX8_doSell 2 = .ok (.invokestatic 58, 3) := by decide +kernel
theorem dX8_doSell_5 : decode cX8_doSell 5 = .ok (.istore 5, 2) := by decide +kernel
theorem dX8_doSell_7 : decode cX8_doSell 7 = .ok (.iload_n 3, 1) := by decide +kernel
theorem dX8_doSell_8 : decode cX8_doSell 8 = .ok (.aload_n 0, 1) := by decide +kernel
theorem dX8_doSell_9 : decode cX8_doSell 9 = .ok (.iload_n 3, 1) := by decide +kernel
theorem dX8_doSell_10 : decode cX8_doSell 10 = .ok (.iconst 5, 1) := by decide +kernel
theorem dX8_doSell_11 : decode cX8_doSell 11 = .ok (.invokevirtual 43, 3) := by decide +kernel
theorem dX8_doSell_14 : decode cX8_doSell 14 = .ok (.invokestatic 58, 3) := by decide +kernel
theorem dX8_doSell_17 : decode cX8_doSell 17 = .ok (.istore 6, 2) := by decide +kernel
theorem dX8_doSell_19 : decode cX8_doSell 19 = .ok (.iconst 0, 1) := by decide +kernel
theorem dX8_doSell_20 : decode cX8_doSell 20 = .ok (.istore 7, 2) := by decide +kernel
theorem dX8_doSell_22 : decode cX8_doSell 22 = .ok (.iload 7, 2) := by decide +kernel
theorem dX8_doSell_24 : decode cX8_doSell 24 = .ok (.iconst 4, 1) := by decide +kernel
theorem dX8_doSell_25 : decode cX8_doSell 25 = .ok (.if_icmp .ge 29, 3) := by decide +kernel
theorem dX8_doSell_28 : decode cX8_doSell 28 = .ok (.aload_n 0, 1) := by decide +kernel
theorem dX8_doSell_29 : decode cX8_doSell 29 = .ok (.getfield 7, 3) := by decide +kernel
theorem dX8_doSell_32 : decode cX8_doSell 32 = .ok (.iload 6, 2) := by decide +kernel
theorem dX8_doSell_34 : decode cX8_doSell 34 = .ok (.iload 7, 2) := by decide +kernel
theorem dX8_doSell_36 : decode cX8_doSell 36 = .ok (.iadd, 1) := by decide +kernel
theorem dX8_doSell_37 : decode cX8_doSell 37 = .ok (.aload_n 0, 1) := by decide +kernel
theorem dX8_doSell_38 : decode cX8_doSell 38 = .ok (.getfield 7, 3) := by decide +kernel
theorem dX8_doSell_41 : decode cX8_doSell 41 = .ok (.iload 5, 2) := by decide +kernel
theorem dX8_doSell_43 : decode cX8_doSell 43 = .ok (.iload 7, 2) := by decide +kernel
theorem dX8_doSell_45 : decode cX8_doSell 45 = .ok (.iadd, 1) := by decide +kernel
theorem dX8_doSell_46 : decode cX8_doSell 46 = .ok (.iaload, 1) := by decide +kernel
theorem dX8_doSell_47 : decode cX8_doSell 47 = .ok (.iastore, 1) := by decide +kernel
theorem dX8_doSell_48 : decode cX8_doSell 48 = .ok (.iinc 7 1, 3) := by decide +kernel
theorem dX8_doSell_51 : decode cX8_doSell 51 = .ok (.goto (-29), 3) := by decide +kernel
theorem dX8_doSell_54 : decode cX8_doSell 54 = .ok (.aload_n 0, 1) := by decide +kernel
theorem dX8_doSell_55 : decode cX8_doSell 55 = .ok (.getfield 7, 3) := by decide +kernel
theorem dX8_doSell_58 : decode cX8_doSell 58 = .ok (.iload 6, 2) := by decide +kernel
theorem dX8_doSell_60 : decode cX8_doSell 60 = .ok (.iconst 1, 1) := by decide +kernel
theorem dX8_doSell_61 : decode cX8_doSell 61 = .ok (.iadd, 1) := by decide +kernel
theorem dX8_doSell_62 : decode cX8_doSell 62 = .ok (.dup2, 1) := by decide +kernel
theorem dX8_doSell_63 : decode cX8_doSell 63 = .ok (.iaload, 1) := by decide +kernel
theorem dX8_doSell_64 : decode cX8_doSell 64 = .ok (.iconst 1, 1) := by decide +kernel
theorem dX8_doSell_65 : decode cX8_doSell 65 = .ok (.iadd, 1) := by decide +kernel
theorem dX8_doSell_66 : decode cX8_doSell 66 = .ok (.iastore, 1) := by decide +kernel
theorem dX8_doSell_67 : decode cX8_doSell 67 = .ok (.aload_n 0, 1) := by decide +kernel
theorem dX8_doSell_68 : decode cX8_doSell 68 = .ok (.getfield 7, 3) := by decide +kernel
theorem dX8_doSell_71 : decode cX8_doSell 71 = .ok (.iload 6, 2) := by decide +kernel
theorem dX8_doSell_73 : decode cX8_doSell 73 = .ok (.iconst 3, 1) := by decide +kernel
theorem dX8_doSell_74 : decode cX8_doSell 74 = .ok (.iadd, 1) := by decide +kernel
theorem dX8_doSell_75 : decode cX8_doSell 75 = .ok (.dup2, 1) := by decide +kernel
theorem dX8_doSell_76 : decode cX8_doSell 76 = .ok (.iaload, 1) := by decide +kernel
theorem dX8_doSell_77 : decode cX8_doSell 77 = .ok (.iconst 1, 1) := by decide +kernel
theorem dX8_doSell_78 : decode cX8_doSell 78 = .ok (.iload_n 3, 1) := by decide +kernel
theorem dX8_doSell_79 : decode cX8_doSell 79 = .ok (.ishl, 1) := by decide +kernel
theorem dX8_doSell_80 : decode cX8_doSell 80 = .ok (.ior, 1) := by decide +kernel
theorem dX8_doSell_81 : decode cX8_doSell 81 = .ok (.iastore, 1) := by decide +kernel
theorem dX8_doSell_82 : decode cX8_doSell 82 = .ok (.aload_n 0, 1) := by decide +kernel
theorem dX8_doSell_83 : decode cX8_doSell 83 = .ok (.iload_n 3, 1) := by decide +kernel
theorem dX8_doSell_84 : decode cX8_doSell 84 = .ok (.iconst 5, 1) := by decide +kernel
theorem dX8_doSell_85 : decode cX8_doSell 85 = .ok (.iconst 1, 1) := by decide +kernel
theorem dX8_doSell_86 : decode cX8_doSell 86 = .ok (.invokevirtual 71, 3) := by decide +kernel
theorem dX8_doSell_89 : decode cX8_doSell 89 = .ok (.aload_n 0, 1) := by decide +kernel
theorem dX8_doSell_90 : decode cX8_doSell 90 = .ok (.iload_n 1, 1) := by decide +kernel
theorem dX8_doSell_91 : decode cX8_doSell 91 = .ok (.iconst 5, 1) := by decide +kernel
theorem dX8_doSell_92 : decode cX8_doSell 92 = .ok (.iconst (-1), 1) := by decide +kernel
theorem dX8_doSell_93 : decode cX8_doSell 93 = .ok (.invokevirtual 71, 3) := by decide +kernel
theorem dX8_doSell_96 : decode cX8_doSell 96 = .ok (.iload 5, 2) := by decide +kernel
theorem dX8_doSell_98 : decode cX8_doSell 98 = .ok (.istore 7, 2) := by decide +kernel
theorem dX8_doSell_100 : decode cX8_doSell 100 = .ok (.iload 7, 2) := by decide +kernel
theorem dX8_doSell_102 : decode cX8_doSell 102 = .ok (.iload_n 1, 1) := by decide +kernel
theorem dX8_doSell_103 : decode cX8_doSell 103 = .ok (.aload_n 0, 1) := by decide +kernel
theorem dX8_doSell_104 : decode cX8_doSell 104 = .ok (.iload_n 1, 1) := by decide +kernel
theorem dX8_doSell_105 : decode cX8_doSell 105 = .ok (.iconst 5, 1) := by decide +kernel
theorem dX8_doSell_106 : decode cX8_doSell 106 = .ok (.invokevirtual 43, 3) := by decide +kernel
theorem dX8_doSell_109 : decode cX8_doSell 109 = .ok (.invokestatic 58, 3) := by decide +kernel
theorem dX8_doSell_112 : decode cX8_doSell 112 = .ok (.if_icmp .ge 25, 3) := by decide +kernel
theorem dX8_doSell_115 : decode cX8_doSell 115 = .ok (.aload_n 0, 1) := by decide +kernel
theorem dX8_doSell_116 : decode cX8_doSell 116 = .ok (.getfield 7, 3) := by decide +kernel
theorem dX8_doSell_119 : decode cX8_doSell 119 = .ok (.iload 7, 2) := by decide +kernel
theorem dX8_doSell_121 : decode cX8_doSell 121 = .ok (.aload_n 0, 1) := by decide +kernel
theorem dX8_doSell_122 : decode cX8_doSell 122 = .ok (.getfield 7, 3) := by decide +kernel
theorem dX8_doSell_125 : decode cX8_doSell 125 = .ok (.iload 7, 2) := by decide +kernel
theorem dX8_doSell_127 : decode cX8_doSell 127 = .ok (.iconst 4, 1) := by decide +kernel
theorem dX8_doSell_128 : decode cX8_doSell 128 = .ok (.iadd, 1) := by decide +kernel
theorem dX8_doSell_129 : decode cX8_doSell 129 = .ok (.iaload, 1) := by decide +kernel
theorem dX8_doSell_130 : decode cX8_doSell 130 = .ok (.iastore, 1) := by decide +kernel
theorem dX8_doSell_131 : decode cX8_doSell 131 = .ok (.iinc 7 1, 3) := by decide +kernel
theorem dX8_doSell_134 : decode cX8_doSell 134 = .ok (.goto (-34), 3) := by decide +kernel
theorem dX8_doSell_137 : decode cX8_doSell 137 = .ok (.aload_n 0, 1) := by decide +kernel
theorem dX8_doSell_138 : decode cX8_doSell 138 = .ok (.iload_n 1, 1) := by decide +kernel
theorem dX8_doSell_139 : decode cX8_doSell 139 = .ok (.iconst 1, 1) := by decide +kernel
theorem dX8_doSell_140 : decode cX8_doSell 140 = .ok (.iload 4, 2) := by decide +kernel
theorem dX8_doSell_142 : decode cX8_doSell 142 = .ok (.ineg, 1) := by decide +kernel
theorem dX8_doSell_143 : decode cX8_doSell 143 = .ok (.invokevirtual 71, 3) := by decide +kernel
theorem dX8_doSell_146 : decode cX8_doSell 146 = .ok (.aload_n 0, 1) := by decide +kernel
theorem dX8_doSell_147 : decode cX8_doSell 147 = .ok (.iload_n 3, 1) := by decide +kernel
theorem dX8_doSell_148 : decode cX8_doSell 148 = .ok (.iconst 1, 1) := by decide +kernel
theorem dX8_doSell_149 : decode cX8_doSell 149 = .ok (.iload 4, 2) := by decide +kernel
theorem dX8_doSell_151 : decode cX8_doSell 151 = .ok (.invokevirtual 71, 3) := by decide +kernel
theorem dX8_doSell_154 : decode cX8_doSell 154 = .ok (.aload_n 0, 1) := by decide +kernel
theorem dX8_doSell_155 : decode cX8_doSell 155 = .ok (.getfield 7, 3) := by decide +kernel
theorem dX8_doSell_158 : decode cX8_doSell 158 = .ok (.iconst 3, 1) := by decide +kernel
theorem dX8_doSell_159 : decode cX8_doSell 159 = .ok (.dup2, 1) := by decide +kernel
theorem dX8_doSell_160 : decode cX8_doSell 160 = .ok (.iaload, 1) := by decide +kernel
theorem dX8_doSell_161 : decode cX8_doSell 161 = .ok (.iconst 1, 1) := by decide +kernel
theorem dX8_doSell_162 : decode cX8_doSell 162 = .ok (.iadd, 1) := by decide +kernel
theorem dX8_doSell_163 : decode cX8_doSell 163 = .ok (.iastore, 1) := by decide +kernel
theorem dX8_doSell_164 : decode cX8_doSell 164 = .ok (.aload_n 0, 1) := by decide +kernel
theorem dX8_doSell_165 : decode cX8_doSell 165 = .ok (.iload_n 3, 1) := by decide +kernel
theorem dX8_doSell_166 : decode cX8_doSell 166 = .ok (.iconst 1, 1) := by decide +kernel
theorem dX8_doSell_167 : decode cX8_doSell 167 = .ok (.invokevirtual 43, 3) := by decide +kernel
theorem dX8_doSell_170 : decode cX8_doSell 170 = .ok (.sipush 1000, 3) := by decide +kernel
theorem dX8_doSell_173 : decode cX8_doSell 173 = .ok (.iadd, 1) := by decide +kernel
theorem dX8_doSell_174 : decode cX8_doSell 174 = .ok (.ireturn, 1) := by decide +kernel
theorem dX8_snake_0 : decode cX8_snake 0 = .ok (.iload_n 1, 1) := by decide +kernel
theorem dX8_snake_1 : decode cX8_snake 1 = .ok (.bipush 7, 2) := by decide +kernel
theorem dX8_snake_3 : decode cX8_snake 3 = .ok (.bipush 59, 2) := by decide +kernel
theorem dX8_snake_5 : decode cX8_snake 5 = .ok (.invokestatic 35, 3) := by decide +kernel
theorem dX8_snake_8 : decode cX8_snake 8 = .ok (.ifCond .eq 26, 3) := by decide +kernel
theorem dX8_snake_11 : decode cX8_snake 11 = .ok (.iload_n 2, 1) := by decide +kernel
theorem dX8_snake_12 : decode cX8_snake 12 = .ok (.iconst 1, 1) := by decide +kernel
theorem dX8_snake_13 : decode cX8_snake 13 = .ok (.bipush 53, 2) := by decide +kernel
theorem dX8_snake_15 : decode cX8_snake 15 = .ok (.invokestatic 35, 3) := by decide +kernel
theorem dX8_snake_18 : decode cX8_snake 18 = .ok (.ifCond .eq 16, 3) := by decide +kernel
theorem dX8_snake_21 : decode cX8_snake 21 = .ok (.iload_n 1, 1) := by decide +kernel
theorem dX8_snake_22 : decode cX8_snake 22 = .ok (.iload_n 2, 1) := by decide +kernel
theorem dX8_snake_23 : decode cX8_snake 23 = .ok (.isub, 1) := by decide +kernel
theorem dX8_snake_24 : decode cX8_snake 24 = .ok (.bipush 6, 2) := by decide +kernel
theorem dX8_snake_26 : decode cX8_snake 26 = .ok (.bipush 40, 2) := by decide +kernel
theorem dX8_snake_28 : decode cX8_snake 28 = .ok (.invokestatic 35, 3) := by decide +kernel
theorem dX8_snake_31 : decode cX8_snake 31 = .ok (.ifCond .ne 6, 3) := by decide +kernel
theorem dX8_snake_34 : decode cX8_snake 34 = .ok (.bipush (-2), 2) := by decide +kernel
theorem dX8_snake_36 : decode cX8_snake 36 = .ok (.ireturn, 1) := by decide +kernel
theorem dX8_snake_37 : decode cX8_snake 37 = .ok (.aload_n 0, 1) := by decide +kernel
theorem dX8_snake_38 : decode cX8_snake 38 = .ok (.iload_n 1, 1) := by decide +kernel
theorem dX8_snake_39 : decode cX8_snake 39 = .ok (.invokevirtual 65, 3) := by decide +kernel
theorem dX8_snake_42 : decode cX8_snake 42 = .ok (.bipush (-5), 2) := by decide +kernel
theorem dX8_snake_44 : decode cX8_snake 44 = .ok (.if_icmp .eq 6, 3) := by decide +kernel
theorem dX8_snake_47 : decode cX8_snake 47 = .ok (.bipush (-4), 2) := by decide +kernel
theorem dX8_snake_49 : decode cX8_snake 49 = .ok (.ireturn, 1) := by decide +kernel
theorem dX8_snake_50 : decode cX8_snake 50 = .ok (.aload_n 0, 1) := by decide +kernel
theorem dX8_snake_51 : decode cX8_snake 51 = .ok (.invokevirtual 106, 3) := by decide +kernel
theorem dX8_snake_54 : decode cX8_snake 54 = .ok (.bipush 10, 2) := by decide +kernel
theorem dX8_snake_56 : decode cX8_snake 56 = .ok (.if_icmp .ne 6, 3) := by decide +kernel
theorem dX8_snake_59 : decode cX8_snake 59 = .ok (.bipush (-3), 2) := by decide +kernel
theorem dX8_snake_61 : decode cX8_snake 61 = .ok (.ireturn, 1) := by decide +kernel
theorem dX8_snake_62 : decode cX8_snake 62 = .ok (.aload_n 0, 1) := by decide +kernel
theorem dX8_snake_63 : decode cX8_snake 63 = .ok (.invokevirtual 110, 3) := by decide +kernel
theorem dX8_snake_66 : decode cX8_snake 66 = .ok (.iconst 0, 1) := by decide +kernel
theorem dX8_snake_67 : decode cX8_snake 67 = .ok (.istore_n 3, 1) := by decide +kernel
theorem dX8_snake_68 : decode cX8_snake 68 = .ok (.aload_n 0, 1) := by decide +kernel
theorem dX8_snake_69 : decode cX8_snake 69 = .ok (.iload_n 3, 1) := by decide +kernel
theorem dX8_snake_70 : decode cX8_snake 70 = .ok (.invokevirtual 113, 3) := by decide +kernel
theorem dX8_snake_73 : decode cX8_snake 73 = .ok (.ifCond .eq 9, 3) := by decide +kernel
theorem dX8_snake_76 : decode cX8_snake 76 = .ok (.iinc 3 1, 3) := by decide +kernel
theorem dX8_snake_79 : decode cX8_snake 79 = .ok (.goto (-11), 3) := by decide +kernel
theorem dX8_snake_82 : decode cX8_snake 82 = .ok (.sipush 352, 3) := by decide +kernel
theorem dX8_snake_85 : decode cX8_snake 85 = .ok (.iconst 4, 1) := by decide +kernel
theorem dX8_snake_86 : decode cX8_snake 86 = .ok (.iload_n 3, 1) := by decide +kernel
theorem dX8_snake_87 : decode cX8_snake 87 = .ok (.imul, 1) := by decide +kernel
theorem dX8_snake_88 : decode cX8_snake 88 = .ok (.iadd, 1) := by decide +kernel
theorem dX8_snake_89 : decode cX8_snake 89 = .ok (.istore 4, 2) := by decide +kernel
theorem dX8_snake_91 : decode cX8_snake 91 = .ok (.aload_n 0, 1) := by decide +kernel
theorem dX8_snake_92 : decode cX8_snake 92 = .ok (.getfield 7, 3) := by decide +kernel
theorem dX8_snake_95 : decode cX8_snake 95 = .ok (.iload 4, 2) := by decide +kernel
theorem dX8_snake_97 : decode cX8_snake 97 = .ok (.iconst 0, 1) := by decide +kernel
theorem dX8_snake_98 : decode cX8_snake 98 = .ok (.iadd, 1) := by decide +kernel
theorem dX8_snake_99 : decode cX8_snake 99 = .ok (.iload_n 1, 1) := by decide +kernel
theorem dX8_snake_100 : decode cX8_snake 100 = .ok (.iastore, 1) := by decide +kernel
theorem dX8_snake_101 : decode cX8_snake 101 = .ok (.aload_n 0, 1) := by decide +kernel
theorem dX8_snake_102 : decode cX8_snake 102 = .ok (.getfield 7, 3) := by decide +kernel
theorem dX8_snake_105 : decode cX8_snake 105 = .ok (.iload 4, 2) := by decide +kernel
theorem dX8_snake_107 : decode cX8_snake 107 = .ok (.iconst 1, 1) := by decide +kernel
theorem dX8_snake_108 : decode cX8_snake 108 = .ok (.iadd, 1) := by decide +kernel
theorem dX8_snake_109 : decode cX8_snake 109 = .ok (.iload_n 2, 1) := by decide +kernel
theorem dX8_snake_110 : decode cX8_snake 110 = .ok (.iastore, 1) := by decide +kernel
theorem dX8_snake_111 : decode cX8_snake 111 = .ok (.aload_n 0, 1) := by decide +kernel
theorem dX8_snake_112 : decode cX8_snake 112 = .ok (.getfield 7, 3) := by decide +kernel
theorem dX8_snake_115 : decode cX8_snake 115 = .ok (.iload 4, 2) := by decide +kernel
theorem dX8_snake_117 : decode cX8_snake 117 = .ok (.iconst 2, 1) := by decide +kernel
theorem dX8_snake_118 : decode cX8_snake 118 = .ok (.iadd, 1) := by decide +kernel
theorem dX8_snake_119 : decode cX8_snake 119 = .ok (.iconst 0, 1) := by decide +kernel
theorem dX8_snake_120 : decode cX8_snake 120 = .ok (.iastore, 1) := by decide +kernel
theorem dX8_snake_121 : decode cX8_snake 121 = .ok (.aload_n 0, 1) := by decide +kernel
theorem dX8_snake_122 : decode cX8_snake 122 = .ok (.getfield 7, 3) := by decide +kernel
theorem dX8_snake_125 : decode cX8_snake 125 = .ok (.iload 4, 2) := by decide +kernel
theorem dX8_snake_127 : decode cX8_snake 127 = .ok (.iconst 3, 1) := by decide +kernel
theorem dX8_snake_128 : decode cX8_snake 128 = .ok (.iadd, 1) := by decide +kernel
theorem dX8_snake_129 : decode cX8_snake 129 = .ok (.iconst 0, 1) := by decide +kernel
theorem dX8_snake_130 : decode cX8_snake 130 = .ok (.iastore, 1) := by decide +kernel
theorem dX8_snake_131 : decode cX8_snake 131 = .ok (.iload_n 3, 1) := by decide +kernel
theorem dX8_snake_132 : decode cX8_snake 132 = .ok (.ireturn, 1) := by decide +kernel
theorem dX8_charm_0 : decode cX8_charm 0 = .ok (.aload_n 0, 1) := by decide +kernel
theorem dX8_charm_1 : decode cX8_charm 1 = .ok (.iload_n 1, 1) := by decide +kernel
theorem dX8_charm_2 : decode cX8_charm 2 = .ok (.invokevirtual 113, 3) := by decide +kernel
theorem dX8_charm_5 : decode cX8_charm 5 = .ok (.ifCond .ne 5, 3) := by decide +kernel
theorem dX8_charm_8 : decode cX8_charm 8 = .ok (.iconst (-1), 1) := by decide +kernel
theorem dX8_charm_9 : decode cX8_charm 9 = .ok (.ireturn, 1) := by decide +kernel
theorem dX8_charm_10 : decode cX8_charm 10 = .ok (.iload_n 2, 1) := by decide +kernel
theorem dX8_charm_11 : decode cX8_charm 11 = .ok (.iconst 1, 1) := by decide +kernel
theorem dX8_charm_12 : decode cX8_charm 12 = .ok (.bipush 10, 2) := by decide +kernel
theorem dX8_charm_14 : decode cX8_charm 14 = .ok (.invokestatic 35, 3) := by decide +kernel
theorem dX8_charm_17 : decode cX8_charm 17 = .ok (.ifCond .ne 6, 3) := by decide +kernel
theorem dX8_charm_20 : decode cX8_charm 20 = .ok (.bipush (-2), 2) := by decide +kernel
theorem dX8_charm_22 : decode cX8_charm 22 = .ok (.ireturn, 1) := by decide +kernel
theorem dX8_charm_23 : decode cX8_charm 23 = .ok (.aload_n 0, 1) := by decide +kernel
theorem dX8_charm_24 : decode cX8_charm 24 = .ok (.invokevirtual 110, 3) := by decide +kernel
theorem dX8_charm_27 : decode cX8_charm 27 = .ok (.sipush 352, 3) := by decide +kernel
theorem dX8_charm_30 : decode cX8_charm 30 = .ok (.iconst 4, 1) := by decide +kernel
theorem dX8_charm_31 : decode cX8_charm 31 = .ok (.iload_n 1, 1) := by decide +kernel
theorem dX8_charm_32 : decode cX8_charm 32 = .ok (.imul, 1) := by decide +kernel
theorem dX8_charm_33 : decode cX8_charm 33 = .ok (.iadd, 1) := by decide +kernel
theorem dX8_charm_34 : decode cX8_charm 34 = .ok (.istore_n 3, 1) := by decide +kernel
theorem dX8_charm_35 : decode cX8_charm 35 = .ok (.aload_n 0, 1) := by decide +kernel
theorem dX8_charm_36 : decode cX8_charm 36 = .ok (.getfield 7, 3) := by decide +kernel
theorem dX8_charm_39 : decode cX8_charm 39 = .ok (.iload_n 3, 1) := by decide +kernel
theorem dX8_charm_40 : decode cX8_charm 40 = .ok (.iconst 2, 1) := by decide +kernel
theorem dX8_charm_41 : decode cX8_charm 41 = .ok (.iadd, 1) := by decide +kernel
theorem dX8_charm_42 : decode cX8_charm 42 = .ok (.iaload, 1) := by decide +kernel
theorem dX8_charm_43 : decode cX8_charm 43 = .ok (.istore 4, 2) := by decide +kernel
theorem dX8_charm_45 : decode cX8_charm 45 = .ok (.aload_n 0, 1) := by decide +kernel
theorem dX8_charm_46 : decode cX8_charm 46 = .ok (.getfield 7, 3) := by decide +kernel
theorem dX8_charm_49 : decode cX8_charm 49 = .ok (.iload_n 3, 1) := by decide +kernel
theorem dX8_charm_50 : decode cX8_charm 50 = .ok (.iconst 2, 1) := by decide +kernel
theorem dX8_charm_51 : decode cX8_charm 51 = .ok (.iadd, 1) := by decide +kernel
theorem dX8_charm_52 : decode cX8_charm 52 = .ok (.iload_n 2, 1) := by decide +kernel
theorem dX8_charm_53 : decode cX8_charm 53 = .ok (.bipush 10, 2) := by decide +kernel
theorem dX8_charm_55 : decode cX8_charm 55 = .ok (.if_icmp .ne 7, 3) := by decide +kernel
theorem dX8_charm_58 : decode cX8_charm 58 = .ok (.iconst 0, 1) := by decide +kernel
theorem dX8_charm_59 : decode cX8_charm 59 = .ok (.goto 7, 3) := by decide +kernel
theorem dX8_charm_62 : decode cX8_charm 62 = .ok (.iload 4, 2) := by decide +kernel
theorem dX8_charm_64 : decode cX8_charm 64 = .ok (.iload_n 2, 1) := by decide +kernel
theorem dX8_charm_65 : decode cX8_charm 65 = .ok (.iadd, 1) := by decide +kernel
theorem dX8_charm_66 : decode cX8_charm 66 = .ok (.iastore, 1) := by decide +kernel
theorem dX8_charm_67 : decode cX8_charm 67 = .ok (.aload_n 0, 1) := by decide +kernel
theorem dX8_charm_68 : decode cX8_charm 68 = .ok (.getfield 7, 3) := by decide +kernel
theorem dX8_charm_71 : decode cX8_charm 71 = .ok (.iload_n 3, 1) := by decide +kernel
theorem dX8_charm_72 : decode cX8_charm 72 = .ok (.iconst 0, 1) := by decide +kernel
theorem dX8_charm_73 : decode cX8_charm 73 = .ok (.iadd, 1) := by decide +kernel
theorem dX8_charm_74 : decode cX8_charm 74 = .ok (.iload_n 2, 1) := by decide +kernel
theorem dX8_charm_75 : decode cX8_charm 75 = .ok (.bipush 10, 2) := by decide +kernel
theorem dX8_charm_77 : decode cX8_charm 77 = .ok (.if_icmp .ne 7, 3) := by decide +kernel
theorem dX8_charm_80 : decode cX8_charm 80 = .ok (.iconst 0, 1) := by decide +kernel
theorem dX8_charm_81 : decode cX8_charm 81 = .ok (.goto 11, 3) := by decide +kernel
theorem dX8_charm_84 : decode cX8_charm 84 = .ok (.aload_n 0, 1) := by decide +kernel
theorem dX8_charm_85 : decode cX8_charm 85 = .ok (.getfield 7, 3) := by decide +kernel
theorem dX8_charm_88 : decode cX8_charm 88 = .ok (.iload_n 3, 1) := by decide +kernel
theorem dX8_charm_89 : decode cX8_charm 89 = .ok (.iconst 0, 1) := by decide +kernel
theorem dX8_charm_90 : decode cX8_charm 90 = .ok (.iadd, 1) := by decide +kernel
theorem dX8_charm_91 : decode cX8_charm 91 = .ok (.iaload, 1) := by decide +kernel
theorem dX8_charm_92 : decode cX8_charm 92 = .ok (.iastore, 1) := by decide +kernel
theorem dX8_charm_93 : decode cX8_charm 93 = .ok (.iload 4, 2) := by decide +kernel
theorem dX8_charm_95 : decode cX8_charm 95 = .ok (.ireturn, 1) := by decide +kernel
theorem dX8_turnError_0 : decode cX8_turnError 0 = .ok (.iload_n 1, 1) := by decide +kernel
theorem dX8_turnError_1 : decode cX8_turnError 1 = .ok (.iconst 1, 1) := by decide +kernel
theorem dX8_turnError_2 : decode cX8_turnError 2 = .ok (.bipush 6, 2) := by decide +kernel
theorem dX8_turnError_4 : decode cX8_turnError 4 = .ok (.invokestatic 35, 3) := by decide +kernel
theorem dX8_turnError_7 : decode cX8_turnError 7 = .ok (.ifCond .ne 8, 3) := by decide +kernel
theorem dX8_turnError_10 : decode cX8_turnError 10 = .ok (.bipush (-2), 2) := by decide +kernel
theorem dX8_turnError_12 : decode cX8_turnError 12 = .ok (.goto 16, 3) := by decide +kernel
theorem dX8_turnError_15 : decode cX8_turnError 15 = .ok (.aload_n 0, 1) := by decide +kernel
theorem dX8_turnError_16 : decode cX8_turnError 16 = .ok (.invokevirtual 92, 3) := by decide +kernel
theorem dX8_turnError_19 : decode cX8_turnError 19 = .ok (.ifCond .eq 8, 3) := by decide +kernel
theorem dX8_turnError_22 : decode cX8_turnError 22 = .ok (.bipush (-4), 2) := by decide +kernel
theorem dX8_turnError_24 : decode cX8_turnError 24 = .ok (.goto 4, 3) := by decide +kernel
theorem dX8_turnError_27 : decode cX8_turnError 27 = .ok (.iconst 0, 1) := by decide +kernel
theorem dX8_turnError_28 : decode cX8_turnError 28 = .ok (.ireturn, 1) := by decide +kernel
theorem dX8_turn_0 : decode cX8_turn 0 = .ok (.aload_n 0, 1) := by decide +kernel
theorem dX8_turn_1 : decode cX8_turn 1 = .ok (.iload_n 1, 1) := by decide +kernel
theorem dX8_turn_2 : decode cX8_turn 2 = .ok (.invokevirtual 116, 3) := by decide +kernel
theorem dX8_turn_5 : decode cX8_turn 5 = .ok (.istore_n 2, 1) := by decide +kernel
theorem dX8_turn_6 : decode cX8_turn 6 = .ok (.iload_n 2, 1) := by decide +kernel
theorem dX8_turn_7 : decode cX8_turn 7 = .ok (.ifCond .ge 5, 3) := by decide +kernel
theorem dX8_turn_10 : decode cX8_turn 10 = .ok (.iload_n 2, 1) := by decide +kernel
theorem dX8_turn_11 : decode cX8_turn 11 = .ok (.ireturn, 1) := by decide +kernel
theorem dX8_turn_12 : decode cX8_turn 12 = .ok (.aload_n 0, 1) := by decide +kernel
theorem dX8_turn_13 : decode cX8_turn 13 = .ok (.invokevirtual 110, 3) := by decide +kernel
theorem dX8_turn_16 : decode cX8_turn 16 = .ok (.aload_n 0, 1) := by decide +kernel
theorem dX8_turn_17 : decode cX8_turn 17 = .ok (.iload_n 1, 1) := by decide +kernel
theorem dX8_turn_18 : decode cX8_turn 18 = .ok (.invokevirtual 119, 3) := by decide +kernel
theorem dX8_turn_21 : decode cX8_turn 21 = .ok (.ireturn, 1) := by decide +kernel
theorem dX8_play_0 : decode cX8_play 0 = .ok (.iload_n 1, 1) := by decide +kernel
theorem dX8_play_1 : decode cX8_play 1 = .ok (.iconst 0, 1) := by decide +kernel
theorem dX8_play_2 : decode cX8_play 2 = .ok (.ldc 122, 2) := by decide +kernel
theorem dX8_play_4 : decode cX8_play 4 = .ok (.invokestatic 35, 3) := by decide +kernel
theorem dX8_play_7 : decode cX8_play 7 = .ok (.ifCond .eq 13, 3) := by decide +kernel
theorem dX8_play_10 : decode cX8_play 10 = .ok (.iload_n 2, 1) := by decide +kernel
theorem dX8_play_11 : decode cX8_play 11 = .ok (.iconst 1, 1) := by decide +kernel
theorem dX8_play_12 : decode cX8_play 12 = .ok (.bipush 50, 2) := by decide +kernel
theorem dX8_play_14 : decode cX8_play 14 = .ok (.invokestatic 35, 3) := by decide +kernel
theorem dX8_play_17 : decode cX8_play 17 = .ok (.ifCond .ne 6, 3) := by decide +kernel
theorem dX8_play_20 : decode cX8_play 20 = .ok (.bipush (-2), 2) := by decide +kernel
theorem dX8_play_22 : decode cX8_play 22 = .ok (.ireturn, 1) := by decide +kernel
theorem dX8_play_23 : decode cX8_play 23 = .ok (.aload_n 0, 1) := by decide +kernel
theorem dX8_play_24 : decode cX8_play 24 = .ok (.invokevirtual 92, 3) := by decide +kernel
theorem dX8_play_27 : decode cX8_play 27 = .ok (.ifCond .eq 6, 3) := by decide +kernel
theorem dX8_play_30 : decode cX8_play 30 = .ok (.bipush (-4), 2) := by decide +kernel
theorem dX8_play_32 : decode cX8_play 32 = .ok (.ireturn, 1) := by decide +kernel
theorem dX8_play_33 : decode cX8_play 33 = .ok (.aload_n 0, 1) := by decide +kernel
theorem dX8_play_34 : decode cX8_play 34 = .ok (.invokevirtual 110, 3) := by decide +kernel
theorem dX8_play_37 : decode cX8_play 37 = .ok (.iconst 0, 1) := by decide +kernel
theorem dX8_play_38 : decode cX8_play 38 = .ok (.istore_n 3, 1) := by decide +kernel
theorem dX8_play_39 : decode cX8_play 39 = .ok (.iload_n 1, 1) := by decide +kernel
theorem dX8_play_40 : decode cX8_play 40 = .ok (.istore 4, 2) := by decide +kernel
theorem dX8_play_42 : decode cX8_play 42 = .ok (.iload_n 3, 1) := by decide +kernel
theorem dX8_play_43 : decode cX8_play 43 = .ok (.iload_n 2, 1) := by decide +kernel
theorem dX8_play_44 : decode cX8_play 44 = .ok (.if_icmp .ge 33, 3) := by decide +kernel
theorem dX8_play_47 : decode cX8_play 47 = .ok (.aload_n 0, 1) := by decide +kernel
theorem dX8_play_48 : decode cX8_play 48 = .ok (.invokevirtual 92, 3) := by decide +kernel
theorem dX8_play_51 : decode cX8_play 51 = .ok (.ifCond .ne 26, 3) := by decide +kernel
theorem dX8_play_54 : decode cX8_play 54 = .ok (.iload 4, 2) := by decide +kernel
theorem dX8_play_56 : decode cX8_play 56 = .ok (.invokestatic 123, 3) := by decide +kernel
theorem dX8_play_59 : decode cX8_play 59 = .ok (.istore 4, 2) := by decide +kernel
theorem dX8_play_61 : decode cX8_play 61 = .ok (.aload_n 0, 1) := by decide +kernel
theorem dX8_play_62 : decode cX8_play 62 = .ok (.iload 4, 2) := by decide +kernel
theorem dX8_play_64 : decode cX8_play 64 = .ok (.invokestatic 126, 3) := by decide +kernel
theorem dX8_play_67 : decode cX8_play 67 = .ok (.invokevirtual 119, 3) := by decide +kernel
theorem dX8_play_70 : decode cX8_play 70 = .ok (.pop, 1) := by decide +kernel
theorem dX8_play_71 : decode cX8_play 71 = .ok (.iinc 3 1, 3) := by decide +kernel
theorem dX8_play_74 : decode cX8_play 74 = .ok (.goto (-32), 3) := by decide +kernel
theorem dX8_play_77 : decode cX8_play 77 = .ok (.iload_n 3, 1) := by decide +kernel
theorem dX8_play_78 : decode cX8_play 78 = .ok (.ireturn, 1) := by decide +kernel
theorem dX8_sell_0 : decode cX8_sell 0 = .ok (.aload_n 0, 1) := by decide +kernel
theorem dX8_sell_1 : decode cX8_sell 1 = .ok (.iload_n 1, 1) := by decide +kernel
theorem dX8_sell_2 : decode cX8_sell 2 = .ok (.iload_n 2, 1) := by decide +kernel
theorem dX8_sell_3 : decode cX8_sell 3 = .ok (.iload_n 3, 1) := by decide +kernel
theorem dX8_sell_4 : decode cX8_sell 4 = .ok (.iload 4, 2) := by decide +kernel
theorem dX8_sell_6 : decode cX8_sell 6 = .ok (.invokevirtual 129, 3) := by decide +kernel
theorem dX8_sell_9 : decode cX8_sell 9 = .ok (.istore 5, 2) := by decide +kernel
theorem dX8_sell_11 : decode cX8_sell 11 = .ok (.iload 5, 2) := by decide +kernel
theorem dX8_sell_13 : decode cX8_sell 13 = .ok (.ifCond .ge 6, 3) := by decide +kernel
theorem dX8_sell_16 : decode cX8_sell 16 = .ok (.iload 5, 2) := by decide +kernel
theorem dX8_sell_18 : decode cX8_sell 18 = .ok (.ireturn, 1) := by decide +kernel
theorem dX8_sell_19 : decode cX8_sell 19 = .ok (.aload_n 0, 1) := by decide +kernel
theorem dX8_sell_20 : decode cX8_sell 20 = .ok (.iload_n 1, 1) := by decide +kernel
theorem dX8_sell_21 : decode cX8_sell 21 = .ok (.iload_n 2, 1) := by decide +kernel
theorem dX8_sell_22 : decode cX8_sell 22 = .ok (.iload_n 3, 1) := by decide +kernel
theorem dX8_sell_23 : decode cX8_sell 23 = .ok (.iload 4, 2) := by decide +kernel
theorem dX8_sell_25 : decode cX8_sell 25 = .ok (.invokevirtual 133, 3) := by decide +kernel
theorem dX8_sell_28 : decode cX8_sell 28 = .ok (.istore 6, 2) := by decide +kernel
theorem dX8_sell_30 : decode cX8_sell 30 = .ok (.iload 6, 2) := by decide +kernel
theorem dX8_sell_32 : decode cX8_sell 32 = .ok (.ifCond .le 9, 3) := by decide +kernel
theorem dX8_sell_35 : decode cX8_sell 35 = .ok (.bipush (-10), 2) := by decide +kernel
theorem dX8_sell_37 : decode cX8_sell 37 = .ok (.iload 6, 2) := by decide +kernel
theorem dX8_sell_39 : decode cX8_sell 39 = .ok (.isub, 1) := by decide +kernel
theorem dX8_sell_40 : decode cX8_sell 40 = .ok (.ireturn, 1) := by decide +kernel
theorem dX8_sell_41 : decode cX8_sell 41 = .ok (.aload_n 0, 1) := by decide +kernel
theorem dX8_sell_42 : decode cX8_sell 42 = .ok (.invokevirtual 110, 3) := by decide +kernel
theorem dX8_sell_45 : decode cX8_sell 45 = .ok (.aload_n 0, 1) := by decide +kernel
theorem dX8_sell_46 : decode cX8_sell 46 = .ok (.iload_n 1, 1) := by decide +kernel
theorem dX8_sell_47 : decode cX8_sell 47 = .ok (.iload_n 2, 1) := by decide +kernel
theorem dX8_sell_48 : decode cX8_sell 48 = .ok (.iload_n 3, 1) := by decide +kernel
theorem dX8_sell_49 : decode cX8_sell 49 = .ok (.iload 4, 2) := by decide +kernel
theorem dX8_sell_51 : decode cX8_sell 51 = .ok (.invokevirtual 136, 3) := by decide +kernel
theorem dX8_sell_54 : decode cX8_sell 54 = .ok (.ireturn, 1) := by decide +kernel
theorem dX8_set_0 : decode cX8_set 0 = .ok (.iload_n 1, 1) := by decide +kernel
theorem dX8_set_1 : decode cX8_set 1 = .ok (.iconst 0, 1) := by decide +kernel
theorem dX8_set_2 : decode cX8_set 2 = .ok (.iconst 2, 1) := by decide +kernel
theorem dX8_set_3 : decode cX8_set 3 = .ok (.invokestatic 35, 3) := by decide +kernel
theorem dX8_set_6 : decode cX8_set 6 = .ok (.ifCond .ne 5, 3) := by decide +kernel
theorem dX8_set_9 : decode cX8_set 9 = .ok (.iconst (-1), 1) := by decide +kernel
theorem dX8_set_10 : decode cX8_set 10 = .ok (.ireturn, 1) := by decide +kernel
theorem dX8_set_11 : decode cX8_set 11 = .ok (.iload_n 2, 1) := by decide +kernel
theorem dX8_set_12 : decode cX8_set 12 = .ok (.iload_n 1, 1) := by decide +kernel
theorem dX8_set_13 : decode cX8_set 13 = .ok (.iconst 2, 1) := by decide +kernel
theorem dX8_set_14 : decode cX8_set 14 = .ok (.if_icmp .ne 7, 3) := by decide +kernel
theorem dX8_set_17 : decode cX8_set 17 = .ok (.iconst 1, 1) := by decide +kernel
theorem dX8_set_18 : decode cX8_set 18 = .ok (.goto 4, 3) := by decide +kernel
theorem dX8_set_21 : decode cX8_set 21 = .ok (.iconst 0, 1) := by decide +kernel
theorem dX8_set_22 : decode cX8_set 22 = .ok (.iload_n 1, 1) := by decide +kernel
theorem dX8_set_23 : decode cX8_set 23 = .ok (.ifCond .ne 8, 3) := by decide +kernel
theorem dX8_set_26 : decode cX8_set 26 = .ok (.bipush 9, 2) := by decide +kernel
theorem dX8_set_28 : decode cX8_set 28 = .ok (.goto 14, 3) := by decide +kernel
theorem dX8_set_31 : decode cX8_set 31 = .ok (.iload_n 1, 1) := by decide +kernel
theorem dX8_set_32 : decode cX8_set 32 = .ok (.iconst 1, 1) := by decide +kernel
theorem dX8_set_33 : decode cX8_set 33 = .ok (.if_icmp .ne 8, 3) := by decide +kernel
theorem dX8_set_36 : decode cX8_set 36 = .ok (.bipush 50, 2) := by decide +kernel
theorem dX8_set_38 : decode cX8_set 38 = .ok (.goto 4, 3) := by decide +kernel
theorem dX8_set_41 : decode cX8_set 41 = .ok (.iconst 3, 1) := by decide +kernel
theorem dX8_set_42 : decode cX8_set 42 = .ok (.invokestatic 35, 3) := by decide +kernel
theorem dX8_set_45 : decode cX8_set 45 = .ok (.ifCond .ne 6, 3) := by decide +kernel
theorem dX8_set_48 : decode cX8_set 48 = .ok (.bipush (-2), 2) := by decide +kernel
theorem dX8_set_50 : decode cX8_set 50 = .ok (.ireturn, 1) := by decide +kernel
theorem dX8_set_51 : decode cX8_set 51 = .ok (.aload_n 0, 1) := by decide +kernel
theorem dX8_set_52 : decode cX8_set 52 = .ok (.invokevirtual 110, 3) := by decide +kernel
theorem dX8_set_55 : decode cX8_set 55 = .ok (.aload_n 0, 1) := by decide +kernel
theorem dX8_set_56 : decode cX8_set 56 = .ok (.getfield 7, 3) := by decide +kernel
theorem dX8_set_59 : decode cX8_set 59 = .ok (.iconst 5, 1) := by decide +kernel
theorem dX8_set_60 : decode cX8_set 60 = .ok (.iload_n 1, 1) := by decide +kernel
theorem dX8_set_61 : decode cX8_set 61 = .ok (.iadd, 1) := by decide +kernel
theorem dX8_set_62 : decode cX8_set 62 = .ok (.iaload, 1) := by decide +kernel
theorem dX8_set_63 : decode cX8_set 63 = .ok (.istore_n 3, 1) := by decide +kernel
theorem dX8_set_64 : decode cX8_set 64 = .ok (.aload_n 0, 1) := by decide +kernel
theorem dX8_set_65 : decode cX8_set 65 = .ok (.getfield 7, 3) := by decide +kernel
theorem dX8_set_68 : decode cX8_set 68 = .ok (.iconst 5, 1) := by decide +kernel
theorem dX8_set_69 : decode cX8_set 69 = .ok (.iload_n 1, 1) := by decide +kernel
theorem dX8_set_70 : decode cX8_set 70 = .ok (.iadd, 1) := by decide +kernel
theorem dX8_set_71 : decode cX8_set 71 = .ok (.iload_n 2, 1) := by decide +kernel
theorem dX8_set_72 : decode cX8_set 72 = .ok (.iastore, 1) := by decide +kernel
theorem dX8_set_73 : decode cX8_set 73 = .ok (.iload_n 3, 1) := by decide +kernel
theorem dX8_set_74 : decode cX8_set 74 = .ok (.ireturn, 1) := by decide +kernel
theorem dX8_append_0 : decode cX8_append 0 = .ok (.iload_n 1, 1) := by decide +kernel
theorem dX8_append_1 : decode cX8_append 1 = .ok (.bipush 32, 2) := by decide +kernel
theorem dX8_append_3 : decode cX8_append 3 = .ok (.bipush 126, 2) := by decide +kernel
theorem dX8_append_5 : decode cX8_append 5 = .ok (.invokestatic 35, 3) := by decide +kernel
theorem dX8_append_8 : decode cX8_append 8 = .ok (.ifCond .ne 6, 3) := by decide +kernel
theorem dX8_append_11 : decode cX8_append 11 = .ok (.bipush (-2), 2) := by decide +kernel
theorem dX8_append_13 : decode cX8_append 13 = .ok (.ireturn, 1) := by decide +kernel
theorem dX8_append_14 : decode cX8_append 14 = .ok (.aload_n 0, 1) := by decide +kernel
theorem dX8_append_15 : decode cX8_append 15 = .ok (.getfield 139, 3) := by decide +kernel
theorem dX8_append_18 : decode cX8_append 18 = .ok (.bipush 60, 2) := by decide +kernel
theorem dX8_append_20 : decode cX8_append 20 = .ok (.if_icmp .ne 6, 3) := by decide +kernel
theorem dX8_append_23 : decode cX8_append 23 = .ok (.bipush (-3), 2) := by decide +kernel
theorem dX8_append_25 : decode cX8_append 25 = .ok (.ireturn, 1) := by decide +kernel
theorem dX8_append_26 : decode cX8_append 26 = .ok (.aload_n 0, 1) := by decide +kernel
theorem dX8_append_27 : decode cX8_append 27 = .ok (.getfield 22, 3) := by decide +kernel
theorem dX8_append_30 : decode cX8_append 30 = .ok (.aload_n 0, 1) := by decide +kernel
theorem dX8_append_31 : decode cX8_append 31 = .ok (.getfield 139, 3) := by decide +kernel
theorem dX8_append_34 : decode cX8_append 34 = .ok (.iload_n 1, 1) := by decide +kernel
theorem dX8_append_35 : decode cX8_append 35 = .ok (.iastore, 1) := by decide +kernel
theorem dX8_append_36 : decode cX8_append 36 = .ok (.aload_n 0, 1) := by decide +kernel
theorem dX8_append_37 : decode cX8_append 37 = .ok (.dup, 1) := by decide +kernel
theorem dX8_append_38 : decode cX8_append 38 = .ok (.getfield 139, 3) := by decide +kernel
theorem dX8_append_41 : decode cX8_append 41 = .ok (.iconst 1, 1) := by decide +kernel
theorem dX8_append_42 : decode cX8_append 42 = .ok (.iadd, 1) := by decide +kernel
theorem dX8_append_43 : decode cX8_append 43 = .ok (.putfield 139, 3) := by decide +kernel
theorem dX8_append_46 : decode cX8_append 46 = .ok (.aload_n 0, 1) := by decide +kernel
theorem dX8_append_47 : decode cX8_append 47 = .ok (.getfield 139, 3) := by decide +kernel
theorem dX8_append_50 : decode cX8_append 50 = .ok (.ireturn, 1) := by decide +kernel
theorem dX8_clearText_0 : decode cX8_clearText 0 = .ok (.aload_n 0, 1) := by decide +kernel
theorem dX8_clearText_1 : decode cX8_clearText 1 = .ok (.getfield 139, 3) := by decide +kernel
theorem dX8_clearText_4 : decode cX8_clearText 4 = .ok (.istore_n 1, 1) := by decide +kernel
theorem dX8_clearText_5 : decode cX8_clearText 5 = .ok (.aload_n 0, 1) := by decide +kernel
theorem dX8_clearText_6 : decode cX8_clearText 6 = .ok (.iconst 0, 1) := by decide +kernel
theorem dX8_clearText_7 : decode cX8_clearText 7 = .ok (.putfield 139, 3) := by decide +kernel
theorem dX8_clearText_10 : decode cX8_clearText 10 = .ok (.iload_n 1, 1) := by decide +kernel
theorem dX8_clearText_11 : decode cX8_clearText 11 = .ok (.ireturn, 1) := by decide +kernel
theorem dX8_isNext_0 : decode cX8_isNext 0 = .ok (.aload_n 0, 1) := by decide +kernel
theorem dX8_isNext_1 : decode cX8_isNext 1 = .ok (.getfield 142, 3) := by decide +kernel
theorem dX8_isNext_4 : decode cX8_isNext 4 = .ok (.aload_n 0, 1) := by decide +kernel
theorem dX8_isNext_5 : decode cX8_isNext 5 = .ok (.getfield 139, 3) := by decide +kernel
theorem dX8_isNext_8 : decode cX8_isNext 8 = .ok (.if_icmp .ge 24, 3) := by decide +kernel
theorem dX8_isNext_11 : decode cX8_isNext 11 = .ok (.aload_n 0, 1) := by decide +kernel
theorem dX8_isNext_12 : decode cX8_isNext 12 = .ok (.getfield 22, 3) := by decide +kernel
theorem dX8_isNext_15 : decode cX8_isNext 15 = .ok (.aload_n 0, 1) := by decide +kernel
theorem dX8_isNext_16 : decode cX8_isNext 16 = .ok (.getfield 142, 3) := by decide +kernel
theorem dX8_isNext_19 : decode cX8_isNext 19 = .ok (.iaload, 1) := by decide +kernel
theorem dX8_isNext_20 : decode cX8_isNext 20 = .ok (.iload_n 1, 1) := by decide +kernel
theorem dX8_isNext_21 : decode cX8_isNext 21 = .ok (.iload_n 2, 1) := by decide +kernel
theorem dX8_isNext_22 : decode cX8_isNext 22 = .ok (.invokestatic 35, 3) := by decide +kernel
theorem dX8_isNext_25 : decode cX8_isNext 25 = .ok (.ifCond .eq 7, 3) := by decide +kernel
theorem dX8_isNext_28 : decode cX8_isNext 28 = .ok (.iconst 1, 1) := by decide +kernel
theorem dX8_isNext_29 : decode cX8_isNext 29 = .ok (.goto 4, 3) := by decide +kernel
theorem dX8_isNext_32 : decode cX8_isNext 32 = .ok (.iconst 0, 1) := by decide +kernel
theorem dX8_isNext_33 : decode cX8_isNext 33 = .ok (.ireturn, 1) := by decide +kernel
theorem dX8_takes_0 : decode cX8_takes 0 = .ok (.aload_n 0, 1) := by decide +kernel
theorem dX8_takes_1 : decode cX8_takes 1 = .ok (.iload_n 1, 1) := by decide +kernel
theorem dX8_takes_2 : decode cX8_takes 2 = .ok (.iload_n 1, 1) := by decide +kernel
theorem dX8_takes_3 : decode cX8_takes 3 = .ok (.invokevirtual 145, 3) := by decide +kernel
theorem dX8_takes_6 : decode cX8_takes 6 = .ok (.istore_n 2, 1) := by decide +kernel
theorem dX8_takes_7 : decode cX8_takes 7 = .ok (.aload_n 0, 1) := by decide +kernel
theorem dX8_takes_8 : decode cX8_takes 8 = .ok (.dup, 1) := by decide +kernel
theorem dX8_takes_9 : decode cX8_takes 9 = .ok (.getfield 142, 3) := by decide +kernel
theorem dX8_takes_12 : decode cX8_takes 12 = .ok (.iload_n 2, 1) := by decide +kernel
theorem dX8_takes_13 : decode cX8_takes 13 = .ok (.ifCond .eq 7, 3) := by decide +kernel
theorem dX8_takes_16 : decode cX8_takes 16 = .ok (.iconst 1, 1) := by decide +kernel
theorem dX8_takes_17 : decode cX8_takes 17 = .ok (.goto 4, 3) := by decide +kernel
theorem dX8_takes_20 : decode cX8_takes 20 = .ok (.iconst 0, 1) := by decide +kernel
theorem dX8_takes_21 : decode cX8_takes 21 = .ok (.iadd, 1) := by decide +kernel
theorem dX8_takes_22 : decode cX8_takes 22 = .ok (.putfield 142, 3) := by decide +kernel
theorem dX8_takes_25 : decode cX8_takes 25 = .ok (.iload_n 2, 1) := by decide +kernel
theorem dX8_takes_26 : decode cX8_takes 26 = .ok (.ireturn, 1) := by decide +kernel
theorem dX8_take_0 : decode cX8_take 0 = .ok (.aload_n 0, 1) := by decide +kernel
theorem dX8_take_1 : decode cX8_take 1 = .ok (.iload_n 2, 1) := by decide +kernel
theorem dX8_take_2 : decode cX8_take 2 = .ok (.iload_n 3, 1) := by decide +kernel
theorem dX8_take_3 : decode cX8_take 3 = .ok (.invokevirtual 145, 3) := by decide +kernel
theorem dX8_take_6 : decode cX8_take 6 = .ok (.istore 4, 2) := by decide +kernel
theorem dX8_take_8 : decode cX8_take 8 = .ok (.aload_n 0, 1) := by decide +kernel
theorem dX8_take_9 : decode cX8_take 9 = .ok (.getfield 25, 3) := by decide +kernel
theorem dX8_take_12 : decode cX8_take 12 = .ok (.iload_n 1, 1) := by decide +kernel
theorem dX8_take_13 : decode cX8_take 13 = .ok (.iload 4, 2) := by decide +kernel
theorem dX8_take_15 : decode cX8_take 15 = .ok (.ifCond .eq 17, 3) := by decide +kernel
theorem dX8_take_18 : decode cX8_take 18 = .ok (.aload_n 0, 1) := by decide +kernel
theorem dX8_take_19 : decode cX8_take 19 = .ok (.getfield 22, 3) := by decide +kernel
theorem dX8_take_22 : decode cX8_take 22 = .ok (.aload_n 0, 1) := by decide +kernel
theorem dX8_take_23 : decode cX8_take 23 = .ok (.getfield 142, 3) := by decide +kernel
theorem dX8_take_26 : decode cX8_take 26 = .ok (.iaload, 1) := by decide +kernel
theorem dX8_take_27 : decode cX8_take 27 = .ok (.iload_n 2, 1) := by decide +kernel
theorem dX8_take_28 : decode cX8_take 28 = .ok (.isub, 1) := by decide +kernel
theorem dX8_take_29 : decode cX8_take 29 = .ok (.goto 4, 3) := by decide +kernel
theorem dX8_take_32 : decode cX8_take 32 = .ok (.iconst 0, 1) := by decide +kernel
theorem dX8_take_33 : decode cX8_take 33 = .ok (.iastore, 1) := by decide +kernel
theorem dX8_take_34 : decode cX8_take 34 = .ok (.aload_n 0, 1) := by decide +kernel
theorem dX8_take_35 : decode cX8_take 35 = .ok (.dup, 1) := by decide +kernel
theorem dX8_take_36 : decode cX8_take 36 = .ok (.getfield 142, 3) := by decide +kernel
theorem dX8_take_39 : decode cX8_take 39 = .ok (.iload 4, 2) := by decide +kernel
theorem dX8_take_41 : decode cX8_take 41 = .ok (.ifCond .eq 7, 3) := by decide +kernel
theorem dX8_take_44 : decode cX8_take 44 = .ok (.iconst 1, 1) := by decide +kernel
theorem dX8_take_45 : decode cX8_take 45 = .ok (.goto 4, 3) := by decide +kernel
theorem dX8_take_48 : decode cX8_take 48 = .ok (.iconst 0, 1) := by decide +kernel
theorem dX8_take_49 : decode cX8_take 49 = .ok (.iadd, 1) := by decide +kernel
theorem dX8_take_50 : decode cX8_take 50 = .ok (.putfield 142, 3) := by decide +kernel
theorem dX8_take_53 : decode cX8_take 53 = .ok (.iload 4, 2) := by decide +kernel
theorem dX8_take_55 : decode cX8_take 55 = .ok (.ireturn, 1) := by decide +kernel
theorem dX8_readCoins_0 : decode cX8_readCoins 0 = .ok (.aload_n 0, 1) := by decide +kernel
theorem dX8_readCoins_1 : decode cX8_readCoins 1 = .ok (.iconst 3, 1) := by decide +kernel
theorem dX8_readCoins_2 : decode cX8_readCoins 2 = .ok (.bipush 48, 2) := by decide +kernel
theorem dX8_readCoins_4 : decode cX8_readCoins 4 = .ok (.bipush 57, 2) := by decide +kernel
theorem dX8_readCoins_6 : decode cX8_readCoins 6 = .ok (.invokevirtual 148, 3) := by decide +kernel
theorem dX8_readCoins_9 : decode cX8_readCoins 9 = .ok (.ifCond .ne 5, 3) := by decide +kernel
theorem dX8_readCoins_12 : decode cX8_readCoins 12 = .ok (.iconst 0, 1) := by decide +kernel
theorem dX8_readCoins_13 : decode cX8_readCoins 13 = .ok (.ireturn, 1) := by decide +kernel
theorem dX8_readCoins_14 : decode cX8_readCoins 14 = .ok (.aload_n 0, 1) := by decide +kernel
theorem dX8_readCoins_15 : decode cX8_readCoins 15 = .ok (.getfield 25, 3) := by decide +kernel
theorem dX8_readCoins_18 : decode cX8_readCoins 18 = .ok (.iconst 3, 1) := by decide +kernel
theorem dX8_readCoins_19 : decode cX8_readCoins 19 = .ok (.iaload, 1) := by decide +kernel
theorem dX8_readCoins_20 : decode cX8_readCoins 20 = .ok (.ifCond .le 52, 3) := by decide +kernel
theorem dX8_readCoins_23 : decode cX8_readCoins 23 = .ok (.aload_n 0, 1) := by decide +kernel
theorem dX8_readCoins_24 : decode cX8_readCoins 24 = .ok (.bipush 48, 2) := by decide +kernel
theorem dX8_readCoins_26 : decode cX8_readCoins 26 = .ok (.bipush 57, 2) := by decide +kernel
theorem dX8_readCoins_28 : decode cX8_readCoins 28 = .ok (.invokevirtual 145, 3) := by decide +kernel
theorem dX8_readCoins_31 : decode cX8_readCoins 31 = .ok (.ifCond .eq 41, 3) := by decide +kernel
theorem dX8_readCoins_34 : decode cX8_readCoins 34 = .ok (.aload_n 0, 1) := by decide +kernel
theorem dX8_readCoins_35 : decode cX8_readCoins 35 = .ok (.getfield 25, 3) := by decide +kernel
theorem dX8_readCoins_38 : decode cX8_readCoins 38 = .ok (.iconst 3, 1) := by decide +kernel
theorem dX8_readCoins_39 : decode cX8_readCoins 39 = .ok (.bipush 10, 2) := by decide +kernel
theorem dX8_readCoins_41 : decode cX8_readCoins 41 = .ok (.aload_n 0, 1) := by decide +kernel
theorem dX8_readCoins_42 : decode cX8_readCoins 42 = .ok (.getfield 25, 3) := by decide +kernel
theorem dX8_readCoins_45 : decode cX8_readCoins 45 = .ok (.iconst 3, 1) := by decide +kernel
theorem dX8_readCoins_46 : decode cX8_readCoins 46 = .ok (.iaload, 1) := by decide +kernel
theorem dX8_readCoins_47 : decode cX8_readCoins 47 = .ok (.imul, 1) := by decide +kernel
theorem dX8_readCoins_48 : decode cX8_readCoins 48 = .ok (.aload_n 0, 1) := by decide +kernel
theorem dX8_readCoins_49 : decode cX8_readCoins 49 = .ok (.getfield 22, 3) := by decide +kernel
theorem dX8_readCoins_52 : decode cX8_readCoins 52 = .ok (.aload_n 0, 1) := by decide +kernel
theorem dX8_readCoins_53 : decode cX8_readCoins 53 = .ok (.getfield 142, 3) := by decide +kernel
theorem dX8_readCoins_56 : decode cX8_readCoins 56 = .ok (.iaload, 1) := by decide +kernel
theorem dX8_readCoins_57 : decode cX8_readCoins 57 = .ok (.iadd, 1) := by decide +kernel
theorem dX8_readCoins_58 : decode cX8_readCoins 58 = .ok (.bipush 48, 2) := by decide +kernel
theorem dX8_readCoins_60 : decode cX8_readCoins 60 = .ok (.isub, 1) := by decide +kernel
theorem dX8_readCoins_61 : decode cX8_readCoins 61 = .ok (.iastore, 1) := by decide +kernel
theorem dX8_readCoins_62 : decode cX8_readCoins 62 = .ok (.aload_n 0, 1) := by decide +kernel
theorem dX8_readCoins_63 : decode cX8_readCoins 63 = .ok (.dup, 1) := by decide +kernel
theorem dX8_readCoins_64 : decode cX8_readCoins 64 = .ok (.getfield 142, 3) := by decide +kernel
theorem dX8_readCoins_67 : decode cX8_readCoins 67 = .ok (.iconst 1, 1) := by decide +kernel
theorem dX8_readCoins_68 : decode cX8_readCoins 68 = .ok (.iadd, 1) := by decide +kernel
theorem dX8_readCoins_69 : decode cX8_readCoins 69 = .ok (.putfield 142, 3) := by decide +kernel
theorem dX8_readCoins_72 : decode cX8_readCoins 72 = .ok (.iconst 1, 1) := by decide +kernel
theorem dX8_readCoins_73 : decode cX8_readCoins 73 = .ok (.ireturn, 1) := by decide +kernel
theorem dX8_readOrder_0 : decode cX8_readOrder 0 = .ok (.aload_n 0, 1) := by decide +kernel
theorem dX8_readOrder_1 : decode cX8_readOrder 1 = .ok (.aload_n 0, 1) := by decide +kernel
theorem dX8_readOrder_2 : decode cX8_readOrder 2 = .ok (.bipush 49, 2) := by decide +kernel
theorem dX8_readOrder_4 : decode cX8_readOrder 4 = .ok (.bipush 54, 2) := by decide +kernel
theorem dX8_readOrder_6 : decode cX8_readOrder 6 = .ok (.invokevirtual 145, 3) := by decide +kernel
theorem dX8_readOrder_9 : decode cX8_readOrder 9 = .ok (.ifCond .eq 18, 3) := by decide +kernel
theorem dX8_readOrder_12 : decode cX8_readOrder 12 = .ok (.aload_n 0, 1) := by decide +kernel
theorem dX8_readOrder_13 : decode cX8_readOrder 13 = .ok (.getfield 22, 3) := by decide +kernel
theorem dX8_readOrder_16 : decode cX8_readOrder 16 = .ok (.aload_n 0, 1) := by decide +kernel
theorem dX8_readOrder_17 : decode cX8_readOrder 17 = .ok (.getfield 142, 3) := by decide +kernel
theorem dX8_readOrder_20 : decode cX8_readOrder 20 = .ok (.iaload, 1) := by decide +kernel
theorem dX8_readOrder_21 : decode cX8_readOrder 21 = .ok (.bipush 48, 2) := by decide +kernel
theorem dX8_readOrder_23 : decode cX8_readOrder 23 = .ok (.isub, 1) := by decide +kernel
theorem dX8_readOrder_24 : decode cX8_readOrder 24 = .ok (.goto 4, 3) := by decide +kernel
theorem dX8_readOrder_27 : decode cX8_readOrder 27 = .ok (.iconst 0, 1) := by decide +kernel
theorem dX8_readOrder_28 : decode cX8_readOrder 28 = .ok (.putfield 151, 3) := by decide +kernel
theorem dX8_readOrder_31 : decode cX8_readOrder 31 = .ok (.aload_n 0, 1) := by decide +kernel
theorem dX8_readOrder_32 : decode cX8_readOrder 32 = .ok (.getfield 151, 3) := by decide +kernel
theorem dX8_readOrder_35 : decode cX8_readOrder 35 = .ok (.ifCond .le 15, 3) := by decide +kernel
theorem dX8_readOrder_38 : decode cX8_readOrder 38 = .ok (.aload_n 0, 1) := by decide +kernel
theorem dX8_readOrder_39 : decode cX8_readOrder 39 = .ok (.dup, 1) := by decide +kernel
theorem dX8_readOrder_40 : decode cX8_readOrder 40 = .ok (.getfield 142, 3) := by decide +kernel
theorem dX8_readOrder_43 : decode cX8_readOrder 43 = .ok (.iconst 1, 1) := by decide +kernel
theorem dX8_readOrder_44 : decode cX8_readOrder 44 = .ok (.iadd, 1) := by decide +kernel
theorem dX8_readOrder_45 : decode cX8_readOrder 45 = .ok (.putfield 142, 3) := by decide +kernel
theorem dX8_readOrder_48 : decode cX8_readOrder 48 = .ok (.iconst 1, 1) := by decide +kernel
theorem dX8_readOrder_49 : decode cX8_readOrder 49 = .ok (.ireturn, 1) := by decide +kernel
theorem dX8_readOrder_50 : decode cX8_readOrder 50 = .ok (.aload_n 0, 1) := by decide +kernel
theorem dX8_readOrder_51 : decode cX8_readOrder 51 = .ok (.bipush 40, 2) := by decide +kernel
theorem dX8_readOrder_53 : decode cX8_readOrder 53 = .ok (.invokevirtual 154, 3) := by decide +kernel
theorem dX8_readOrder_56 : decode cX8_readOrder 56 = .ok (.ifCond .eq 77, 3) := by decide +kernel
theorem dX8_readOrder_59 : decode cX8_readOrder 59 = .ok (.aload_n 0, 1) := by decide +kernel
theorem dX8_readOrder_60 : decode cX8_readOrder 60 = .ok (.iconst 0, 1) := by decide +kernel
theorem dX8_readOrder_61 : decode cX8_readOrder 61 = .ok (.bipush 48, 2) := by decide +kernel
theorem dX8_readOrder_63 : decode cX8_readOrder 63 = .ok (.bipush 51, 2) := by decide +kernel
theorem dX8_readOrder_65 : decode cX8_readOrder 65 = .ok (.invokevirtual 148, 3) := by decide +kernel
theorem dX8_readOrder_68 : decode cX8_readOrder 68 = .ok (.ifCond .eq 65, 3) := by decide +kernel
theorem dX8_readOrder_71 : decode cX8_readOrder 71 = .ok (.aload_n 0, 1) := by decide +kernel
theorem dX8_readOrder_72 : decode cX8_readOrder 72 = .ok (.iconst 1, 1) := by decide +kernel
theorem dX8_readOrder_73 : decode cX8_readOrder 73 = .ok (.bipush 97, 2) := by decide +kernel
theorem dX8_readOrder_75 : decode cX8_readOrder 75 = .ok (.bipush 104, 2) := by decide +kernel
theorem dX8_readOrder_77 : decode cX8_readOrder 77 = .ok (.invokevirtual 148, 3) := by decide +kernel
theorem dX8_readOrder_80 : decode cX8_readOrder 80 = .ok (.ifCond .eq 53, 3) := by decide +kernel
theorem dX8_readOrder_83 : decode cX8_readOrder 83 = .ok (.aload_n 0, 1) := by decide +kernel
theorem dX8_readOrder_84 : decode cX8_readOrder 84 = .ok (.bipush 62, 2) := by decide +kernel
theorem dX8_readOrder_86 : decode cX8_readOrder 86 = .ok (.invokevirtual 154, 3) := by decide +kernel
theorem dX8_readOrder_89 : decode cX8_readOrder 89 = .ok (.ifCond .eq 44, 3) := by decide +kernel
theorem dX8_readOrder_92 : decode cX8_readOrder 92 = .ok (.aload_n 0, 1) := by decide +kernel
theorem dX8_readOrder_93 : decode cX8_readOrder 93 = .ok (.iconst 2, 1) := by decide +kernel
theorem dX8_readOrder_94 : decode cX8_readOrder 94 = .ok (.bipush 48, 2) := by decide +kernel
theorem dX8_readOrder_96 : decode cX8_readOrder 96 = .ok (.bipush 51, 2) := by decide +kernel
theorem dX8_readOrder_98 : decode cX8_readOrder 98 = .ok (.invokevirtual 148, 3) := by decide +kernel
theorem dX8_readOrder_101 : decode cX8_readOrder 101 = .ok (.ifCond .eq 32, 3) := by decide +kernel
theorem dX8_readOrder_104 : decode cX8_readOrder 104 = .ok (.aload_n 0, 1) := by decide +kernel
theorem dX8_readOrder_105 : decode cX8_readOrder 105 = .ok (.bipush 36, 2) := by decide +kernel
theorem dX8_readOrder_107 : decode cX8_readOrder 107 = .ok (.invokevirtual 154, 3) := by decide +kernel
theorem dX8_readOrder_110 : decode cX8_readOrder 110 = .ok (.ifCond .eq 23, 3) := by decide +kernel
theorem dX8_readOrder_113 : decode cX8_readOrder 113 = .ok (.aload_n 0, 1) := by decide +kernel
theorem dX8_readOrder_114 : decode cX8_readOrder 114 = .ok (.invokevirtual 157, 3) := by decide +kernel
theorem dX8_readOrder_117 : decode cX8_readOrder 117 = .ok (.ifCond .eq 16, 3) := by decide +kernel
theorem dX8_readOrder_120 : decode cX8_readOrder 120 = .ok (.aload_n 0, 1) := by decide +kernel
theorem dX8_readOrder_121 : decode cX8_readOrder 121 = .ok (.bipush 41, 2) := by decide +kernel
theorem dX8_readOrder_123 : decode cX8_readOrder 123 = .ok (.invokevirtual 154, 3) := by decide +kernel
theorem dX8_readOrder_126 : decode cX8_readOrder 126 = .ok (.ifCond .eq 7, 3) := by decide +kernel
theorem dX8_readOrder_129 : decode cX8_readOrder 129 = .ok (.iconst 1, 1) := by decide +kernel
theorem dX8_readOrder_130 : decode cX8_readOrder 130 = .ok (.goto 4, 3) := by decide +kernel
theorem dX8_readOrder_133 : decode cX8_readOrder 133 = .ok (.iconst 0, 1) := by decide +kernel
theorem dX8_readOrder_134 : decode cX8_readOrder 134 = .ok (.ireturn, 1) := by decide +kernel
theorem dX8_does_0 : decode cX8_does 0 = .ok (.aload_n 0, 1) := by decide +kernel
theorem dX8_does_1 : decode cX8_does 1 = .ok (.getfield 151, 3) := by decide +kernel
theorem dX8_does_4 : decode cX8_does 4 = .ok (.ifCond .le 31, 3) := by decide +kernel
theorem dX8_does_7 : decode cX8_does 7 = .ok (.aload_n 0, 1) := by decide +kernel
theorem dX8_does_8 : decode cX8_does 8 = .ok (.aload_n 0, 1) := by decide +kernel
theorem dX8_does_9 : decode cX8_does 9 = .ok (.getfield 151, 3) := by decide +kernel
theorem dX8_does_12 : decode cX8_does 12 = .ok (.invokevirtual 116, 3) := by decide +kernel
theorem dX8_does_15 : decode cX8_does 15 = .ok (.ifCond .ne 18, 3) := by decide +kernel
theorem dX8_does_18 : decode cX8_does 18 = .ok (.aload_n 0, 1) := by decide +kernel
theorem dX8_does_19 : decode cX8_does 19 = .ok (.aload_n 0, 1) := by decide +kernel
theorem dX8_does_20 : decode cX8_does 20 = .ok (.getfield 151, 3) := by decide +kernel
theorem dX8_does_23 : decode cX8_does 23 = .ok (.invokevirtual 119, 3) := by decide +kernel
theorem dX8_does_26 : decode cX8_does 26 = .ok (.ifCond .lt 7, 3) := by decide +kernel
theorem dX8_does_29 : decode cX8_does 29 = .ok (.iconst 1, 1) := by decide +kernel
theorem dX8_does_30 : decode cX8_does 30 = .ok (.goto 4, 3) := by decide +kernel
theorem dX8_does_33 : decode cX8_does 33 = .ok (.iconst 0, 1) := by decide +kernel
theorem dX8_does_34 : decode cX8_does 34 = .ok (.ireturn, 1) := by decide +kernel
theorem dX8_does_35 : decode cX8_does 35 = .ok (.aload_n 0, 1) := by decide +kernel
theorem dX8_does_36 : decode cX8_does 36 = .ok (.aload_n 0, 1) := by decide +kernel
theorem dX8_does_37 : decode cX8_does 37 = .ok (.getfield 25, 3) := by decide +kernel
theorem dX8_does_40 : decode cX8_does 40 = .ok (.iconst 0, 1) := by decide +kernel
theorem dX8_does_41 : decode cX8_does 41 = .ok (.iaload, 1) := by decide +kernel
theorem dX8_does_42 : decode cX8_does 42 = .ok (.aload_n 0, 1) := by decide +kernel
theorem dX8_does_43 : decode cX8_does 43 = .ok (.getfield 25, 3) := by decide +kernel
theorem dX8_does_46 : decode cX8_does 46 = .ok (.iconst 1, 1) := by decide +kernel
theorem dX8_does_47 : decode cX8_does 47 = .ok (.iaload, 1) := by decide +kernel
theorem dX8_does_48 : decode cX8_does 48 = .ok (.aload_n 0, 1) := by decide +kernel
theorem dX8_does_49 : decode cX8_does 49 = .ok (.getfield 25, 3) := by decide +kernel
theorem dX8_does_52 : decode cX8_does 52 = .ok (.iconst 2, 1) := by decide +kernel
theorem dX8_does_53 : decode cX8_does 53 = .ok (.iaload, 1) := by decide +kernel
theorem dX8_does_54 : decode cX8_does 54 = .ok (.aload_n 0, 1) := by decide +kernel
theorem dX8_does_55 : decode cX8_does 55 = .ok (.getfield 25, 3) := by decide +kernel
theorem dX8_does_58 : decode cX8_does 58 = .ok (.iconst 3, 1) := by decide +kernel
theorem dX8_does_59 : decode cX8_does 59 = .ok (.iaload, 1) := by decide +kernel
theorem dX8_does_60 : decode cX8_does 60 = .ok (.invokevirtual 129, 3) := by decide +kernel
theorem dX8_does_63 : decode cX8_does 63 = .ok (.ifCond .ne 38, 3) := by decide +kernel
theorem dX8_does_66 : decode cX8_does 66 = .ok (.aload_n 0, 1) := by decide +kernel
theorem dX8_does_67 : decode cX8_does 67 = .ok (.aload_n 0, 1) := by decide +kernel
theorem dX8_does_68 : decode cX8_does 68 = .ok (.getfield 25, 3) := by decide +kernel
theorem dX8_does_71 : decode cX8_does 71 = .ok (.iconst 0, 1) := by decide +kernel
theorem dX8_does_72 : decode cX8_does 72 = .ok (.iaload, 1) := by decide +kernel
theorem dX8_does_73 : decode cX8_does 73 = .ok (.aload_n 0, 1) := by decide +kernel
theorem dX8_does_74 : decode cX8_does 74 = .ok (.getfield 25, 3) := by decide +kernel
theorem dX8_does_77 : decode cX8_does 77 = .ok (.iconst 1, 1) := by decide +kernel
theorem dX8_does_78 : decode cX8_does 78 = .ok (.iaload, 1) := by decide +kernel
theorem dX8_does_79 : decode cX8_does 79 = .ok (.aload_n 0, 1) := by decide +kernel
theorem dX8_does_80 : decode cX8_does 80 = .ok (.getfield 25, 3) := by decide +kernel
theorem dX8_does_83 : decode cX8_does 83 = .ok (.iconst 2, 1) := by decide +kernel
theorem dX8_does_84 : decode cX8_does 84 = .ok (.iaload, 1) := by decide +kernel
theorem dX8_does_85 : decode cX8_does 85 = .ok (.aload_n 0, 1) := by decide +kernel
theorem dX8_does_86 : decode cX8_does 86 = .ok (.getfield 25, 3) := by decide +kernel
theorem dX8_does_89 : decode cX8_does 89 = .ok (.iconst 3, 1) := by decide +kernel
theorem dX8_does_90 : decode cX8_does 90 = .ok (.iaload, 1) := by decide +kernel
theorem dX8_does_91 : decode cX8_does 91 = .ok (.invokevirtual 133, 3) := by decide +kernel
theorem dX8_does_94 : decode cX8_does 94 = .ok (.ifCond .ne 7, 3) := by decide +kernel
theorem dX8_does_97 : decode cX8_does 97 = .ok (.iconst 1, 1) := by decide +kernel
theorem dX8_does_98 : decode cX8_does 98 = .ok (.goto 4, 3) := by decide +kernel
theorem dX8_does_101 : decode cX8_does 101 = .ok (.iconst 0, 1) := by decide +kernel
theorem dX8_does_102 : decode cX8_does 102 = .ok (.istore_n 1, 1) := by decide +kernel
theorem dX8_does_103 : decode cX8_does 103 = .ok (.iload_n 1, 1) := by decide +kernel
theorem dX8_does_104 : decode cX8_does 104 = .ok (.ifCond .eq 38, 3) := by decide +kernel
theorem dX8_does_107 : decode cX8_does 107 = .ok (.aload_n 0, 1) := by decide +kernel
theorem dX8_does_108 : decode cX8_does 108 = .ok (.aload_n 0, 1) := by decide +kernel
theorem dX8_does_109 : decode cX8_does 109 = .ok (.getfield 25, 3) := by decide +kernel
theorem dX8_does_112 : decode cX8_does 112 = .ok (.iconst 0, 1) := by decide +kernel
theorem dX8_does_113 : decode cX8_does 113 = .ok (.iaload, 1) := by decide +kernel
theorem dX8_does_114 : decode cX8_does 114 = .ok (.aload_n 0, 1) := by decide +kernel
theorem dX8_does_115 : decode cX8_does 115 = .ok (.getfield 25, 3) := by decide +kernel
theorem dX8_does_118 : decode cX8_does 118 = .ok (.iconst 1, 1) := by decide +kernel
theorem dX8_does_119 : decode cX8_does 119 = .ok (.iaload, 1) := by decide +kernel
theorem dX8_does_120 : decode cX8_does 120 = .ok (.aload_n 0, 1) := by decide +kernel
theorem dX8_does_121 : decode cX8_does 121 = .ok (.getfield 25, 3) := by decide +kernel
theorem dX8_does_124 : decode cX8_does 124 = .ok (.iconst 2, 1) := by decide +kernel
theorem dX8_does_125 : decode cX8_does 125 = .ok (.iaload, 1) := by decide +kernel
theorem dX8_does_126 : decode cX8_does 126 = .ok (.aload_n 0, 1) := by decide +kernel
theorem dX8_does_127 : decode cX8_does 127 = .ok (.getfield 25, 3) := by decide +kernel
theorem dX8_does_130 : decode cX8_does 130 = .ok (.iconst 3, 1) := by decide +kernel
theorem dX8_does_131 : decode cX8_does 131 = .ok (.iaload, 1) := by decide +kernel
theorem dX8_does_132 : decode cX8_does 132 = .ok (.invokevirtual 136, 3) := by decide +kernel
theorem dX8_does_135 : decode cX8_does 135 = .ok (.ifCond .lt 7, 3) := by decide +kernel
theorem dX8_does_138 : decode cX8_does 138 = .ok (.iconst 1, 1) := by decide +kernel
theorem dX8_does_139 : decode cX8_does 139 = .ok (.goto 4, 3) := by decide +kernel
theorem dX8_does_142 : decode cX8_does 142 = .ok (.iconst 0, 1) := by decide +kernel
theorem dX8_does_143 : decode cX8_does 143 = .ok (.ireturn, 1) := by decide +kernel
theorem dX8_readText_0 : decode cX8_readText 0 = .ok (.aload_n 0, 1) := by decide +kernel
theorem dX8_readText_1 : decode cX8_readText 1 = .ok (.iconst 0, 1) := by decide +kernel
theorem dX8_readText_2 : decode cX8_readText 2 = .ok (.putfield 142, 3) := by decide +kernel
theorem dX8_readText_5 : decode cX8_readText 5 = .ok (.aload_n 0, 1) := by decide +kernel
theorem dX8_readText_6 : decode cX8_readText 6 = .ok (.iconst 0, 1) := by decide +kernel
theorem dX8_readText_7 : decode cX8_readText 7 = .ok (.putfield 160, 3) := by decide +kernel
theorem dX8_readText_10 : decode cX8_readText 10 = .ok (.aload_n 0, 1) := by decide +kernel
theorem dX8_readText_11 : decode cX8_readText 11 = .ok (.invokevirtual 163, 3) := by decide +kernel
theorem dX8_readText_14 : decode cX8_readText 14 = .ok (.istore_n 2, 1) := by decide +kernel
theorem dX8_readText_15 : decode cX8_readText 15 = .ok (.iload_n 2, 1) := by decide +kernel
theorem dX8_readText_16 : decode cX8_readText 16 = .ok (.ifCond .eq 47, 3) := by decide +kernel
theorem dX8_readText_19 : decode cX8_readText 19 = .ok (.iload_n 1, 1) := by decide +kernel
theorem dX8_readText_20 : decode cX8_readText 20 = .ok (.ifCond .eq 12, 3) := by decide +kernel
theorem dX8_readText_23 : decode cX8_readText 23 = .ok (.aload_n 0, 1) := by decide +kernel
theorem dX8_readText_24 : decode cX8_readText 24 = .ok (.invokevirtual 166, 3) := by decide +kernel
theorem dX8_readText_27 : decode cX8_readText 27 = .ok (.ifCond .ne 5, 3) := by decide +kernel
theorem dX8_readText_30 : decode cX8_readText 30 = .ok (.iconst 1, 1) := by decide +kernel
theorem dX8_readText_31 : decode cX8_readText 31 = .ok (.ireturn, 1) := by decide +kernel
theorem dX8_readText_32 : decode cX8_readText 32 = .ok (.aload_n 0, 1) := by decide +kernel
theorem dX8_readText_33 : decode cX8_readText 33 = .ok (.dup, 1) := by decide +kernel
theorem dX8_readText_34 : decode cX8_readText 34 = .ok (.getfield 160, 3) := by decide +kernel
theorem dX8_readText_37 : decode cX8_readText 37 = .ok (.iconst 1, 1) := by decide +kernel
theorem dX8_readText_38 : decode cX8_readText 38 = .ok (.iadd, 1) := by decide +kernel
theorem dX8_readText_39 : decode cX8_readText 39 = .ok (.putfield 160, 3) := by decide +kernel
theorem dX8_readText_42 : decode cX8_readText 42 = .ok (.aload_n 0, 1) := by decide +kernel
theorem dX8_readText_43 : decode cX8_readText 43 = .ok (.getfield 142, 3) := by decide +kernel
theorem dX8_readText_46 : decode cX8_readText 46 = .ok (.aload_n 0, 1) := by decide +kernel
theorem dX8_readText_47 : decode cX8_readText 47 = .ok (.getfield 139, 3) := by decide +kernel
theorem dX8_readText_50 : decode cX8_readText 50 = .ok (.if_icmp .ne 5, 3) := by decide +kernel
theorem dX8_readText_53 : decode cX8_readText 53 = .ok (.iconst 1, 1) := by decide +kernel
theorem dX8_readText_54 : decode cX8_readText 54 = .ok (.ireturn, 1) := by decide +kernel
theorem dX8_readText_55 : decode cX8_readText 55 = .ok (.aload_n 0, 1) := by decide +kernel
theorem dX8_readText_56 : decode cX8_readText 56 = .ok (.invokevirtual 163, 3) := by decide +kernel
theorem dX8_readText_59 : decode cX8_readText 59 = .ok (.istore_n 2, 1) := by decide +kernel
theorem dX8_readText_60 : decode cX8_readText 60 = .ok (.goto (-45), 3) := by decide +kernel
theorem dX8_readText_63 : decode cX8_readText 63 = .ok (.iconst 0, 1) := by decide +kernel
theorem dX8_readText_64 : decode cX8_readText 64 = .ok (.ireturn, 1) := by decide +kernel
theorem dX8_fault_0 : decode cX8_fault 0 = .ok (.aload_n 0, 1) := by decide +kernel
theorem dX8_fault_1 : decode cX8_fault 1 = .ok (.iconst 0, 1) := by decide +kernel
theorem dX8_fault_2 : decode cX8_fault 2 = .ok (.invokevirtual 169, 3) := by decide +kernel
theorem dX8_fault_5 : decode cX8_fault 5 = .ok (.ifCond .eq 8, 3) := by decide +kernel
theorem dX8_fault_8 : decode cX8_fault 8 = .ok (.bipush (-5), 2) := by decide +kernel
theorem dX8_fault_10 : decode cX8_fault 10 = .ok (.goto 7, 3) := by decide +kernel
theorem dX8_fault_13 : decode cX8_fault 13 = .ok (.aload_n 0, 1) := by decide +kernel
theorem dX8_fault_14 : decode cX8_fault 14 = .ok (.getfield 142, 3) := by decide +kernel
theorem dX8_fault_17 : decode cX8_fault 17 = .ok (.ireturn, 1) := by decide +kernel
theorem dX8_run_0 : decode cX8_run 0 = .ok (.aload_n 0, 1) := by decide +kernel
theorem dX8_run_1 : decode cX8_run 1 = .ok (.iconst 0, 1) := by decide +kernel
theorem dX8_run_2 : decode cX8_run 2 = .ok (.invokevirtual 169, 3) := by decide +kernel
theorem dX8_run_5 : decode cX8_run 5 = .ok (.ifCond .ne 11, 3) := by decide +kernel
theorem dX8_run_8 : decode cX8_run 8 = .ok (.bipush (-100), 2) := by decide +kernel
theorem dX8_run_10 : decode cX8_run 10 = .ok (.aload_n 0, 1) := by decide +kernel
theorem dX8_run_11 : decode cX8_run 11 = .ok (.getfield 142, 3) := by decide +kernel
theorem dX8_run_14 : decode cX8_run 14 = .ok (.isub, 1) := by decide +kernel
theorem dX8_run_15 : decode cX8_run 15 = .ok (.ireturn, 1) := by decide +kernel
theorem dX8_run_16 : decode cX8_run 16 = .ok (.aload_n 0, 1) := by decide +kernel
theorem dX8_run_17 : decode cX8_run 17 = .ok (.invokevirtual 110, 3) := by decide +kernel
theorem dX8_run_20 : decode cX8_run 20 = .ok (.aload_n 0, 1) := by decide +kernel
theorem dX8_run_21 : decode cX8_run 21 = .ok (.iconst 1, 1) := by decide +kernel
theorem dX8_run_22 : decode cX8_run 22 = .ok (.invokevirtual 169, 3) := by decide +kernel
theorem dX8_run_25 : decode cX8_run 25 = .ok (.ifCond .eq 10, 3) := by decide +kernel
theorem dX8_run_28 : decode cX8_run 28 = .ok (.aload_n 0, 1) := by decide +kernel
theorem dX8_run_29 : decode cX8_run 29 = .ok (.getfield 160, 3) := by decide +kernel
theorem dX8_run_32 : decode cX8_run 32 = .ok (.goto 4, 3) := by decide +kernel
theorem dX8_run_35 : decode cX8_run 35 = .ok (.iconst 0, 1) := by decide +kernel
theorem dX8_run_36 : decode cX8_run 36 = .ok (.ireturn, 1) := by decide +kernel
theorem dX8_undo_0 : decode cX8_undo 0 = .ok (.aload_n 0, 1) := by decide +kernel
theorem dX8_undo_1 : decode cX8_undo 1 = .ok (.getfield 50, 3) := by decide +kernel
theorem dX8_undo_4 : decode cX8_undo 4 = .ok (.ifCond .ne 6, 3) := by decide +kernel
theorem dX8_undo_7 : decode cX8_undo 7 = .ok (.bipush (-5), 2) := by decide +kernel
theorem dX8_undo_9 : decode cX8_undo 9 = .ok (.ireturn, 1) := by decide +kernel
theorem dX8_undo_10 : decode cX8_undo 10 = .ok (.aload_n 0, 1) := by decide +kernel
theorem dX8_undo_11 : decode cX8_undo 11 = .ok (.dup, 1) := by decide +kernel
theorem dX8_undo_12 : decode cX8_undo 12 = .ok (.getfield 50, 3) := by decide +kernel
theorem dX8_undo_15 : decode cX8_undo 15 = .ok (.iconst 1, 1) := by decide +kernel
theorem dX8_undo_16 : decode cX8_undo 16 = .ok (.isub, 1) := by decide +kernel
theorem dX8_undo_17 : decode cX8_undo 17 = .ok (.putfield 50, 3) := by decide +kernel
theorem dX8_undo_20 : decode cX8_undo 20 = .ok (.aload_n 0, 1) := by decide +kernel
theorem dX8_undo_21 : decode cX8_undo 21 = .ok (.getfield 13, 3) := by decide +kernel
theorem dX8_undo_24 : decode cX8_undo 24 = .ok (.sipush 392, 3) := by decide +kernel
theorem dX8_undo_27 : decode cX8_undo 27 = .ok (.aload_n 0, 1) := by decide +kernel
theorem dX8_undo_28 : decode cX8_undo 28 = .ok (.getfield 50, 3) := by decide +kernel
theorem dX8_undo_31 : decode cX8_undo 31 = .ok (.imul, 1) := by decide +kernel
theorem dX8_undo_32 : decode cX8_undo 32 = .ok (.aload_n 0, 1) := by decide +kernel
theorem dX8_undo_33 : decode cX8_undo 33 = .ok (.getfield 7, 3) := by decide +kernel
theorem dX8_undo_36 : decode cX8_undo 36 = .ok (.iconst 0, 1) := by decide +kernel
theorem dX8_undo_37 : decode cX8_undo 37 = .ok (.invokestatic 54, 3) := by decide +kernel
theorem dX8_undo_40 : decode cX8_undo 40 = .ok (.aload_n 0, 1) := by decide +kernel
theorem dX8_undo_41 : decode cX8_undo 41 = .ok (.getfield 50, 3) := by decide +kernel
theorem dX8_undo_44 : decode cX8_undo 44 = .ok (.ireturn, 1) := by decide +kernel
theorem dX8_save_0 : decode cX8_save 0 = .ok (.aload_n 0, 1) := by decide +kernel
theorem dX8_save_1 : decode cX8_save 1 = .ok (.getfield 7, 3) := by decide +kernel
theorem dX8_save_4 : decode cX8_save 4 = .ok (.iconst 0, 1) := by decide +kernel
theorem dX8_save_5 : decode cX8_save 5 = .ok (.aload_n 0, 1) := by decide +kernel
theorem dX8_save_6 : decode cX8_save 6 = .ok (.getfield 16, 3) := by decide +kernel
theorem dX8_save_9 : decode cX8_save 9 = .ok (.iconst 0, 1) := by decide +kernel
theorem dX8_save_10 : decode cX8_save 10 = .ok (.invokestatic 54, 3) := by decide +kernel
theorem dX8_save_13 : decode cX8_save 13 = .ok (.aload_n 0, 1) := by decide +kernel
theorem dX8_save_14 : decode cX8_save 14 = .ok (.iconst 1, 1) := by decide +kernel
theorem dX8_save_15 : decode cX8_save 15 = .ok (.putfield 173, 3) := by decide +kernel
theorem dX8_save_18 : decode cX8_save 18 = .ok (.aload_n 0, 1) := by decide +kernel
theorem dX8_save_19 : decode cX8_save 19 = .ok (.getfield 7, 3) := by decide +kernel
theorem dX8_save_22 : decode cX8_save 22 = .ok (.iconst 0, 1) := by decide +kernel
theorem dX8_save_23 : decode cX8_save 23 = .ok (.iaload, 1) := by decide +kernel
theorem dX8_save_24 : decode cX8_save 24 = .ok (.ireturn, 1) := by decide +kernel
theorem dX8_restore_0 : decode cX8_restore 0 = .ok (.aload_n 0, 1) := by decide +kernel
theorem dX8_restore_1 : decode cX8_restore 1 = .ok (.getfield 173, 3) := by decide +kernel
theorem dX8_restore_4 : decode cX8_restore 4 = .ok (.ifCond .ne 6, 3) := by decide +kernel
theorem dX8_restore_7 : decode cX8_restore 7 = .ok (.bipush (-4), 2) := by decide +kernel
theorem dX8_restore_9 : decode cX8_restore 9 = .ok (.ireturn, 1) := by decide +kernel
theorem dX8_restore_10 : decode cX8_restore 10 = .ok (.aload_n 0, 1) := by decide +kernel
theorem dX8_restore_11 : decode cX8_restore 11 = .ok (.invokevirtual 110, 3) := by decide +kernel
theorem dX8_restore_14 : decode cX8_restore 14 = .ok (.aload_n 0, 1) := by decide +kernel
theorem dX8_restore_15 : decode cX8_restore 15 = .ok (.getfield 16, 3) := by decide +kernel
theorem dX8_restore_18 : decode cX8_restore 18 = .ok (.iconst 0, 1) := by decide +kernel
theorem dX8_restore_19 : decode cX8_restore 19 = .ok (.aload_n 0, 1) := by decide +kernel
theorem dX8_restore_20 : decode cX8_restore 20 = .ok (.getfield 7, 3) := by decide +kernel
theorem dX8_restore_23 : decode cX8_restore 23 = .ok (.iconst 0, 1) := by decide +kernel
theorem dX8_restore_24 : decode cX8_restore 24 = .ok (.invokestatic 54, 3) := by decide +kernel
theorem dX8_restore_27 : decode cX8_restore 27 = .ok (.aload_n 0, 1) := by decide +kernel
theorem dX8_restore_28 : decode cX8_restore 28 = .ok (.getfield 7, 3) := by decide +kernel
theorem dX8_restore_31 : decode cX8_restore 31 = .ok (.iconst 0, 1) := by decide +kernel
theorem dX8_restore_32 : decode cX8_restore 32 = .ok (.iaload, 1) := by decide +kernel
theorem dX8_restore_33 : decode cX8_restore 33 = .ok (.ireturn, 1) := by decide +kernel
theorem dX8_player_0 : decode cX8_player 0 = .ok (.iload_n 1, 1) := by decide +kernel
theorem dX8_player_1 : decode cX8_player 1 = .ok (.invokestatic 39, 3) := by decide +kernel
theorem dX8_player_4 : decode cX8_player 4 = .ok (.ifCond .ne 5, 3) := by decide +kernel
theorem dX8_player_7 : decode cX8_player 7 = .ok (.iconst (-1), 1) := by decide +kernel
theorem dX8_player_8 : decode cX8_player 8 = .ok (.ireturn, 1) := by decide +kernel
theorem dX8_player_9 : decode cX8_player 9 = .ok (.iload_n 2, 1) := by decide +kernel
theorem dX8_player_10 : decode cX8_player 10 = .ok (.tableswitch 117 0 7 #[46, 53, 64, 71, 77, 83, 103, 110], 46) := by decide +kernel
theorem dX8_player_56 : decode cX8_player 56 = .ok (.aload_n 0, 1) := by decide +kernel
theorem dX8_player_57 : decode cX8_player 57 = .ok (.iload_n 1, 1) := by decide +kernel
theorem dX8_player_58 : decode cX8_player 58 = .ok (.iconst 0, 1) := by decide +kernel
theorem dX8_player_59 : decode cX8_player 59 = .ok (.invokevirtual 43, 3) := by decide +kernel
theorem dX8_player_62 : decode cX8_player 62 = .ok (.ireturn, 1) := by decide +kernel
theorem dX8_player_63 : decode cX8_player 63 = .ok (.aload_n 0, 1) := by decide +kernel
theorem dX8_player_64 : decode cX8_player 64 = .ok (.iload_n 1, 1) := by decide +kernel
theorem dX8_player_65 : decode cX8_player 65 = .ok (.iconst 1, 1) := by decide +kernel
theorem dX8_player_66 : decode cX8_player 66 = .ok (.invokevirtual 43, 3) := by decide +kernel
theorem dX8_player_69 : decode cX8_player 69 = .ok (.sipush 1000, 3) := by decide +kernel
theorem dX8_player_72 : decode cX8_player 72 = .ok (.iadd, 1) := by decide +kernel
theorem dX8_player_73 : decode cX8_player 73 = .ok (.ireturn, 1) := by decide +kernel
theorem dX8_player_74 : decode cX8_player 74 = .ok (.aload_n 0, 1) := by decide +kernel
theorem dX8_player_75 : decode cX8_player 75 = .ok (.iload_n 1, 1) := by decide +kernel
theorem dX8_player_76 : decode cX8_player 76 = .ok (.iconst 5, 1) := by decide +kernel
theorem dX8_player_77 : decode cX8_player 77 = .ok (.invokevirtual 43, 3) := by decide +kernel
theorem dX8_player_80 : decode cX8_player 80 = .ok (.ireturn, 1) := by decide +kernel
theorem dX8_player_81 : decode cX8_player 81 = .ok (.aload_n 0, 1) := by decide +kernel
theorem dX8_player_82 : decode cX8_player 82 = .ok (.iload_n 1, 1) := by decide +kernel
theorem dX8_player_83 : decode cX8_player 83 = .ok (.invokevirtual 61, 3) := by decide +kernel
theorem dX8_player_86 : decode cX8_player 86 = .ok (.ireturn, 1) := by decide +kernel
theorem dX8_player_87 : decode cX8_player 87 = .ok (.aload_n 0, 1) := by decide +kernel
theorem dX8_player_88 : decode cX8_player 88 = .ok (.iload_n 1, 1) := by decide +kernel
theorem dX8_player_89 : decode cX8_player 89 = .ok (.invokevirtual 79, 3) := by decide +kernel
theorem dX8_player_92 : decode cX8_player 92 = .ok (.ireturn, 1) := by decide +kernel
theorem dX8_player_93 : decode cX8_player 93 = .ok (.aload_n 0, 1) := by decide +kernel
theorem dX8_player_94 : decode cX8_player 94 = .ok (.iload_n 1, 1) := by decide +kernel
theorem dX8_player_95 : decode cX8_player 95 = .ok (.invokevirtual 96, 3) := by decide +kernel
theorem dX8_player_98 : decode cX8_player 98 = .ok (.ifCond .eq 8, 3) := by decide +kernel
theorem dX8_player_101 : decode cX8_player 101 = .ok (.bipush (-5), 2) := by decide +kernel
theorem dX8_player_103 : decode cX8_player 103 = .ok (.goto 9, 3) := by decide +kernel
theorem dX8_player_106 : decode cX8_player 106 = .ok (.aload_n 0, 1) := by decide +kernel
theorem dX8_player_107 : decode cX8_player 107 = .ok (.iload_n 1, 1) := by decide +kernel
theorem dX8_player_108 : decode cX8_player 108 = .ok (.iconst 2, 1) := by decide +kernel
theorem dX8_player_109 : decode cX8_player 109 = .ok (.invokevirtual 43, 3) := by decide +kernel
theorem dX8_player_112 : decode cX8_player 112 = .ok (.ireturn, 1) := by decide +kernel
theorem dX8_player_113 : decode cX8_player 113 = .ok (.aload_n 0, 1) := by decide +kernel
theorem dX8_player_114 : decode cX8_player 114 = .ok (.iload_n 1, 1) := by decide +kernel
theorem dX8_player_115 : decode cX8_player 115 = .ok (.iconst 3, 1) := by decide +kernel
theorem dX8_player_116 : decode cX8_player 116 = .ok (.invokevirtual 43, 3) := by decide +kernel
theorem dX8_player_119 : decode cX8_player 119 = .ok (.ireturn, 1) := by decide +kernel
theorem dX8_player_120 : decode cX8_player 120 = .ok (.aload_n 0, 1) := by decide +kernel
theorem dX8_player_121 : decode cX8_player 121 = .ok (.iload_n 1, 1) := by decide +kernel
theorem dX8_player_122 : decode cX8_player 122 = .ok (.iconst 4, 1) := by decide +kernel
theorem dX8_player_123 : decode cX8_player 123 = .ok (.invokevirtual 43, 3) := by decide +kernel
theorem dX8_player_126 : decode cX8_player 126 = .ok (.ireturn, 1) := by decide +kernel
theorem dX8_player_127 : decode cX8_player 127 = .ok (.bipush (-2), 2) := by decide +kernel
theorem dX8_player_129 : decode cX8_player 129 = .ok (.ireturn, 1) := by decide +kernel
theorem dX8_bite_0 : decode cX8_bite 0 = .ok (.aload_n 0, 1) := by decide +kernel
theorem dX8_bite_1 : decode cX8_bite 1 = .ok (.iload_n 1, 1) := by decide +kernel
theorem dX8_bite_2 : decode cX8_bite 2 = .ok (.iload_n 2, 1) := by decide +kernel
theorem dX8_bite_3 : decode cX8_bite 3 = .ok (.invokevirtual 103, 3) := by decide +kernel
theorem dX8_bite_6 : decode cX8_bite 6 = .ok (.ifCond .ne 5, 3) := by decide +kernel
theorem dX8_bite_9 : decode cX8_bite 9 = .ok (.iconst (-1), 1) := by decide +kernel
theorem dX8_bite_10 : decode cX8_bite 10 = .ok (.ireturn, 1) := by decide +kernel
theorem dX8_bite_11 : decode cX8_bite 11 = .ok (.iload_n 3, 1) := by decide +kernel
theorem dX8_bite_12 : decode cX8_bite 12 = .ok (.iconst 0, 1) := by decide +kernel
theorem dX8_bite_13 : decode cX8_bite 13 = .ok (.iconst 3, 1) := by decide +kernel
theorem dX8_bite_14 : decode cX8_bite 14 = .ok (.invokestatic 35, 3) := by decide +kernel
theorem dX8_bite_17 : decode cX8_bite 17 = .ok (.ifCond .eq 18, 3) := by decide +kernel
theorem dX8_bite_20 : decode cX8_bite 20 = .ok (.aload_n 0, 1) := by decide +kernel
theorem dX8_bite_21 : decode cX8_bite 21 = .ok (.getfield 7, 3) := by decide +kernel
theorem dX8_bite_24 : decode cX8_bite 24 = .ok (.iload_n 1, 1) := by decide +kernel
theorem dX8_bite_25 : decode cX8_bite 25 = .ok (.iload_n 2, 1) := by decide +kernel
theorem dX8_bite_26 : decode cX8_bite 26 = .ok (.invokestatic 58, 3) := by decide +kernel
theorem dX8_bite_29 : decode cX8_bite 29 = .ok (.iload_n 3, 1) := by decide +kernel
theorem dX8_bite_30 : decode cX8_bite 30 = .ok (.iadd, 1) := by decide +kernel
theorem dX8_bite_31 : decode cX8_bite 31 = .ok (.iaload, 1) := by decide +kernel
theorem dX8_bite_32 : decode cX8_bite 32 = .ok (.goto 5, 3) := by decide +kernel
theorem dX8_bite_35 : decode cX8_bite 35 = .ok (.bipush (-2), 2) := by decide +kernel
theorem dX8_bite_37 : decode cX8_bite 37 = .ok (.ireturn, 1) := by decide +kernel
theorem dX8_snakeOf_0 : decode cX8_snakeOf 0 = .ok (.aload_n 0, 1) := by decide +kernel
theorem dX8_snakeOf_1 : decode cX8_snakeOf 1 = .ok (.iload_n 1, 1) := by decide +kernel
theorem dX8_snakeOf_2 : decode cX8_snakeOf 2 = .ok (.invokevirtual 113, 3) := by decide +kernel
theorem dX8_snakeOf_5 : decode cX8_snakeOf 5 = .ok (.ifCond .ne 5, 3) := by decide +kernel
theorem dX8_snakeOf_8 : decode cX8_snakeOf 8 = .ok (.iconst (-1), 1) := by decide +kernel
theorem dX8_snakeOf_9 : decode cX8_snakeOf 9 = .ok (.ireturn, 1) := by decide +kernel
theorem dX8_snakeOf_10 : decode cX8_snakeOf 10 = .ok (.iload_n 2, 1) := by decide +kernel
theorem dX8_snakeOf_11 : decode cX8_snakeOf 11 = .ok (.iconst 0, 1) := by decide +kernel
theorem dX8_snakeOf_12 : decode cX8_snakeOf 12 = .ok (.iconst 3, 1) := by decide +kernel
theorem dX8_snakeOf_13 : decode cX8_snakeOf 13 = .ok (.invokestatic 35, 3) := by decide +kernel
theorem dX8_snakeOf_16 : decode cX8_snakeOf 16 = .ok (.ifCond .eq 12, 3) := by decide +kernel
theorem dX8_snakeOf_19 : decode cX8_snakeOf 19 = .ok (.aload_n 0, 1) := by decide +kernel
theorem dX8_snakeOf_20 : decode cX8_snakeOf 20 = .ok (.iload_n 1, 1) := by decide +kernel
theorem dX8_snakeOf_21 : decode cX8_snakeOf 21 = .ok (.iload_n 2, 1) := by decide +kernel
theorem dX8_snakeOf_22 : decode cX8_snakeOf 22 = .ok (.invokevirtual 47, 3) := by decide +kernel
theorem dX8_snakeOf_25 : decode cX8_snakeOf 25 = .ok (.goto 5, 3) := by decide +kernel
theorem dX8_snakeOf_28 : decode cX8_snakeOf 28 = .ok (.bipush (-2), 2) := by decide +kernel
theorem dX8_snakeOf_30 : decode cX8_snakeOf 30 = .ok (.ireturn, 1) := by decide +kernel
theorem dX8_tailsAt_0 : decode cX8_tailsAt 0 = .ok (.iconst 0, 1) := by decide +kernel
theorem dX8_tailsAt_1 : decode cX8_tailsAt 1 = .ok (.istore_n 2, 1) := by decide +kernel
theorem dX8_tailsAt_2 : decode cX8_tailsAt 2 = .ok (.iconst 0, 1) := by decide +kernel
theorem dX8_tailsAt_3 : decode cX8_tailsAt 3 = .ok (.istore_n 3, 1) := by decide +kernel
theorem dX8_tailsAt_4 : decode cX8_tailsAt 4 = .ok (.iload_n 3, 1) := by decide +kernel
theorem dX8_tailsAt_5 : decode cX8_tailsAt 5 = .ok (.bipush 10, 2) := by decide +kernel
theorem dX8_tailsAt_7 : decode cX8_tailsAt 7 = .ok (.if_icmp .ge 35, 3) := by decide +kernel
theorem dX8_tailsAt_10 : decode cX8_tailsAt 10 = .ok (.iload_n 2, 1) := by decide +kernel
theorem dX8_tailsAt_11 : decode cX8_tailsAt 11 = .ok (.aload_n 0, 1) := by decide +kernel
theorem dX8_tailsAt_12 : decode cX8_tailsAt 12 = .ok (.iload_n 3, 1) := by decide +kernel
theorem dX8_tailsAt_13 : decode cX8_tailsAt 13 = .ok (.invokevirtual 113, 3) := by decide +kernel
theorem dX8_tailsAt_16 : decode cX8_tailsAt 16 = .ok (.ifCond .eq 17, 3) := by decide +kernel
theorem dX8_tailsAt_19 : decode cX8_tailsAt 19 = .ok (.aload_n 0, 1) := by decide +kernel
theorem dX8_tailsAt_20 : decode cX8_tailsAt 20 = .ok (.iload_n 3, 1) := by decide +kernel
theorem dX8_tailsAt_21 : decode cX8_tailsAt 21 = .ok (.iconst 1, 1) := by decide +kernel
theorem dX8_tailsAt_22 : decode cX8_tailsAt 22 = .ok (.invokevirtual 47, 3) := by decide +kernel
theorem dX8_tailsAt_25 : decode cX8_tailsAt 25 = .ok (.iload_n 1, 1) := by decide +kernel
theorem dX8_tailsAt_26 : decode cX8_tailsAt 26 = .ok (.if_icmp .ne 7, 3) := by decide +kernel
theorem dX8_tailsAt_29 : decode cX8_tailsAt 29 = .ok (.iconst 1, 1) := by decide +kernel
theorem dX8_tailsAt_30 : decode cX8_tailsAt 30 = .ok (.goto 4, 3) := by decide +kernel
theorem dX8_tailsAt_33 : decode cX8_tailsAt 33 = .ok (.iconst 0, 1) := by decide +kernel
theorem dX8_tailsAt_34 : decode cX8_tailsAt 34 = .ok (.iadd, 1) := by decide +kernel
theorem dX8_tailsAt_35 : decode cX8_tailsAt 35 = .ok (.istore_n 2, 1) := by decide +kernel
theorem dX8_tailsAt_36 : decode cX8_tailsAt 36 = .ok (.iinc 3 1, 3) := by decide +kernel
theorem dX8_tailsAt_39 : decode cX8_tailsAt 39 = .ok (.goto (-35), 3) := by decide +kernel
theorem dX8_tailsAt_42 : decode cX8_tailsAt 42 = .ok (.iload_n 2, 1) := by decide +kernel
theorem dX8_tailsAt_43 : decode cX8_tailsAt 43 = .ok (.ireturn, 1) := by decide +kernel
theorem dX8_square_0 : decode cX8_square 0 = .ok (.iload_n 1, 1) := by decide +kernel
theorem dX8_square_1 : decode cX8_square 1 = .ok (.iconst 0, 1) := by decide +kernel
theorem dX8_square_2 : decode cX8_square 2 = .ok (.bipush 60, 2) := by decide +kernel
theorem dX8_square_4 : decode cX8_square 4 = .ok (.invokestatic 35, 3) := by decide +kernel
theorem dX8_square_7 : decode cX8_square 7 = .ok (.ifCond .eq 12, 3) := by decide +kernel
theorem dX8_square_10 : decode cX8_square 10 = .ok (.iload_n 2, 1) := by decide +kernel
theorem dX8_square_11 : decode cX8_square 11 = .ok (.iconst 0, 1) := by decide +kernel
theorem dX8_square_12 : decode cX8_square 12 = .ok (.iconst 2, 1) := by decide +kernel
theorem dX8_square_13 : decode cX8_square 13 = .ok (.invokestatic 35, 3) := by decide +kernel
theorem dX8_square_16 : decode cX8_square 16 = .ok (.ifCond .ne 6, 3) := by decide +kernel
theorem dX8_square_19 : decode cX8_square 19 = .ok (.bipush (-2), 2) := by decide +kernel
theorem dX8_square_21 : decode cX8_square 21 = .ok (.ireturn, 1) := by decide +kernel
theorem dX8_square_22 : decode cX8_square 22 = .ok (.iload_n 2, 1) := by decide +kernel
theorem dX8_square_23 : decode cX8_square 23 = .ok (.ifCond .ne 11, 3) := by decide +kernel
theorem dX8_square_26 : decode cX8_square 26 = .ok (.aload_n 0, 1) := by decide +kernel
theorem dX8_square_27 : decode cX8_square 27 = .ok (.iload_n 1, 1) := by decide +kernel
theorem dX8_square_28 : decode cX8_square 28 = .ok (.invokevirtual 68, 3) := by decide +kernel
theorem dX8_square_31 : decode cX8_square 31 = .ok (.goto 21, 3) := by decide +kernel
theorem dX8_square_34 : decode cX8_square 34 = .ok (.iload_n 2, 1) := by decide +kernel
theorem dX8_square_35 : decode cX8_square 35 = .ok (.iconst 1, 1) := by decide +kernel
theorem dX8_square_36 : decode cX8_square 36 = .ok (.if_icmp .ne 11, 3) := by decide +kernel
theorem dX8_square_39 : decode cX8_square 39 = .ok (.aload_n 0, 1) := by decide +kernel
theorem dX8_square_40 : decode cX8_square 40 = .ok (.iload_n 1, 1) := by decide +kernel
theorem dX8_square_41 : decode cX8_square 41 = .ok (.invokevirtual 65, 3) := by decide +kernel
theorem dX8_square_44 : decode cX8_square 44 = .ok (.goto 8, 3) := by decide +kernel
theorem dX8_square_47 : decode cX8_square 47 = .ok (.aload_n 0, 1) := by decide +kernel
theorem dX8_square_48 : decode cX8_square 48 = .ok (.iload_n 1, 1) := by decide +kernel
theorem dX8_square_49 : decode cX8_square 49 = .ok (.invokevirtual 177, 3) := by decide +kernel
theorem dX8_square_52 : decode cX8_square 52 = .ok (.ireturn, 1) := by decide +kernel
theorem dX8_sumOf_0 : decode cX8_sumOf 0 = .ok (.iconst 0, 1) := by decide +kernel
theorem dX8_sumOf_1 : decode cX8_sumOf 1 = .ok (.istore_n 2, 1) := by decide +kernel
theorem dX8_sumOf_2 : decode cX8_sumOf 2 = .ok (.iconst 0, 1) := by decide +kernel
theorem dX8_sumOf_3 : decode cX8_sumOf 3 = .ok (.istore_n 3, 1) := by decide +kernel
theorem dX8_sumOf_4 : decode cX8_sumOf 4 = .ok (.iload_n 3, 1) := by decide +kernel
theorem dX8_sumOf_5 : decode cX8_sumOf 5 = .ok (.iconst 4, 1) := by decide +kernel
theorem dX8_sumOf_6 : decode cX8_sumOf 6 = .ok (.if_icmp .ge 18, 3) := by decide +kernel
theorem dX8_sumOf_9 : decode cX8_sumOf 9 = .ok (.iload_n 2, 1) := by decide +kernel
theorem dX8_sumOf_10 : decode cX8_sumOf 10 = .ok (.aload_n 0, 1) := by decide +kernel
theorem dX8_sumOf_11 : decode cX8_sumOf 11 = .ok (.iload_n 3, 1) := by decide +kernel
theorem dX8_sumOf_12 : decode cX8_sumOf 12 = .ok (.iload_n 1, 1) := by decide +kernel
theorem dX8_sumOf_13 : decode cX8_sumOf 13 = .ok (.invokevirtual 43, 3) := by decide +kernel
theorem dX8_sumOf_16 : decode cX8_sumOf 16 = .ok (.iadd, 1) := by decide +kernel
theorem dX8_sumOf_17 : decode cX8_sumOf 17 = .ok (.istore_n 2, 1) := by decide +kernel
theorem dX8_sumOf_18 : decode cX8_sumOf 18 = .ok (.iinc 3 1, 3) := by decide +kernel
theorem dX8_sumOf_21 : decode cX8_sumOf 21 = .ok (.goto (-17), 3) := by decide +kernel
theorem dX8_sumOf_24 : decode cX8_sumOf 24 = .ok (.iload_n 2, 1) := by decide +kernel
theorem dX8_sumOf_25 : decode cX8_sumOf 25 = .ok (.ireturn, 1) := by decide +kernel
theorem dX8_count_0 : decode cX8_count 0 = .ok (.iload_n 1, 1) := by decide +kernel
theorem dX8_count_1 : decode cX8_count 1 = .ok (.tableswitch 155 0 12 #[67, 74, 93, 102, 107, 113, 120, 127, 133, 133, 133, 145, 150], 67) := by decide +kernel
theorem dX8_count_68 : decode cX8_count 68 = .ok (.aload_n 0, 1) := by decide +kernel
theorem dX8_count_69 : decode cX8_count 69 = .ok (.getfield 7, 3) := by decide +kernel
theorem dX8_count_72 : decode cX8_count 72 = .ok (.iconst 0, 1) := by decide +kernel
theorem dX8_count_73 : decode cX8_count 73 = .ok (.iaload, 1) := by decide +kernel
theorem dX8_count_74 : decode cX8_count 74 = .ok (.ireturn, 1) := by decide +kernel
theorem dX8_count_75 : decode cX8_count 75 = .ok (.aload_n 0, 1) := by decide +kernel
theorem dX8_count_76 : decode cX8_count 76 = .ok (.invokevirtual 92, 3) := by decide +kernel
theorem dX8_count_79 : decode cX8_count 79 = .ok (.ifCond .eq 8, 3) := by decide +kernel
theorem dX8_count_82 : decode cX8_count 82 = .ok (.bipush (-5), 2) := by decide +kernel
theorem dX8_count_84 : decode cX8_count 84 = .ok (.goto 9, 3) := by decide +kernel
theorem dX8_count_87 : decode cX8_count 87 = .ok (.aload_n 0, 1) := by decide +kernel
theorem dX8_count_88 : decode cX8_count 88 = .ok (.getfield 7, 3) := by decide +kernel
theorem dX8_count_91 : decode cX8_count 91 = .ok (.iconst 1, 1) := by decide +kernel
theorem dX8_count_92 : decode cX8_count 92 = .ok (.iaload, 1) := by decide +kernel
theorem dX8_count_93 : decode cX8_count 93 = .ok (.ireturn, 1) := by decide +kernel
theorem dX8_count_94 : decode cX8_count 94 = .ok (.iconst 4, 1) := by decide +kernel
theorem dX8_count_95 : decode cX8_count 95 = .ok (.aload_n 0, 1) := by decide +kernel
theorem dX8_count_96 : decode cX8_count 96 = .ok (.getfield 7, 3) := by decide +kernel
theorem dX8_count_99 : decode cX8_count 99 = .ok (.iconst 4, 1) := by decide +kernel
theorem dX8_count_100 : decode cX8_count 100 = .ok (.iaload, 1) := by decide +kernel
theorem dX8_count_101 : decode cX8_count 101 = .ok (.isub, 1) := by decide +kernel
theorem dX8_count_102 : decode cX8_count 102 = .ok (.ireturn, 1) := by decide +kernel
theorem dX8_count_103 : decode cX8_count 103 = .ok (.aload_n 0, 1) := by decide +kernel
theorem dX8_count_104 : decode cX8_count 104 = .ok (.invokevirtual 106, 3) := by decide +kernel
theorem dX8_count_107 : decode cX8_count 107 = .ok (.ireturn, 1) := by decide +kernel
theorem dX8_count_108 : decode cX8_count 108 = .ok (.aload_n 0, 1) := by decide +kernel
theorem dX8_count_109 : decode cX8_count 109 = .ok (.iconst 5, 1) := by decide +kernel
theorem dX8_count_110 : decode cX8_count 110 = .ok (.invokevirtual 180, 3) := by decide +kernel
theorem dX8_count_113 : decode cX8_count 113 = .ok (.ireturn, 1) := by decide +kernel
theorem dX8_count_114 : decode cX8_count 114 = .ok (.aload_n 0, 1) := by decide +kernel
theorem dX8_count_115 : decode cX8_count 115 = .ok (.getfield 7, 3) := by decide +kernel
theorem dX8_count_118 : decode cX8_count 118 = .ok (.iconst 2, 1) := by decide +kernel
theorem dX8_count_119 : decode cX8_count 119 = .ok (.iaload, 1) := by decide +kernel
theorem dX8_count_120 : decode cX8_count 120 = .ok (.ireturn, 1) := by decide +kernel
theorem dX8_count_121 : decode cX8_count 121 = .ok (.aload_n 0, 1) := by decide +kernel
theorem dX8_count_122 : decode cX8_count 122 = .ok (.getfield 7, 3) := by decide +kernel
theorem dX8_count_125 : decode cX8_count 125 = .ok (.iconst 3, 1) := by decide +kernel
theorem dX8_count_126 : decode cX8_count 126 = .ok (.iaload, 1) := by decide +kernel
theorem dX8_count_127 : decode cX8_count 127 = .ok (.ireturn, 1) := by decide +kernel
theorem dX8_count_128 : decode cX8_count 128 = .ok (.aload_n 0, 1) := by decide +kernel
theorem dX8_count_129 : decode cX8_count 129 = .ok (.iconst 1, 1) := by decide +kernel
theorem dX8_count_130 : decode cX8_count 130 = .ok (.invokevirtual 180, 3) := by decide +kernel
theorem dX8_count_133 : decode cX8_count 133 = .ok (.ireturn, 1) := by decide +kernel
theorem dX8_count_134 : decode cX8_count 134 = .ok (.aload_n 0, 1) := by decide +kernel
theorem dX8_count_135 : decode cX8_count 135 = .ok (.getfield 7, 3) := by decide +kernel
theorem dX8_count_138 : decode cX8_count 138 = .ok (.iconst 5, 1) := by decide +kernel
theorem dX8_count_139 : decode cX8_count 139 = .ok (.iload_n 1, 1) := by decide +kernel
theorem dX8_count_140 : decode cX8_count 140 = .ok (.iadd, 1) := by decide +kernel
theorem dX8_count_141 : decode cX8_count 141 = .ok (.bipush 8, 2) := by decide +kernel
theorem dX8_count_143 : decode cX8_count 143 = .ok (.isub, 1) := by decide +kernel
theorem dX8_count_144 : decode cX8_count 144 = .ok (.iaload, 1) := by decide +kernel
theorem dX8_count_145 : decode cX8_count 145 = .ok (.ireturn, 1) := by decide +kernel
theorem dX8_count_146 : decode cX8_count 146 = .ok (.aload_n 0, 1) := by decide +kernel
theorem dX8_count_147 : decode cX8_count 147 = .ok (.getfield 50, 3) := by decide +kernel
theorem dX8_count_150 : decode cX8_count 150 = .ok (.ireturn, 1) := by decide +kernel
theorem dX8_count_151 : decode cX8_count 151 = .ok (.aload_n 0, 1) := by decide +kernel
theorem dX8_count_152 : decode cX8_count 152 = .ok (.getfield 139, 3) := by decide +kernel
theorem dX8_count_155 : decode cX8_count 155 = .ok (.ireturn, 1) := by decide +kernel
theorem dX8_count_156 : decode cX8_count 156 = .ok (.bipush (-2), 2) := by decide +kernel
theorem dX8_count_158 : decode cX8_count 158 = .ok (.ireturn, 1) := by decide +kernel
theorem dX8_why_0 : decode cX8_why 0 = .ok (.aload_n 0, 1) := by decide +kernel
theorem dX8_why_1 : decode cX8_why 1 = .ok (.iload_n 1, 1) := by decide +kernel
theorem dX8_why_2 : decode cX8_why 2 = .ok (.iload_n 2, 1) := by decide +kernel
theorem dX8_why_3 : decode cX8_why 3 = .ok (.iload_n 3, 1) := by decide +kernel
theorem dX8_why_4 : decode cX8_why 4 = .ok (.iload 4, 2) := by decide +kernel
theorem dX8_why_6 : decode cX8_why 6 = .ok (.invokevirtual 129, 3) := by decide +kernel
theorem dX8_why_9 : decode cX8_why 9 = .ok (.istore 5, 2) := by decide +kernel
theorem dX8_why_11 : decode cX8_why 11 = .ok (.iload 5, 2) := by decide +kernel
theorem dX8_why_13 : decode cX8_why 13 = .ok (.ifCond .ge 8, 3) := by decide +kernel
theorem dX8_why_16 : decode cX8_why 16 = .ok (.iload 5, 2) := by decide +kernel
theorem dX8_why_18 : decode cX8_why 18 = .ok (.goto 12, 3) := by decide +kernel
theorem dX8_why_21 : decode cX8_why 21 = .ok (.aload_n 0, 1) := by decide +kernel
theorem dX8_why_22 : decode cX8_why 22 = .ok (.iload_n 1, 1) := by decide +kernel
theorem dX8_why_23 : decode cX8_why 23 = .ok (.iload_n 2, 1) := by decide +kernel
theorem dX8_why_24 : decode cX8_why 24 = .ok (.iload_n 3, 1) := by decide +kernel
theorem dX8_why_25 : decode cX8_why 25 = .ok (.iload 4, 2) := by decide +kernel
theorem dX8_why_27 : decode cX8_why 27 = .ok (.invokevirtual 133, 3) := by decide +kernel
theorem dX8_why_30 : decode cX8_why 30 = .ok (.ireturn, 1) := by decide +kernel
theorem dX8_cheapest_0 : decode cX8_cheapest 0 = .ok (.aload_n 0, 1) := by decide +kernel
theorem dX8_cheapest_1 : decode cX8_cheapest 1 = .ok (.iload_n 1, 1) := by decide +kernel
theorem dX8_cheapest_2 : decode cX8_cheapest 2 = .ok (.iload_n 2, 1) := by decide +kernel
theorem dX8_cheapest_3 : decode cX8_cheapest 3 = .ok (.invokevirtual 103, 3) := by decide +kernel
theorem dX8_cheapest_6 : decode cX8_cheapest 6 = .ok (.ifCond .ne 5, 3) := by decide +kernel
theorem dX8_cheapest_9 : decode cX8_cheapest 9 = .ok (.iconst (-1), 1) := by decide +kernel
theorem dX8_cheapest_10 : decode cX8_cheapest 10 = .ok (.ireturn, 1) := by decide +kernel
theorem dX8_cheapest_11 : decode cX8_cheapest 11 = .ok (.bipush (-5), 2) := by decide +kernel
theorem dX8_cheapest_13 : decode cX8_cheapest 13 = .ok (.istore_n 3, 1) := by decide +kernel
theorem dX8_cheapest_14 : decode cX8_cheapest 14 = .ok (.iconst 3, 1) := by decide +kernel
theorem dX8_cheapest_15 : decode cX8_cheapest 15 = .ok (.istore 4, 2) := by decide +kernel
theorem dX8_cheapest_17 : decode cX8_cheapest 17 = .ok (.iload 4, 2) := by decide +kernel
theorem dX8_cheapest_19 : decode cX8_cheapest 19 = .ok (.ifCond .lt 95, 3) := by decide +kernel
theorem dX8_cheapest_22 : decode cX8_cheapest 22 = .ok (.aload_n 0, 1) := by decide +kernel
theorem dX8_cheapest_23 : decode cX8_cheapest 23 = .ok (.aload_n 0, 1) := by decide +kernel
theorem dX8_cheapest_24 : decode cX8_cheapest 24 = .ok (.getfield 7, 3) := by decide +kernel
theorem dX8_cheapest_27 : decode cX8_cheapest 27 = .ok (.iload_n 1, 1) := by decide +kernel
theorem dX8_cheapest_28 : decode cX8_cheapest 28 = .ok (.iload_n 2, 1) := by decide +kernel
theorem dX8_cheapest_29 : decode cX8_cheapest 29 = .ok (.invokestatic 58, 3) := by decide +kernel
theorem dX8_cheapest_32 : decode cX8_cheapest 32 = .ok (.iconst 0, 1) := by decide +kernel
theorem dX8_cheapest_33 : decode cX8_cheapest 33 = .ok (.iadd, 1) := by decide +kernel
theorem dX8_cheapest_34 : decode cX8_cheapest 34 = .ok (.iaload, 1) := by decide +kernel
theorem dX8_cheapest_35 : decode cX8_cheapest 35 = .ok (.iload 4, 2) := by decide +kernel
theorem dX8_cheapest_37 : decode cX8_cheapest 37 = .ok (.invokevirtual 100, 3) := by decide +kernel
theorem dX8_cheapest_40 : decode cX8_cheapest 40 = .ok (.istore 5, 2) := by decide +kernel
theorem dX8_cheapest_42 : decode cX8_cheapest 42 = .ok (.iload 4, 2) := by decide +kernel
theorem dX8_cheapest_44 : decode cX8_cheapest 44 = .ok (.iload_n 1, 1) := by decide +kernel
theorem dX8_cheapest_45 : decode cX8_cheapest 45 = .ok (.if_icmp .eq 27, 3) := by decide +kernel
theorem dX8_cheapest_48 : decode cX8_cheapest 48 = .ok (.iload 5, 2) := by decide +kernel
theorem dX8_cheapest_50 : decode cX8_cheapest 50 = .ok (.bipush 99, 2) := by decide +kernel
theorem dX8_cheapest_52 : decode cX8_cheapest 52 = .ok (.if_icmp .gt 20, 3) := by decide +kernel
theorem dX8_cheapest_55 : decode cX8_cheapest 55 = .ok (.aload_n 0, 1) := by decide +kernel
theorem dX8_cheapest_56 : decode cX8_cheapest 56 = .ok (.iload_n 1, 1) := by decide +kernel
theorem dX8_cheapest_57 : decode cX8_cheapest 57 = .ok (.iload_n 2, 1) := by decide +kernel
theorem dX8_cheapest_58 : decode cX8_cheapest 58 = .ok (.iload 4, 2) := by decide +kernel
theorem dX8_cheapest_60 : decode cX8_cheapest 60 = .ok (.iload 5, 2) := by decide +kernel
theorem dX8_cheapest_62 : decode cX8_cheapest 62 = .ok (.invokevirtual 133, 3) := by decide +kernel
theorem dX8_cheapest_65 : decode cX8_cheapest 65 = .ok (.ifCond .ne 7, 3) := by decide +kernel
theorem dX8_cheapest_68 : decode cX8_cheapest 68 = .ok (.iconst 1, 1) := by decide +kernel
theorem dX8_cheapest_69 : decode cX8_cheapest 69 = .ok (.goto 4, 3) := by decide +kernel
theorem dX8_cheapest_72 : decode cX8_cheapest 72 = .ok (.iconst 0, 1) := by decide +kernel
theorem dX8_cheapest_73 : decode cX8_cheapest 73 = .ok (.istore 6, 2) := by decide +kernel
theorem dX8_cheapest_75 : decode cX8_cheapest 75 = .ok (.iload 6, 2) := by decide +kernel
theorem dX8_cheapest_77 : decode cX8_cheapest 77 = .ok (.ifCond .eq 29, 3) := by decide +kernel
theorem dX8_cheapest_80 : decode cX8_cheapest 80 = .ok (.iload_n 3, 1) := by decide +kernel
theorem dX8_cheapest_81 : decode cX8_cheapest 81 = .ok (.bipush (-5), 2) := by decide +kernel
theorem dX8_cheapest_83 : decode cX8_cheapest 83 = .ok (.if_icmp .eq 12, 3) := by decide +kernel
theorem dX8_cheapest_86 : decode cX8_cheapest 86 = .ok (.iload 5, 2) := by decide +kernel
theorem dX8_cheapest_88 : decode cX8_cheapest 88 = .ok (.iload_n 3, 1) := by decide +kernel
theorem dX8_cheapest_89 : decode cX8_cheapest 89 = .ok (.bipush 100, 2) := by decide +kernel
theorem dX8_cheapest_91 : decode cX8_cheapest 91 = .ok (.irem, 1) := by decide +kernel
theorem dX8_cheapest_92 : decode cX8_cheapest 92 = .ok (.if_icmp .gt 14, 3) := by decide +kernel
theorem dX8_cheapest_95 : decode cX8_cheapest 95 = .ok (.bipush 100, 2) := by decide +kernel
theorem dX8_cheapest_97 : decode cX8_cheapest 97 = .ok (.iload 4, 2) := by decide +kernel
theorem dX8_cheapest_99 : decode cX8_cheapest 99 = .ok (.imul, 1) := by decide +kernel
theorem dX8_cheapest_100 : decode cX8_cheapest 100 = .ok (.iload 5, 2) := by decide +kernel
theorem dX8_cheapest_102 : decode cX8_cheapest 102 = .ok (.iadd, 1) := by decide +kernel
theorem dX8_cheapest_103 : decode cX8_cheapest 103 = .ok (.goto 4, 3) := by decide +kernel
theorem dX8_cheapest_106 : decode cX8_cheapest 106 = .ok (.iload_n 3, 1) := by decide +kernel
theorem dX8_cheapest_107 : decode cX8_cheapest 107 = .ok (.istore_n 3, 1) := by decide +kernel
theorem dX8_cheapest_108 : decode cX8_cheapest 108 = .ok (.iinc 4 (-1), 3) := by decide +kernel
theorem dX8_cheapest_111 : decode cX8_cheapest 111 = .ok (.goto (-94), 3) := by decide +kernel
theorem dX8_cheapest_114 : decode cX8_cheapest 114 = .ok (.iload_n 3, 1) := by decide +kernel
theorem dX8_cheapest_115 : decode cX8_cheapest 115 = .ok (.ireturn, 1) := by decide +kernel
theorem dX8_dangers_0 : decode cX8_dangers 0 = .ok (.iload_n 1, 1) := by decide +kernel
theorem dX8_dangers_1 : decode cX8_dangers 1 = .ok (.invokestatic 39, 3) := by decide +kernel
theorem dX8_dangers_4 : decode cX8_dangers 4 = .ok (.ifCond .ne 5, 3) := by decide +kernel
theorem dX8_dangers_7 : decode cX8_dangers 7 = .ok (.iconst (-1), 1) := by decide +kernel
theorem dX8_dangers_8 : decode cX8_dangers 8 = .ok (.ireturn, 1) := by decide +kernel
theorem dX8_dangers_9 : decode cX8_dangers 9 = .ok (.aload_n 0, 1) := by decide +kernel
theorem dX8_dangers_10 : decode cX8_dangers 10 = .ok (.iload_n 1, 1) := by decide +kernel
theorem dX8_dangers_11 : decode cX8_dangers 11 = .ok (.invokevirtual 96, 3) := by decide +kernel
theorem dX8_dangers_14 : decode cX8_dangers 14 = .ok (.ifCond .ne 6, 3) := by decide +kernel
theorem dX8_dangers_17 : decode cX8_dangers 17 = .ok (.bipush (-4), 2) := by decide +kernel
theorem dX8_dangers_19 : decode cX8_dangers 19 = .ok (.ireturn, 1) := by decide +kernel
theorem dX8_dangers_20 : decode cX8_dangers 20 = .ok (.iconst 0, 1) := by decide +kernel
theorem dX8_dangers_21 : decode cX8_dangers 21 = .ok (.istore_n 2, 1) := by decide +kernel
theorem dX8_dangers_22 : decode cX8_dangers 22 = .ok (.iconst 1, 1) := by decide +kernel
theorem dX8_dangers_23 : decode cX8_dangers 23 = .ok (.istore_n 3, 1) := by decide +kernel
theorem dX8_dangers_24 : decode cX8_dangers 24 = .ok (.iload_n 3, 1) := by decide +kernel
theorem dX8_dangers_25 : decode cX8_dangers 25 = .ok (.bipush 6, 2) := by decide +kernel
theorem dX8_dangers_27 : decode cX8_dangers 27 = .ok (.if_icmp .gt 36, 3) := by decide +kernel
theorem dX8_dangers_30 : decode cX8_dangers 30 = .ok (.iload_n 2, 1) := by decide +kernel
theorem dX8_dangers_31 : decode cX8_dangers 31 = .ok (.aload_n 0, 1) := by decide +kernel
theorem dX8_dangers_32 : decode cX8_dangers 32 = .ok (.iload_n 1, 1) := by decide +kernel
theorem dX8_dangers_33 : decode cX8_dangers 33 = .ok (.aload_n 0, 1) := by decide +kernel
theorem dX8_dangers_34 : decode cX8_dangers 34 = .ok (.iload_n 1, 1) := by decide +kernel
theorem dX8_dangers_35 : decode cX8_dangers 35 = .ok (.invokevirtual 79, 3) := by decide +kernel
theorem dX8_dangers_38 : decode cX8_dangers 38 = .ok (.iload_n 3, 1) := by decide +kernel
theorem dX8_dangers_39 : decode cX8_dangers 39 = .ok (.invokestatic 82, 3) := by decide +kernel
theorem dX8_dangers_42 : decode cX8_dangers 42 = .ok (.invokevirtual 85, 3) := by decide +kernel
theorem dX8_dangers_45 : decode cX8_dangers 45 = .ok (.ifCond .eq 9, 3) := by decide +kernel
theorem dX8_dangers_48 : decode cX8_dangers 48 = .ok (.iconst 1, 1) := by decide +kernel
theorem dX8_dangers_49 : decode cX8_dangers 49 = .ok (.iload_n 3, 1) := by decide +kernel
theorem dX8_dangers_50 : decode cX8_dangers 50 = .ok (.ishl, 1) := by decide +kernel
theorem dX8_dangers_51 : decode cX8_dangers 51 = .ok (.goto 4, 3) := by decide +kernel
theorem dX8_dangers_54 : decode cX8_dangers 54 = .ok (.iconst 0, 1) := by decide +kernel
theorem dX8_dangers_55 : decode cX8_dangers 55 = .ok (.ior, 1) := by decide +kernel
theorem dX8_dangers_56 : decode cX8_dangers 56 = .ok (.istore_n 2, 1) := by decide +kernel
theorem dX8_dangers_57 : decode cX8_dangers 57 = .ok (.iinc 3 1, 3) := by decide +kernel
theorem dX8_dangers_60 : decode cX8_dangers 60 = .ok (.goto (-36), 3) := by decide +kernel
theorem dX8_dangers_63 : decode cX8_dangers 63 = .ok (.iload_n 2, 1) := by decide +kernel
theorem dX8_dangers_64 : decode cX8_dangers 64 = .ok (.ireturn, 1) := by decide +kernel
theorem dX8_throwsHome_0 : decode cX8_throwsHome 0 = .ok (.iconst 0, 1) := by decide +kernel
theorem dX8_throwsHome_1 : decode cX8_throwsHome 1 = .ok (.istore_n 1, 1) := by decide +kernel
theorem dX8_throwsHome_2 : decode cX8_throwsHome 2 = .ok (.iconst 0, 1) := by decide +kernel
theorem dX8_throwsHome_3 : decode cX8_throwsHome 3 = .ok (.istore_n 2, 1) := by decide +kernel
theorem dX8_throwsHome_4 : decode cX8_throwsHome 4 = .ok (.iload_n 2, 1) := by decide +kernel
theorem dX8_throwsHome_5 : decode cX8_throwsHome 5 = .ok (.bipush 60, 2) := by decide +kernel
theorem dX8_throwsHome_7 : decode cX8_throwsHome 7 = .ok (.if_icmp .ge 21, 3) := by decide +kernel
theorem dX8_throwsHome_10 : decode cX8_throwsHome 10 = .ok (.aload_n 0, 1) := by decide +kernel
theorem dX8_throwsHome_11 : decode cX8_throwsHome 11 = .ok (.getfield 32, 3) := by decide +kernel
theorem dX8_throwsHome_14 : decode cX8_throwsHome 14 = .ok (.iload_n 2, 1) := by decide +kernel
theorem dX8_throwsHome_15 : decode cX8_throwsHome 15 = .ok (.aload_n 0, 1) := by decide +kernel
theorem dX8_throwsHome_16 : decode cX8_throwsHome 16 = .ok (.getfield 28, 3) := by decide +kernel
theorem dX8_throwsHome_19 : decode cX8_throwsHome 19 = .ok (.iload_n 2, 1) := by decide +kernel
theorem dX8_throwsHome_20 : decode cX8_throwsHome 20 = .ok (.baload, 1) := by decide +kernel
theorem dX8_throwsHome_21 : decode cX8_throwsHome 21 = .ok (.bastore, 1) := by decide +kernel
theorem dX8_throwsHome_22 : decode cX8_throwsHome 22 = .ok (.iinc 2 1, 3) := by decide +kernel
theorem dX8_throwsHome_25 : decode cX8_throwsHome 25 = .ok (.goto (-21), 3) := by decide +kernel
theorem dX8_throwsHome_28 : decode cX8_throwsHome 28 = .ok (.iconst 0, 1) := by decide +kernel
theorem dX8_throwsHome_29 : decode cX8_throwsHome 29 = .ok (.istore_n 2, 1) := by decide +kernel
theorem dX8_throwsHome_30 : decode cX8_throwsHome 30 = .ok (.iload_n 2, 1) := by decide +kernel
theorem dX8_throwsHome_31 : decode cX8_throwsHome 31 = .ok (.bipush 60, 2) := by decide +kernel
theorem dX8_throwsHome_33 : decode cX8_throwsHome 33 = .ok (.if_icmp .ge 89, 3) := by decide +kernel
theorem dX8_throwsHome_36 : decode cX8_throwsHome 36 = .ok (.iconst 1, 1) := by decide +kernel
theorem dX8_throwsHome_37 : decode cX8_throwsHome 37 = .ok (.istore_n 3, 1) := by decide +kernel
theorem dX8_throwsHome_38 : decode cX8_throwsHome 38 = .ok (.iload_n 3, 1) := by decide +kernel
theorem dX8_throwsHome_39 : decode cX8_throwsHome 39 = .ok (.bipush 6, 2) := by decide +kernel
theorem dX8_throwsHome_41 : decode cX8_throwsHome 41 = .ok (.if_icmp .gt 75, 3) := by decide +kernel
theorem dX8_throwsHome_44 : decode cX8_throwsHome 44 = .ok (.aload_n 0, 1) := by decide +kernel
theorem dX8_throwsHome_45 : decode cX8_throwsHome 45 = .ok (.getfield 28, 3) := by decide +kernel
theorem dX8_throwsHome_48 : decode cX8_throwsHome 48 = .ok (.iload_n 2, 1) := by decide +kernel
theorem dX8_throwsHome_49 : decode cX8_throwsHome 49 = .ok (.baload, 1) := by decide +kernel
theorem dX8_throwsHome_50 : decode cX8_throwsHome 50 = .ok (.ifCond .eq 66, 3) := by decide +kernel
theorem dX8_throwsHome_53 : decode cX8_throwsHome 53 = .ok (.iload_n 2, 1) := by decide +kernel
theorem dX8_throwsHome_54 : decode cX8_throwsHome 54 = .ok (.iload_n 3, 1) := by decide +kernel
theorem dX8_throwsHome_55 : decode cX8_throwsHome 55 = .ok (.invokestatic 82, 3) := by decide +kernel
theorem dX8_throwsHome_58 : decode cX8_throwsHome 58 = .ok (.istore 4, 2) := by decide +kernel
theorem dX8_throwsHome_60 : decode cX8_throwsHome 60 = .ok (.aload_n 0, 1) := by decide +kernel
theorem dX8_throwsHome_61 : decode cX8_throwsHome 61 = .ok (.iload 4, 2) := by decide +kernel
theorem dX8_throwsHome_63 : decode cX8_throwsHome 63 = .ok (.invokevirtual 65, 3) := by decide +kernel
theorem dX8_throwsHome_66 : decode cX8_throwsHome 66 = .ok (.istore 5, 2) := by decide +kernel
theorem dX8_throwsHome_68 : decode cX8_throwsHome 68 = .ok (.iload_n 1, 1) := by decide +kernel
theorem dX8_throwsHome_69 : decode cX8_throwsHome 69 = .ok (.ifCond .ne 10, 3) := by decide +kernel
theorem dX8_throwsHome_72 : decode cX8_throwsHome 72 = .ok (.iload 4, 2) := by decide +kernel
theorem dX8_throwsHome_74 : decode cX8_throwsHome 74 = .ok (.bipush 60, 2) := by decide +kernel
theorem dX8_throwsHome_76 : decode cX8_throwsHome 76 = .ok (.if_icmp .ne 7, 3) := by decide +kernel
theorem dX8_throwsHome_79 : decode cX8_throwsHome 79 = .ok (.iconst 1, 1) := by decide +kernel
theorem dX8_throwsHome_80 : decode cX8_throwsHome 80 = .ok (.goto 4, 3) := by decide +kernel
theorem dX8_throwsHome_83 : decode cX8_throwsHome 83 = .ok (.iconst 0, 1) := by decide +kernel
theorem dX8_throwsHome_84 : decode cX8_throwsHome 84 = .ok (.istore_n 1, 1) := by decide +kernel
theorem dX8_throwsHome_85 : decode cX8_throwsHome 85 = .ok (.aload_n 0, 1) := by decide +kernel
theorem dX8_throwsHome_86 : decode cX8_throwsHome 86 = .ok (.getfield 32, 3) := by decide +kernel
theorem dX8_throwsHome_89 : decode cX8_throwsHome 89 = .ok (.iload 5, 2) := by decide +kernel
theorem dX8_throwsHome_91 : decode cX8_throwsHome 91 = .ok (.bipush (-5), 2) := by decide +kernel
theorem dX8_throwsHome_93 : decode cX8_throwsHome 93 = .ok (.if_icmp .ne 8, 3) := by decide +kernel
theorem dX8_throwsHome_96 : decode cX8_throwsHome 96 = .ok (.iload 4, 2) := by decide +kernel
theorem dX8_throwsHome_98 : decode cX8_throwsHome 98 = .ok (.goto 10, 3) := by decide +kernel
theorem dX8_throwsHome_101 : decode cX8_throwsHome 101 = .ok (.aload_n 0, 1) := by decide +kernel
theorem dX8_throwsHome_102 : decode cX8_throwsHome 102 = .ok (.iload 5, 2) := by decide +kernel
theorem dX8_throwsHome_104 : decode cX8_throwsHome 104 = .ok (.iconst 1, 1) := by decide +kernel
theorem dX8_throwsHome_105 : decode cX8_throwsHome 105 = .ok (.invokevirtual 47, 3) := by decide +kernel
theorem dX8_throwsHome_108 : decode cX8_throwsHome 108 = .ok (.iconst 1, 1) := by decide +kernel
theorem dX8_throwsHome_109 : decode cX8_throwsHome 109 = .ok (.bastore, 1) := by decide +kernel
theorem dX8_throwsHome_110 : decode cX8_throwsHome 110 = .ok (.iinc 3 1, 3) := by decide +kernel
theorem dX8_throwsHome_113 : decode cX8_throwsHome 113 = .ok (.goto (-75), 3) := by decide +kernel
theorem dX8_throwsHome_116 : decode cX8_throwsHome 116 = .ok (.iinc 2 1, 3) := by decide +kernel
theorem dX8_throwsHome_119 : decode cX8_throwsHome 119 = .ok (.goto (-89), 3) := by decide +kernel
theorem dX8_throwsHome_122 : decode cX8_throwsHome 122 = .ok (.iconst 0, 1) := by decide +kernel
theorem dX8_throwsHome_123 : decode cX8_throwsHome 123 = .ok (.istore_n 2, 1) := by decide +kernel
theorem dX8_throwsHome_124 : decode cX8_throwsHome 124 = .ok (.iload_n 2, 1) := by decide +kernel
theorem dX8_throwsHome_125 : decode cX8_throwsHome 125 = .ok (.bipush 60, 2) := by decide +kernel
theorem dX8_throwsHome_127 : decode cX8_throwsHome 127 = .ok (.if_icmp .ge 21, 3) := by decide +kernel
theorem dX8_throwsHome_130 : decode cX8_throwsHome 130 = .ok (.aload_n 0, 1) := by decide +kernel
theorem dX8_throwsHome_131 : decode cX8_throwsHome 131 = .ok (.getfield 28, 3) := by decide +kernel
theorem dX8_throwsHome_134 : decode cX8_throwsHome 134 = .ok (.iload_n 2, 1) := by decide +kernel
theorem dX8_throwsHome_135 : decode cX8_throwsHome 135 = .ok (.aload_n 0, 1) := by decide +kernel
theorem dX8_throwsHome_136 : decode cX8_throwsHome 136 = .ok (.getfield 32, 3) := by decide +kernel
theorem dX8_throwsHome_139 : decode cX8_throwsHome 139 = .ok (.iload_n 2, 1) := by decide +kernel
theorem dX8_throwsHome_140 : decode cX8_throwsHome 140 = .ok (.baload, 1) := by decide +kernel
theorem dX8_throwsHome_141 : decode cX8_throwsHome 141 = .ok (.bastore, 1) := by decide +kernel
theorem dX8_throwsHome_142 : decode cX8_throwsHome 142 = .ok (.iinc 2 1, 3) := by decide +kernel
theorem dX8_throwsHome_145 : decode cX8_throwsHome 145 = .ok (.goto (-21), 3) := by decide +kernel
theorem dX8_throwsHome_148 : decode cX8_throwsHome 148 = .ok (.iload_n 1, 1) := by decide +kernel
theorem dX8_throwsHome_149 : decode cX8_throwsHome 149 = .ok (.ireturn, 1) := by decide +kernel
theorem dX8_fewest_0 : decode cX8_fewest 0 = .ok (.iload_n 1, 1) := by decide +kernel
theorem dX8_fewest_1 : decode cX8_fewest 1 = .ok (.invokestatic 39, 3) := by decide +kernel
theorem dX8_fewest_4 : decode cX8_fewest 4 = .ok (.ifCond .ne 5, 3) := by decide +kernel
theorem dX8_fewest_7 : decode cX8_fewest 7 = .ok (.iconst (-1), 1) := by decide +kernel
theorem dX8_fewest_8 : decode cX8_fewest 8 = .ok (.ireturn, 1) := by decide +kernel
theorem dX8_fewest_9 : decode cX8_fewest 9 = .ok (.iload_n 2, 1) := by decide +kernel
theorem dX8_fewest_10 : decode cX8_fewest 10 = .ok (.iconst 0, 1) := by decide +kernel
theorem dX8_fewest_11 : decode cX8_fewest 11 = .ok (.iconst 1, 1) := by decide +kernel
theorem dX8_fewest_12 : decode cX8_fewest 12 = .ok (.invokestatic 35, 3) := by decide +kernel
theorem dX8_fewest_15 : decode cX8_fewest 15 = .ok (.ifCond .ne 6, 3) := by decide +kernel
theorem dX8_fewest_18 : decode cX8_fewest 18 = .ok (.bipush (-2), 2) := by decide +kernel
theorem dX8_fewest_20 : decode cX8_fewest 20 = .ok (.ireturn, 1) := by decide +kernel
theorem dX8_fewest_21 : decode cX8_fewest 21 = .ok (.aload_n 0, 1) := by decide +kernel
theorem dX8_fewest_22 : decode cX8_fewest 22 = .ok (.iload_n 1, 1) := by decide +kernel
theorem dX8_fewest_23 : decode cX8_fewest 23 = .ok (.invokevirtual 96, 3) := by decide +kernel
theorem dX8_fewest_26 : decode cX8_fewest 26 = .ok (.ifCond .ne 5, 3) := by decide +kernel
theorem dX8_fewest_29 : decode cX8_fewest 29 = .ok (.iconst 0, 1) := by decide +kernel
theorem dX8_fewest_30 : decode cX8_fewest 30 = .ok (.ireturn, 1) := by decide +kernel
theorem dX8_fewest_31 : decode cX8_fewest 31 = .ok (.iconst 0, 1) := by decide +kernel
theorem dX8_fewest_32 : decode cX8_fewest 32 = .ok (.istore_n 3, 1) := by decide +kernel
theorem dX8_fewest_33 : decode cX8_fewest 33 = .ok (.iload_n 3, 1) := by decide +kernel
theorem dX8_fewest_34 : decode cX8_fewest 34 = .ok (.bipush 60, 2) := by decide +kernel
theorem dX8_fewest_36 : decode cX8_fewest 36 = .ok (.if_icmp .ge 29, 3) := by decide +kernel
theorem dX8_fewest_39 : decode cX8_fewest 39 = .ok (.aload_n 0, 1) := by decide +kernel
theorem dX8_fewest_40 : decode cX8_fewest 40 = .ok (.getfield 28, 3) := by decide +kernel
theorem dX8_fewest_43 : decode cX8_fewest 43 = .ok (.iload_n 3, 1) := by decide +kernel
theorem dX8_fewest_44 : decode cX8_fewest 44 = .ok (.iload_n 3, 1) := by decide +kernel
theorem dX8_fewest_45 : decode cX8_fewest 45 = .ok (.aload_n 0, 1) := by decide +kernel
theorem dX8_fewest_46 : decode cX8_fewest 46 = .ok (.iload_n 1, 1) := by decide +kernel
theorem dX8_fewest_47 : decode cX8_fewest 47 = .ok (.invokevirtual 79, 3) := by decide +kernel
theorem dX8_fewest_50 : decode cX8_fewest 50 = .ok (.if_icmp .ne 7, 3) := by decide +kernel
theorem dX8_fewest_53 : decode cX8_fewest 53 = .ok (.iconst 1, 1) := by decide +kernel
theorem dX8_fewest_54 : decode cX8_fewest 54 = .ok (.goto 4, 3) := by decide +kernel
theorem dX8_fewest_57 : decode cX8_fewest 57 = .ok (.iconst 0, 1) := by decide +kernel
theorem dX8_fewest_58 : decode cX8_fewest 58 = .ok (.bastore, 1) := by decide +kernel
theorem dX8_fewest_59 : decode cX8_fewest 59 = .ok (.iinc 3 1, 3) := by decide +kernel
theorem dX8_fewest_62 : decode cX8_fewest 62 = .ok (.goto (-29), 3) := by decide +kernel
theorem dX8_fewest_65 : decode cX8_fewest 65 = .ok (.iconst 1, 1) := by decide +kernel
theorem dX8_fewest_66 : decode cX8_fewest 66 = .ok (.istore_n 3, 1) := by decide +kernel
theorem dX8_fewest_67 : decode cX8_fewest 67 = .ok (.iload_n 3, 1) := by decide +kernel
theorem dX8_fewest_68 : decode cX8_fewest 68 = .ok (.bipush 60, 2) := by decide +kernel
theorem dX8_fewest_70 : decode cX8_fewest 70 = .ok (.if_icmp .gt 16, 3) := by decide +kernel
theorem dX8_fewest_73 : decode cX8_fewest 73 = .ok (.aload_n 0, 1) := by decide +kernel
theorem dX8_fewest_74 : decode cX8_fewest 74 = .ok (.invokevirtual 183, 3) := by decide +kernel
theorem dX8_fewest_77 : decode cX8_fewest 77 = .ok (.ifCond .ne 9, 3) := by decide +kernel
theorem dX8_fewest_80 : decode cX8_fewest 80 = .ok (.iinc 3 1, 3) := by decide +kernel
theorem dX8_fewest_83 : decode cX8_fewest 83 = .ok (.goto (-16), 3) := by decide +kernel
theorem dX8_fewest_86 : decode cX8_fewest 86 = .ok (.iload_n 3, 1) := by decide +kernel
theorem dX8_fewest_87 : decode cX8_fewest 87 = .ok (.bipush 60, 2) := by decide +kernel
theorem dX8_fewest_89 : decode cX8_fewest 89 = .ok (.if_icmp .gt 7, 3) := by decide +kernel
theorem dX8_fewest_92 : decode cX8_fewest 92 = .ok (.iload_n 3, 1) := by decide +kernel
theorem dX8_fewest_93 : decode cX8_fewest 93 = .ok (.goto 5, 3) := by decide +kernel
theorem dX8_fewest_96 : decode cX8_fewest 96 = .ok (.bipush (-5), 2) := by decide +kernel
theorem dX8_fewest_98 : decode cX8_fewest 98 = .ok (.ireturn, 1) := by decide +kernel
theorem dX8_nextHome_0 : decode cX8_nextHome 0 = .ok (.iload_n 1, 1) := by decide +kernel
theorem dX8_nextHome_1 : decode cX8_nextHome 1 = .ok (.iconst 0, 1) := by decide +kernel
theorem dX8_nextHome_2 : decode cX8_nextHome 2 = .ok (.ldc 122, 2) := by decide +kernel
theorem dX8_nextHome_4 : decode cX8_nextHome 4 = .ok (.invokestatic 35, 3) := by decide +kernel
theorem dX8_nextHome_7 : decode cX8_nextHome 7 = .ok (.ifCond .ne 6, 3) := by decide +kernel
theorem dX8_nextHome_10 : decode cX8_nextHome 10 = .ok (.bipush (-2), 2) := by decide +kernel
theorem dX8_nextHome_12 : decode cX8_nextHome 12 = .ok (.ireturn, 1) := by decide +kernel
theorem dX8_nextHome_13 : decode cX8_nextHome 13 = .ok (.aload_n 0, 1) := by decide +kernel
theorem dX8_nextHome_14 : decode cX8_nextHome 14 = .ok (.invokevirtual 92, 3) := by decide +kernel
theorem dX8_nextHome_17 : decode cX8_nextHome 17 = .ok (.ifCond .eq 6, 3) := by decide +kernel
theorem dX8_nextHome_20 : decode cX8_nextHome 20 = .ok (.bipush (-4), 2) := by decide +kernel
theorem dX8_nextHome_22 : decode cX8_nextHome 22 = .ok (.ireturn, 1) := by decide +kernel
theorem dX8_nextHome_23 : decode cX8_nextHome 23 = .ok (.aload_n 0, 1) := by decide +kernel
theorem dX8_nextHome_24 : decode cX8_nextHome 24 = .ok (.getfield 7, 3) := by decide +kernel
theorem dX8_nextHome_27 : decode cX8_nextHome 27 = .ok (.iconst 0, 1) := by decide +kernel
theorem dX8_nextHome_28 : decode cX8_nextHome 28 = .ok (.aload_n 0, 1) := by decide +kernel
theorem dX8_nextHome_29 : decode cX8_nextHome 29 = .ok (.getfield 19, 3) := by decide +kernel
theorem dX8_nextHome_32 : decode cX8_nextHome 32 = .ok (.iconst 0, 1) := by decide +kernel
theorem dX8_nextHome_33 : decode cX8_nextHome 33 = .ok (.invokestatic 54, 3) := by decide +kernel
theorem dX8_nextHome_36 : decode cX8_nextHome 36 = .ok (.bipush (-5), 2) := by decide +kernel
theorem dX8_nextHome_38 : decode cX8_nextHome 38 = .ok (.istore_n 2, 1) := by decide +kernel
theorem dX8_nextHome_39 : decode cX8_nextHome 39 = .ok (.iload_n 1, 1) := by decide +kernel
theorem dX8_nextHome_40 : decode cX8_nextHome 40 = .ok (.istore_n 3, 1) := by decide +kernel
theorem dX8_nextHome_41 : decode cX8_nextHome 41 = .ok (.iconst 0, 1) := by decide +kernel
theorem dX8_nextHome_42 : decode cX8_nextHome 42 = .ok (.istore 4, 2) := by decide +kernel
theorem dX8_nextHome_44 : decode cX8_nextHome 44 = .ok (.iload 4, 2) := by decide +kernel
theorem dX8_nextHome_46 : decode cX8_nextHome 46 = .ok (.sipush 200, 3) := by decide +kernel
theorem dX8_nextHome_49 : decode cX8_nextHome 49 = .ok (.if_icmp .ge 49, 3) := by decide +kernel
theorem dX8_nextHome_52 : decode cX8_nextHome 52 = .ok (.iload_n 2, 1) := by decide +kernel
theorem dX8_nextHome_53 : decode cX8_nextHome 53 = .ok (.bipush (-5), 2) := by decide +kernel
theorem dX8_nextHome_55 : decode cX8_nextHome 55 = .ok (.if_icmp .ne 43, 3) := by decide +kernel
theorem dX8_nextHome_58 : decode cX8_nextHome 58 = .ok (.aload_n 0, 1) := by decide +kernel
theorem dX8_nextHome_59 : decode cX8_nextHome 59 = .ok (.getfield 7, 3) := by decide +kernel
theorem dX8_nextHome_62 : decode cX8_nextHome 62 = .ok (.iconst 1, 1) := by decide +kernel
theorem dX8_nextHome_63 : decode cX8_nextHome 63 = .ok (.iaload, 1) := by decide +kernel
theorem dX8_nextHome_64 : decode cX8_nextHome 64 = .ok (.istore 5, 2) := by decide +kernel
theorem dX8_nextHome_66 : decode cX8_nextHome 66 = .ok (.iload_n 3, 1) := by decide +kernel
theorem dX8_nextHome_67 : decode cX8_nextHome 67 = .ok (.invokestatic 123, 3) := by decide +kernel
theorem dX8_nextHome_70 : decode cX8_nextHome 70 = .ok (.istore_n 3, 1) := by decide +kernel
theorem dX8_nextHome_71 : decode cX8_nextHome 71 = .ok (.aload_n 0, 1) := by decide +kernel
theorem dX8_nextHome_72 : decode cX8_nextHome 72 = .ok (.iload_n 3, 1) := by decide +kernel
theorem dX8_nextHome_73 : decode cX8_nextHome 73 = .ok (.invokestatic 126, 3) := by decide +kernel
theorem dX8_nextHome_76 : decode cX8_nextHome 76 = .ok (.invokevirtual 119, 3) := by decide +kernel
theorem dX8_nextHome_79 : decode cX8_nextHome 79 = .ok (.bipush 60, 2) := by decide +kernel
theorem dX8_nextHome_81 : decode cX8_nextHome 81 = .ok (.if_icmp .ne 8, 3) := by decide +kernel
theorem dX8_nextHome_84 : decode cX8_nextHome 84 = .ok (.iload 5, 2) := by decide +kernel
theorem dX8_nextHome_86 : decode cX8_nextHome 86 = .ok (.goto 5, 3) := by decide +kernel
theorem dX8_nextHome_89 : decode cX8_nextHome 89 = .ok (.bipush (-5), 2) := by decide +kernel
theorem dX8_nextHome_91 : decode cX8_nextHome 91 = .ok (.istore_n 2, 1) := by decide +kernel
theorem dX8_nextHome_92 : decode cX8_nextHome 92 = .ok (.iinc 4 1, 3) := by decide +kernel
theorem dX8_nextHome_95 : decode cX8_nextHome 95 = .ok (.goto (-51), 3) := by decide +kernel
theorem dX8_nextHome_98 : decode cX8_nextHome 98 = .ok (.aload_n 0, 1) := by decide +kernel
theorem dX8_nextHome_99 : decode cX8_nextHome 99 = .ok (.getfield 19, 3) := by decide +kernel
theorem dX8_nextHome_102 : decode cX8_nextHome 102 = .ok (.iconst 0, 1) := by decide +kernel
theorem dX8_nextHome_103 : decode cX8_nextHome 103 = .ok (.aload_n 0, 1) := by decide +kernel
theorem dX8_nextHome_104 : decode cX8_nextHome 104 = .ok (.getfield 7, 3) := by decide +kernel
theorem dX8_nextHome_107 : decode cX8_nextHome 107 = .ok (.iconst 0, 1) := by decide +kernel
theorem dX8_nextHome_108 : decode cX8_nextHome 108 = .ok (.invokestatic 54, 3) := by decide +kernel
theorem dX8_nextHome_111 : decode cX8_nextHome 111 = .ok (.iload_n 2, 1) := by decide +kernel
theorem dX8_nextHome_112 : decode cX8_nextHome 112 = .ok (.ireturn, 1) := by decide +kernel
theorem dX8_progress_0 : decode cX8_progress 0 = .ok (.iload_n 1, 1) := by decide +kernel
theorem dX8_progress_1 : decode cX8_progress 1 = .ok (.invokestatic 39, 3) := by decide +kernel
theorem dX8_progress_4 : decode cX8_progress 4 = .ok (.ifCond .eq 16, 3) := by decide +kernel
theorem dX8_progress_7 : decode cX8_progress 7 = .ok (.aload_n 0, 1) := by decide +kernel
theorem dX8_progress_8 : decode cX8_progress 8 = .ok (.iload_n 1, 1) := by decide +kernel
theorem dX8_progress_9 : decode cX8_progress 9 = .ok (.invokevirtual 79, 3) := by decide +kernel
theorem dX8_progress_12 : decode cX8_progress 12 = .ok (.i2d, 1) := by decide +kernel
theorem dX8_progress_13 : decode cX8_progress 13 = .ok (.ldc2_w 186, 3) := by decide +kernel
theorem dX8_progress_16 : decode cX8_progress 16 = .ok (.ddiv, 1) := by decide +kernel
theorem dX8_progress_17 : decode cX8_progress 17 = .ok (.goto 4, 3) := by decide +kernel
theorem dX8_progress_20 : decode cX8_progress 20 = .ok (.dconst 0, 1) := by decide +kernel
theorem dX8_progress_21 : decode cX8_progress 21 = .ok (.dreturn, 1) := by decide +kernel
