theorem dX0_init_0 : decode cX0_init 0 = .ok (.aload_n 0, 1) := by decide +kernel
theorem dX0_init_1 : decode cX0_init 1 = .ok (.invokespecial 1, 3) := by decide +kernel
theorem dX0_init_4 : decode cX0_init 4 = .ok (.return_, 1) := by decide +kernel
theorem dX0_begin_0 : decode cX0_begin 0 = .ok (.aload_n 0, 1) := by decide +kernel
theorem dX0_begin_1 : decode cX0_begin 1 = .ok (.iload_n 1, 1) := by decide +kernel
theorem dX0_begin_2 : decode cX0_begin 2 = .ok (.putfield 7, 3) := by decide +kernel
theorem dX0_begin_5 : decode cX0_begin 5 = .ok (.aload_n 0, 1) := by decide +kernel
theorem dX0_begin_6 : decode cX0_begin 6 = .ok (.iconst 0, 1) := by decide +kernel
theorem dX0_begin_7 : decode cX0_begin 7 = .ok (.putfield 13, 3) := by decide +kernel
theorem dX0_begin_10 : decode cX0_begin 10 = .ok (.aload_n 0, 1) := by decide +kernel
theorem dX0_begin_11 : decode cX0_begin 11 = .ok (.iload_n 2, 1) := by decide +kernel
theorem dX0_begin_12 : decode cX0_begin 12 = .ok (.putfield 16, 3) := by decide +kernel
theorem dX0_begin_15 : decode cX0_begin 15 = .ok (.aload_n 0, 1) := by decide +kernel
theorem dX0_begin_16 : decode cX0_begin 16 = .ok (.iconst 1, 1) := by decide +kernel
theorem dX0_begin_17 : decode cX0_begin 17 = .ok (.iload_n 2, 1) := by decide +kernel
theorem dX0_begin_18 : decode cX0_begin 18 = .ok (.ishl, 1) := by decide +kernel
theorem dX0_begin_19 : decode cX0_begin 19 = .ok (.putfield 19, 3) := by decide +kernel
theorem dX0_begin_22 : decode cX0_begin 22 = .ok (.return_, 1) := by decide +kernel
theorem dX0_copyFrom_0 : decode cX0_copyFrom 0 = .ok (.aload_n 0, 1) := by decide +kernel
theorem dX0_copyFrom_1 : decode cX0_copyFrom 1 = .ok (.aload_n 1, 1) := by decide +kernel
theorem dX0_copyFrom_2 : decode cX0_copyFrom 2 = .ok (.getfield 7, 3) := by decide +kernel
theorem dX0_copyFrom_5 : decode cX0_copyFrom 5 = .ok (.putfield 7, 3) := by decide +kernel
theorem dX0_copyFrom_8 : decode cX0_copyFrom 8 = .ok (.aload_n 0, 1) := by decide +kernel
theorem dX0_copyFrom_9 : decode cX0_copyFrom 9 = .ok (.aload_n 1, 1) := by decide +kernel
theorem dX0_copyFrom_10 : decode cX0_copyFrom 10 = .ok (.getfield 13, 3) := by decide +kernel
theorem dX0_copyFrom_13 : decode cX0_copyFrom 13 = .ok (.putfield 13, 3) := by decide +kernel
theorem dX0_copyFrom_16 : decode cX0_copyFrom 16 = .ok (.aload_n 0, 1) := by decide +kernel
theorem dX0_copyFrom_17 : decode cX0_copyFrom 17 = .ok (.aload_n 1, 1) := by decide +kernel
theorem dX0_copyFrom_18 : decode cX0_copyFrom 18 = .ok (.getfield 16, 3) := by decide +kernel
theorem dX0_copyFrom_21 : decode cX0_copyFrom 21 = .ok (.putfield 16, 3) := by decide +kernel
theorem dX0_copyFrom_24 : decode cX0_copyFrom 24 = .ok (.aload_n 0, 1) := by decide +kernel
theorem dX0_copyFrom_25 : decode cX0_copyFrom 25 = .ok (.aload_n 1, 1) := by decide +kernel
theorem dX0_copyFrom_26 : decode cX0_copyFrom 26 = .ok (.getfield 19, 3) := by decide +kernel
theorem dX0_copyFrom_29 : decode cX0_copyFrom 29 = .ok (.putfield 19, 3) := by decide +kernel
theorem dX0_copyFrom_32 : decode cX0_copyFrom 32 = .ok (.return_, 1) := by decide +kernel
theorem dX0_passTo_0 : decode cX0_passTo 0 = .ok (.aload_n 0, 1) := by decide +kernel
theorem dX0_passTo_1 : decode cX0_passTo 1 = .ok (.dup, 1) := by decide +kernel
theorem dX0_passTo_2 : decode cX0_passTo 2 = .ok (.getfield 13, 3) := by decide +kernel
theorem dX0_passTo_5 : decode cX0_passTo 5 = .ok (.iconst 1, 1) := by decide +kernel
theorem dX0_passTo_6 : decode cX0_passTo 6 = .ok (.iadd, 1) := by decide +kernel
theorem dX0_passTo_7 : decode cX0_passTo 7 = .ok (.putfield 13, 3) := by decide +kernel
theorem dX0_passTo_10 : decode cX0_passTo 10 = .ok (.aload_n 0, 1) := by decide +kernel
theorem dX0_passTo_11 : decode cX0_passTo 11 = .ok (.dup, 1) := by decide +kernel
theorem dX0_passTo_12 : decode cX0_passTo 12 = .ok (.getfield 19, 3) := by decide +kernel
theorem dX0_passTo_15 : decode cX0_passTo 15 = .ok (.iconst 1, 1) := by decide +kernel
theorem dX0_passTo_16 : decode cX0_passTo 16 = .ok (.iload_n 1, 1) := by decide +kernel
theorem dX0_passTo_17 : decode cX0_passTo 17 = .ok (.ishl, 1) := by decide +kernel
theorem dX0_passTo_18 : decode cX0_passTo 18 = .ok (.ior, 1) := by decide +kernel
theorem dX0_passTo_19 : decode cX0_passTo 19 = .ok (.putfield 19, 3) := by decide +kernel
theorem dX0_passTo_22 : decode cX0_passTo 22 = .ok (.return_, 1) := by decide +kernel
theorem dX0_wasHeldBy_0 : decode cX0_wasHeldBy 0 = .ok (.aload_n 0, 1) := by decide +kernel
theorem dX0_wasHeldBy_1 : decode cX0_wasHeldBy 1 = .ok (.getfield 19, 3) := by decide +kernel
theorem dX0_wasHeldBy_4 : decode cX0_wasHeldBy 4 = .ok (.iconst 1, 1) := by decide +kernel
theorem dX0_wasHeldBy_5 : decode cX0_wasHeldBy 5 = .ok (.iload_n 1, 1) := by decide +kernel
theorem dX0_wasHeldBy_6 : decode cX0_wasHeldBy 6 = .ok (.ishl, 1) := by decide +kernel
theorem dX0_wasHeldBy_7 : decode cX0_wasHeldBy 7 = .ok (.iand, 1) := by decide +kernel
theorem dX0_wasHeldBy_8 : decode cX0_wasHeldBy 8 = .ok (.ifCond .eq 7, 3) := by decide +kernel
theorem dX0_wasHeldBy_11 : decode cX0_wasHeldBy 11 = .ok (.iconst 1, 1) := by decide +kernel
theorem dX0_wasHeldBy_12 : decode cX0_wasHeldBy 12 = .ok (.goto 4, 3) := by decide +kernel
theorem dX0_wasHeldBy_15 : decode cX0_wasHeldBy 15 = .ok (.iconst 0, 1) := by decide +kernel
theorem dX0_wasHeldBy_16 : decode cX0_wasHeldBy 16 = .ok (.ireturn, 1) := by decide +kernel
theorem dX1_init_0 : decode cX1_init 0 = .ok (.aload_n 0, 1) := by decide +kernel
theorem dX1_init_1 : decode cX1_init 1 = .ok (.invokespecial 3, 3) := by decide +kernel
theorem dX1_init_4 : decode cX1_init 4 = .ok (.aload_n 0, 1) := by decide +kernel
theorem dX1_init_5 : decode cX1_init 5 = .ok (.iconst 5, 1) := by decide +kernel
theorem dX1_init_6 : decode cX1_init 6 = .ok (.anewarray 9, 3) := by decide +kernel
theorem dX1_init_9 : decode cX1_init 9 = .ok (.putfield 11, 3) := by decide +kernel
theorem dX1_init_12 : decode cX1_init 12 = .ok (.iconst 0, 1) := by decide +kernel
theorem dX1_init_13 : decode cX1_init 13 = .ok (.istore_n 1, 1) := by decide +kernel
theorem dX1_init_14 : decode cX1_init 14 = .ok (.iload_n 1, 1) := by decide +kernel
theorem dX1_init_15 : decode cX1_init 15 = .ok (.aload_n 0, 1) := by decide +kernel
theorem dX1_init_16 : decode cX1_init 16 = .ok (.getfield 11, 3) := by decide +kernel
theorem dX1_init_19 : decode cX1_init 19 = .ok (.arraylength, 1) := by decide +kernel
theorem dX1_init_20 : decode cX1_init 20 = .ok (.if_icmp .ge 22, 3) := by decide +kernel
theorem dX1_init_23 : decode cX1_init 23 = .ok (.aload_n 0, 1) := by decide +kernel
theorem dX1_init_24 : decode cX1_init 24 = .ok (.getfield 11, 3) := by decide +kernel
theorem dX1_init_27 : decode cX1_init 27 = .ok (.iload_n 1, 1) := by decide +kernel
theorem dX1_init_28 : decode cX1_init 28 = .ok (.new 9, 3) := by decide +kernel
theorem dX1_init_31 : decode cX1_init 31 = .ok (.dup, 1) := by decide +kernel
theorem dX1_init_32 : decode cX1_init 32 = .ok (.invokespecial 17, 3) := by decide +kernel
theorem dX1_init_35 : decode cX1_init 35 = .ok (.aastore, 1) := by decide +kernel
theorem dX1_init_36 : decode cX1_init 36 = .ok (.iinc 1 1, 3) := by decide +kernel
theorem dX1_init_39 : decode cX1_init 39 = .ok (.goto (-25), 3) := by decide +kernel
theorem dX1_init_42 : decode cX1_init 42 = .ok (.return_, 1) := by decide +kernel
theorem dX1_stateAt_0 : decode cX1_stateAt 0 = .ok (.iload_n 1, 1) := by decide +kernel
theorem dX1_stateAt_1 : decode cX1_stateAt 1 = .ok (.ifCond .lt 21, 3) := by decide +kernel
theorem dX1_stateAt_4 : decode cX1_stateAt 4 = .ok (.iload_n 1, 1) := by decide +kernel
theorem dX1_stateAt_5 : decode cX1_stateAt 5 = .ok (.aload_n 0, 1) := by decide +kernel
theorem dX1_stateAt_6 : decode cX1_stateAt 6 = .ok (.getfield 11, 3) := by decide +kernel
theorem dX1_stateAt_9 : decode cX1_stateAt 9 = .ok (.arraylength, 1) := by decide +kernel
theorem dX1_stateAt_10 : decode cX1_stateAt 10 = .ok (.if_icmp .ge 12, 3) := by decide +kernel
theorem dX1_stateAt_13 : decode cX1_stateAt 13 = .ok (.aload_n 0, 1) := by decide +kernel
theorem dX1_stateAt_14 : decode cX1_stateAt 14 = .ok (.getfield 11, 3) := by decide +kernel
theorem dX1_stateAt_17 : decode cX1_stateAt 17 = .ok (.iload_n 1, 1) := by decide +kernel
theorem dX1_stateAt_18 : decode cX1_stateAt 18 = .ok (.aaload, 1) := by decide +kernel
theorem dX1_stateAt_19 : decode cX1_stateAt 19 = .ok (.goto 4, 3) := by decide +kernel
theorem dX1_stateAt_22 : decode cX1_stateAt 22 = .ok (.aconst_null, 1) := by decide +kernel
theorem dX1_stateAt_23 : decode cX1_stateAt 23 = .ok (.areturn, 1) := by decide +kernel
theorem dX1_remember_0 : decode cX1_remember 0 = .ok (.aload_n 0, 1) := by decide +kernel
theorem dX1_remember_1 : decode cX1_remember 1 = .ok (.getfield 18, 3) := by decide +kernel
theorem dX1_remember_4 : decode cX1_remember 4 = .ok (.aload_n 0, 1) := by decide +kernel
theorem dX1_remember_5 : decode cX1_remember 5 = .ok (.getfield 11, 3) := by decide +kernel
theorem dX1_remember_8 : decode cX1_remember 8 = .ok (.arraylength, 1) := by decide +kernel
theorem dX1_remember_9 : decode cX1_remember 9 = .ok (.if_icmp .lt 7, 3) := by decide +kernel
theorem dX1_remember_12 : decode cX1_remember 12 = .ok (.aload_n 0, 1) := by decide +kernel
theorem dX1_remember_13 : decode cX1_remember 13 = .ok (.invokevirtual 22, 3) := by decide +kernel
theorem dX1_remember_16 : decode cX1_remember 16 = .ok (.aload_n 0, 1) := by decide +kernel
theorem dX1_remember_17 : decode cX1_remember 17 = .ok (.aload_n 0, 1) := by decide +kernel
theorem dX1_remember_18 : decode cX1_remember 18 = .ok (.getfield 18, 3) := by decide +kernel
theorem dX1_remember_21 : decode cX1_remember 21 = .ok (.invokevirtual 25, 3) := by decide +kernel
theorem dX1_remember_24 : decode cX1_remember 24 = .ok (.astore_n 2, 1) := by decide +kernel
theorem dX1_remember_25 : decode cX1_remember 25 = .ok (.aload_n 2, 1) := by decide +kernel
theorem dX1_remember_26 : decode cX1_remember 26 = .ok (.ifnull 18, 3) := by decide +kernel
theorem dX1_remember_29 : decode cX1_remember 29 = .ok (.aload_n 2, 1) := by decide +kernel
theorem dX1_remember_30 : decode cX1_remember 30 = .ok (.aload_n 1, 1) := by decide +kernel
theorem dX1_remember_31 : decode cX1_remember 31 = .ok (.invokevirtual 29, 3) := by decide +kernel
theorem dX1_remember_34 : decode cX1_remember 34 = .ok (.aload_n 0, 1) := by decide +kernel
theorem dX1_remember_35 : decode cX1_remember 35 = .ok (.dup, 1) := by decide +kernel
theorem dX1_remember_36 : decode cX1_remember 36 = .ok (.getfield 18, 3) := by decide +kernel
theorem dX1_remember_39 : decode cX1_remember 39 = .ok (.iconst 1, 1) := by decide +kernel
theorem dX1_remember_40 : decode cX1_remember 40 = .ok (.iadd, 1) := by decide +kernel
theorem dX1_remember_41 : decode cX1_remember 41 = .ok (.putfield 18, 3) := by decide +kernel
theorem dX1_remember_44 : decode cX1_remember 44 = .ok (.return_, 1) := by decide +kernel
theorem dX1_bringBack_0 : decode cX1_bringBack 0 = .ok (.aload_n 0, 1) := by decide +kernel
theorem dX1_bringBack_1 : decode cX1_bringBack 1 = .ok (.aload_n 0, 1) := by decide +kernel
theorem dX1_bringBack_2 : decode cX1_bringBack 2 = .ok (.getfield 18, 3) := by decide +kernel
theorem dX1_bringBack_5 : decode cX1_bringBack 5 = .ok (.iconst 1, 1) := by decide +kernel
theorem dX1_bringBack_6 : decode cX1_bringBack 6 = .ok (.isub, 1) := by decide +kernel
theorem dX1_bringBack_7 : decode cX1_bringBack 7 = .ok (.invokevirtual 25, 3) := by decide +kernel
theorem dX1_bringBack_10 : decode cX1_bringBack 10 = .ok (.astore_n 2, 1) := by decide +kernel
theorem dX1_bringBack_11 : decode cX1_bringBack 11 = .ok (.aload_n 2, 1) := by decide +kernel
theorem dX1_bringBack_12 : decode cX1_bringBack 12 = .ok (.ifnonnull 6, 3) := by decide +kernel
theorem dX1_bringBack_15 : decode cX1_bringBack 15 = .ok (.bipush (-5), 2) := by decide +kernel
theorem dX1_bringBack_17 : decode cX1_bringBack 17 = .ok (.ireturn, 1) := by decide +kernel
theorem dX1_bringBack_18 : decode cX1_bringBack 18 = .ok (.aload_n 1, 1) := by decide +kernel
theorem dX1_bringBack_19 : decode cX1_bringBack 19 = .ok (.aload_n 2, 1) := by decide +kernel
theorem dX1_bringBack_20 : decode cX1_bringBack 20 = .ok (.invokevirtual 29, 3) := by decide +kernel
theorem dX1_bringBack_23 : decode cX1_bringBack 23 = .ok (.aload_n 0, 1) := by decide +kernel
theorem dX1_bringBack_24 : decode cX1_bringBack 24 = .ok (.dup, 1) := by decide +kernel
theorem dX1_bringBack_25 : decode cX1_bringBack 25 = .ok (.getfield 18, 3) := by decide +kernel
theorem dX1_bringBack_28 : decode cX1_bringBack 28 = .ok (.iconst 1, 1) := by decide +kernel
theorem dX1_bringBack_29 : decode cX1_bringBack 29 = .ok (.isub, 1) := by decide +kernel
theorem dX1_bringBack_30 : decode cX1_bringBack 30 = .ok (.putfield 18, 3) := by decide +kernel
theorem dX1_bringBack_33 : decode cX1_bringBack 33 = .ok (.aload_n 0, 1) := by decide +kernel
theorem dX1_bringBack_34 : decode cX1_bringBack 34 = .ok (.getfield 18, 3) := by decide +kernel
theorem dX1_bringBack_37 : decode cX1_bringBack 37 = .ok (.ireturn, 1) := by decide +kernel
theorem dX1_dropOldest_0 : decode cX1_dropOldest 0 = .ok (.aload_n 0, 1) := by decide +kernel
theorem dX1_dropOldest_1 : decode cX1_dropOldest 1 = .ok (.iconst 0, 1) := by decide +kernel
theorem dX1_dropOldest_2 : decode cX1_dropOldest 2 = .ok (.invokevirtual 25, 3) := by decide +kernel
theorem dX1_dropOldest_5 : decode cX1_dropOldest 5 = .ok (.astore_n 1, 1) := by decide +kernel
theorem dX1_dropOldest_6 : decode cX1_dropOldest 6 = .ok (.aload_n 0, 1) := by decide +kernel
theorem dX1_dropOldest_7 : decode cX1_dropOldest 7 = .ok (.getfield 11, 3) := by decide +kernel
theorem dX1_dropOldest_10 : decode cX1_dropOldest 10 = .ok (.arraylength, 1) := by decide +kernel
theorem dX1_dropOldest_11 : decode cX1_dropOldest 11 = .ok (.iconst 1, 1) := by decide +kernel
theorem dX1_dropOldest_12 : decode cX1_dropOldest 12 = .ok (.isub, 1) := by decide +kernel
theorem dX1_dropOldest_13 : decode cX1_dropOldest 13 = .ok (.istore_n 2, 1) := by decide +kernel
theorem dX1_dropOldest_14 : decode cX1_dropOldest 14 = .ok (.aload_n 1, 1) := by decide +kernel
theorem dX1_dropOldest_15 : decode cX1_dropOldest 15 = .ok (.ifnull 7, 3) := by decide +kernel
theorem dX1_dropOldest_18 : decode cX1_dropOldest 18 = .ok (.iload_n 2, 1) := by decide +kernel
theorem dX1_dropOldest_19 : decode cX1_dropOldest 19 = .ok (.ifCond .ge 4, 3) := by decide +kernel
theorem dX1_dropOldest_22 : decode cX1_dropOldest 22 = .ok (.return_, 1) := by decide +kernel
theorem dX1_dropOldest_23 : decode cX1_dropOldest 23 = .ok (.iconst 0, 1) := by decide +kernel
theorem dX1_dropOldest_24 : decode cX1_dropOldest 24 = .ok (.istore_n 3, 1) := by decide +kernel
theorem dX1_dropOldest_25 : decode cX1_dropOldest 25 = .ok (.iload_n 3, 1) := by decide +kernel
theorem dX1_dropOldest_26 : decode cX1_dropOldest 26 = .ok (.iload_n 2, 1) := by decide +kernel
theorem dX1_dropOldest_27 : decode cX1_dropOldest 27 = .ok (.if_icmp .ge 23, 3) := by decide +kernel
theorem dX1_dropOldest_30 : decode cX1_dropOldest 30 = .ok (.aload_n 0, 1) := by decide +kernel
theorem dX1_dropOldest_31 : decode cX1_dropOldest 31 = .ok (.getfield 11, 3) := by decide +kernel
theorem dX1_dropOldest_34 : decode cX1_dropOldest 34 = .ok (.iload_n 3, 1) := by decide +kernel
theorem dX1_dropOldest_35 : decode cX1_dropOldest 35 = .ok (.aload_n 0, 1) := by decide +kernel
theorem dX1_dropOldest_36 : decode cX1_dropOldest 36 = .ok (.getfield 11, 3) := by decide +kernel
theorem dX1_dropOldest_39 : decode cX1_dropOldest 39 = .ok (.iload_n 3, 1) := by decide +kernel
theorem dX1_dropOldest_40 : decode cX1_dropOldest 40 = .ok (.iconst 1, 1) := by decide +kernel
theorem dX1_dropOldest_41 : decode cX1_dropOldest 41 = .ok (.iadd, 1) := by decide +kernel
theorem dX1_dropOldest_42 : decode cX1_dropOldest 42 = .ok (.aaload, 1) := by decide +kernel
theorem dX1_dropOldest_43 : decode cX1_dropOldest 43 = .ok (.aastore, 1) := by decide +kernel
theorem dX1_dropOldest_44 : decode cX1_dropOldest 44 = .ok (.iinc 3 1, 3) := by decide +kernel
theorem dX1_dropOldest_47 : decode cX1_dropOldest 47 = .ok (.goto (-22), 3) := by decide +kernel
theorem dX1_dropOldest_50 : decode cX1_dropOldest 50 = .ok (.aload_n 0, 1) := by decide +kernel
theorem dX1_dropOldest_51 : decode cX1_dropOldest 51 = .ok (.getfield 11, 3) := by decide +kernel
theorem dX1_dropOldest_54 : decode cX1_dropOldest 54 = .ok (.iload_n 2, 1) := by decide +kernel
theorem dX1_dropOldest_55 : decode cX1_dropOldest 55 = .ok (.aload_n 1, 1) := by decide +kernel
theorem dX1_dropOldest_56 : decode cX1_dropOldest 56 = .ok (.aastore, 1) := by decide +kernel
theorem dX1_dropOldest_57 : decode cX1_dropOldest 57 = .ok (.aload_n 0, 1) := by decide +kernel
theorem dX1_dropOldest_58 : decode cX1_dropOldest 58 = .ok (.iload_n 2, 1) := by decide +kernel
theorem dX1_dropOldest_59 : decode cX1_dropOldest 59 = .ok (.putfield 18, 3) := by decide +kernel
theorem dX1_dropOldest_62 : decode cX1_dropOldest 62 = .ok (.return_, 1) := by decide +kernel
theorem dX2_init_0 : decode cX2_init 0 = .ok (.aload_n 0, 1) := by decide +kernel
theorem dX2_init_1 : decode cX2_init 1 = .ok (.invokespecial 3, 3) := by decide +kernel
theorem dX2_init_4 : decode cX2_init 4 = .ok (.aload_n 0, 1) := by decide +kernel
theorem dX2_init_5 : decode cX2_init 5 = .ok (.bipush 16, 2) := by decide +kernel
theorem dX2_init_7 : decode cX2_init 7 = .ok (.anewarray 9, 3) := by decide +kernel
theorem dX2_init_10 : decode cX2_init 10 = .ok (.putfield 11, 3) := by decide +kernel
theorem dX2_init_13 : decode cX2_init 13 = .ok (.iconst 0, 1) := by decide +kernel
theorem dX2_init_14 : decode cX2_init 14 = .ok (.istore_n 1, 1) := by decide +kernel
theorem dX2_init_15 : decode cX2_init 15 = .ok (.iload_n 1, 1) := by decide +kernel
theorem dX2_init_16 : decode cX2_init 16 = .ok (.aload_n 0, 1) := by decide +kernel
theorem dX2_init_17 : decode cX2_init 17 = .ok (.getfield 11, 3) := by decide +kernel
theorem dX2_init_20 : decode cX2_init 20 = .ok (.arraylength, 1) := by decide +kernel
theorem dX2_init_21 : decode cX2_init 21 = .ok (.if_icmp .ge 22, 3) := by decide +kernel
theorem dX2_init_24 : decode cX2_init 24 = .ok (.aload_n 0, 1) := by decide +kernel
theorem dX2_init_25 : decode cX2_init 25 = .ok (.getfield 11, 3) := by decide +kernel
theorem dX2_init_28 : decode cX2_init 28 = .ok (.iload_n 1, 1) := by decide +kernel
theorem dX2_init_29 : decode cX2_init 29 = .ok (.new 9, 3) := by decide +kernel
theorem dX2_init_32 : decode cX2_init 32 = .ok (.dup, 1) := by decide +kernel
theorem dX2_init_33 : decode cX2_init 33 = .ok (.invokespecial 17, 3) := by decide +kernel
theorem dX2_init_36 : decode cX2_init 36 = .ok (.aastore, 1) := by decide +kernel
theorem dX2_init_37 : decode cX2_init 37 = .ok (.iinc 1 1, 3) := by decide +kernel
theorem dX2_init_40 : decode cX2_init 40 = .ok (.goto (-25), 3) := by decide +kernel
theorem dX2_init_43 : decode cX2_init 43 = .ok (.aload_n 0, 1) := by decide +kernel
theorem dX2_init_44 : decode cX2_init 44 = .ok (.bipush 10, 2) := by decide +kernel
theorem dX2_init_46 : decode cX2_init 46 = .ok (.putfield 18, 3) := by decide +kernel
theorem dX2_init_49 : decode cX2_init 49 = .ok (.aload_n 0, 1) := by decide +kernel
theorem dX2_init_50 : decode cX2_init 50 = .ok (.bipush (-5), 2) := by decide +kernel
theorem dX2_init_52 : decode cX2_init 52 = .ok (.putfield 22, 3) := by decide +kernel
theorem dX2_init_55 : decode cX2_init 55 = .ok (.return_, 1) := by decide +kernel
theorem dX2_isInRace_0 : decode cX2_isInRace 0 = .ok (.aload_n 0, 1) := by decide +kernel
theorem dX2_isInRace_1 : decode cX2_isInRace 1 = .ok (.getfield 25, 3) := by decide +kernel
theorem dX2_isInRace_4 : decode cX2_isInRace 4 = .ok (.bipush 60, 2) := by decide +kernel
theorem dX2_isInRace_6 : decode cX2_isInRace 6 = .ok (.if_icmp .eq 7, 3) := by decide +kernel
theorem dX2_isInRace_9 : decode cX2_isInRace 9 = .ok (.iconst 1, 1) := by decide +kernel
theorem dX2_isInRace_10 : decode cX2_isInRace 10 = .ok (.goto 4, 3) := by decide +kernel
theorem dX2_isInRace_13 : decode cX2_isInRace 13 = .ok (.iconst 0, 1) := by decide +kernel
theorem dX2_isInRace_14 : decode cX2_isInRace 14 = .ok (.ireturn, 1) := by decide +kernel
theorem dX2_biteAt_0 : decode cX2_biteAt 0 = .ok (.iload_n 1, 1) := by decide +kernel
theorem dX2_biteAt_1 : decode cX2_biteAt 1 = .ok (.ifCond .lt 29, 3) := by decide +kernel
theorem dX2_biteAt_4 : decode cX2_biteAt 4 = .ok (.iload_n 1, 1) := by decide +kernel
theorem dX2_biteAt_5 : decode cX2_biteAt 5 = .ok (.aload_n 0, 1) := by decide +kernel
theorem dX2_biteAt_6 : decode cX2_biteAt 6 = .ok (.getfield 28, 3) := by decide +kernel
theorem dX2_biteAt_9 : decode cX2_biteAt 9 = .ok (.if_icmp .ge 21, 3) := by decide +kernel
theorem dX2_biteAt_12 : decode cX2_biteAt 12 = .ok (.iload_n 1, 1) := by decide +kernel
theorem dX2_biteAt_13 : decode cX2_biteAt 13 = .ok (.aload_n 0, 1) := by decide +kernel
theorem dX2_biteAt_14 : decode cX2_biteAt 14 = .ok (.getfield 11, 3) := by decide +kernel
theorem dX2_biteAt_17 : decode cX2_biteAt 17 = .ok (.arraylength, 1) := by decide +kernel
theorem dX2_biteAt_18 : decode cX2_biteAt 18 = .ok (.if_icmp .ge 12, 3) := by decide +kernel
theorem dX2_biteAt_21 : decode cX2_biteAt 21 = .ok (.aload_n 0, 1) := by decide +kernel
theorem dX2_biteAt_22 : decode cX2_biteAt 22 = .ok (.getfield 11, 3) := by decide +kernel
theorem dX2_biteAt_25 : decode cX2_biteAt 25 = .ok (.iload_n 1, 1) := by decide +kernel
theorem dX2_biteAt_26 : decode cX2_biteAt 26 = .ok (.aaload, 1) := by decide +kernel
theorem dX2_biteAt_27 : decode cX2_biteAt 27 = .ok (.goto 4, 3) := by decide +kernel
theorem dX2_biteAt_30 : decode cX2_biteAt 30 = .ok (.aconst_null, 1) := by decide +kernel
theorem dX2_biteAt_31 : decode cX2_biteAt 31 = .ok (.areturn, 1) := by decide +kernel
theorem dX2_sizesTogether_0 : decode cX2_sizesTogether 0 = .ok (.iconst 0, 1) := by decide +kernel
theorem dX2_sizesTogether_1 : decode cX2_sizesTogether 1 = .ok (.istore_n 1, 1) := by decide +kernel
theorem dX2_sizesTogether_2 : decode cX2_sizesTogether 2 = .ok (.iconst 0, 1) := by decide +kernel
theorem dX2_sizesTogether_3 : decode cX2_sizesTogether 3 = .ok (.istore_n 2, 1) := by decide +kernel
theorem dX2_sizesTogether_4 : decode cX2_sizesTogether 4 = .ok (.iload_n 2, 1) := by decide +kernel
theorem dX2_sizesTogether_5 : decode cX2_sizesTogether 5 = .ok (.aload_n 0, 1) := by decide +kernel
theorem dX2_sizesTogether_6 : decode cX2_sizesTogether 6 = .ok (.getfield 28, 3) := by decide +kernel
theorem dX2_sizesTogether_9 : decode cX2_sizesTogether 9 = .ok (.if_icmp .ge 30, 3) := by decide +kernel
theorem dX2_sizesTogether_12 : decode cX2_sizesTogether 12 = .ok (.aload_n 0, 1) := by decide +kernel
theorem dX2_sizesTogether_13 : decode cX2_sizesTogether 13 = .ok (.iload_n 2, 1) := by decide +kernel
theorem dX2_sizesTogether_14 : decode cX2_sizesTogether 14 = .ok (.invokevirtual 31, 3) := by decide +kernel
theorem dX2_sizesTogether_17 : decode cX2_sizesTogether 17 = .ok (.astore_n 3, 1) := by decide +kernel
theorem dX2_sizesTogether_18 : decode cX2_sizesTogether 18 = .ok (.iload_n 1, 1) := by decide +kernel
theorem dX2_sizesTogether_19 : decode cX2_sizesTogether 19 = .ok (.aload_n 3, 1) := by decide +kernel
theorem dX2_sizesTogether_20 : decode cX2_sizesTogether 20 = .ok (.ifnonnull 7, 3) := by decide +kernel
theorem dX2_sizesTogether_23 : decode cX2_sizesTogether 23 = .ok (.iconst 0, 1) := by decide +kernel
theorem dX2_sizesTogether_24 : decode cX2_sizesTogether 24 = .ok (.goto 7, 3) := by decide +kernel
theorem dX2_sizesTogether_27 : decode cX2_sizesTogether 27 = .ok (.aload_n 3, 1) := by decide +kernel
theorem dX2_sizesTogether_28 : decode cX2_sizesTogether 28 = .ok (.getfield 35, 3) := by decide +kernel
theorem dX2_sizesTogether_31 : decode cX2_sizesTogether 31 = .ok (.iadd, 1) := by decide +kernel
theorem dX2_sizesTogether_32 : decode cX2_sizesTogether 32 = .ok (.istore_n 1, 1) := by decide +kernel
theorem dX2_sizesTogether_33 : decode cX2_sizesTogether 33 = .ok (.iinc 2 1, 3) := by decide +kernel
theorem dX2_sizesTogether_36 : decode cX2_sizesTogether 36 = .ok (.goto (-32), 3) := by decide +kernel
theorem dX2_sizesTogether_39 : decode cX2_sizesTogether 39 = .ok (.iload_n 1, 1) := by decide +kernel
theorem dX2_sizesTogether_40 : decode cX2_sizesTogether 40 = .ok (.ireturn, 1) := by decide +kernel
theorem dX2_nextBeginning_0 : decode cX2_nextBeginning 0 = .ok (.aload_n 0, 1) := by decide +kernel
theorem dX2_nextBeginning_1 : decode cX2_nextBeginning 1 = .ok (.getfield 25, 3) := by decide +kernel
theorem dX2_nextBeginning_4 : decode cX2_nextBeginning 4 = .ok (.aload_n 0, 1) := by decide +kernel
theorem dX2_nextBeginning_5 : decode cX2_nextBeginning 5 = .ok (.invokevirtual 38, 3) := by decide +kernel
theorem dX2_nextBeginning_8 : decode cX2_nextBeginning 8 = .ok (.isub, 1) := by decide +kernel
theorem dX2_nextBeginning_9 : decode cX2_nextBeginning 9 = .ok (.istore_n 1, 1) := by decide +kernel
theorem dX2_nextBeginning_10 : decode cX2_nextBeginning 10 = .ok (.iload_n 1, 1) := by decide +kernel
theorem dX2_nextBeginning_11 : decode cX2_nextBeginning 11 = .ok (.ifCond .le 7, 3) := by decide +kernel
theorem dX2_nextBeginning_14 : decode cX2_nextBeginning 14 = .ok (.iload_n 1, 1) := by decide +kernel
theorem dX2_nextBeginning_15 : decode cX2_nextBeginning 15 = .ok (.goto 4, 3) := by decide +kernel
theorem dX2_nextBeginning_18 : decode cX2_nextBeginning 18 = .ok (.iconst 0, 1) := by decide +kernel
theorem dX2_nextBeginning_19 : decode cX2_nextBeginning 19 = .ok (.ireturn, 1) := by decide +kernel
theorem dX2_hurt_0 : decode cX2_hurt 0 = .ok (.aload_n 0, 1) := by decide +kernel
theorem dX2_hurt_1 : decode cX2_hurt 1 = .ok (.invokevirtual 42, 3) := by decide +kernel
theorem dX2_hurt_4 : decode cX2_hurt 4 = .ok (.istore_n 1, 1) := by decide +kernel
theorem dX2_hurt_5 : decode cX2_hurt 5 = .ok (.aload_n 0, 1) := by decide +kernel
theorem dX2_hurt_6 : decode cX2_hurt 6 = .ok (.dup, 1) := by decide +kernel
theorem dX2_hurt_7 : decode cX2_hurt 7 = .ok (.getfield 45, 3) := by decide +kernel
theorem dX2_hurt_10 : decode cX2_hurt 10 = .ok (.aload_n 0, 1) := by decide +kernel
theorem dX2_hurt_11 : decode cX2_hurt 11 = .ok (.getfield 25, 3) := by decide +kernel
theorem dX2_hurt_14 : decode cX2_hurt 14 = .ok (.iload_n 1, 1) := by decide +kernel
theorem dX2_hurt_15 : decode cX2_hurt 15 = .ok (.isub, 1) := by decide +kernel
theorem dX2_hurt_16 : decode cX2_hurt 16 = .ok (.iadd, 1) := by decide +kernel
theorem dX2_hurt_17 : decode cX2_hurt 17 = .ok (.putfield 45, 3) := by decide +kernel
theorem dX2_hurt_20 : decode cX2_hurt 20 = .ok (.aload_n 0, 1) := by decide +kernel
theorem dX2_hurt_21 : decode cX2_hurt 21 = .ok (.iload_n 1, 1) := by decide +kernel
theorem dX2_hurt_22 : decode cX2_hurt 22 = .ok (.putfield 25, 3) := by decide +kernel
theorem dX2_hurt_25 : decode cX2_hurt 25 = .ok (.aload_n 0, 1) := by decide +kernel
theorem dX2_hurt_26 : decode cX2_hurt 26 = .ok (.iconst 0, 1) := by decide +kernel
theorem dX2_hurt_27 : decode cX2_hurt 27 = .ok (.putfield 28, 3) := by decide +kernel
theorem dX2_hurt_30 : decode cX2_hurt 30 = .ok (.return_, 1) := by decide +kernel
theorem dX2_newLast_0 : decode cX2_newLast 0 = .ok (.aload_n 0, 1) := by decide +kernel
theorem dX2_newLast_1 : decode cX2_newLast 1 = .ok (.getfield 28, 3) := by decide +kernel
theorem dX2_newLast_4 : decode cX2_newLast 4 = .ok (.aload_n 0, 1) := by decide +kernel
theorem dX2_newLast_5 : decode cX2_newLast 5 = .ok (.getfield 11, 3) := by decide +kernel
theorem dX2_newLast_8 : decode cX2_newLast 8 = .ok (.arraylength, 1) := by decide +kernel
theorem dX2_newLast_9 : decode cX2_newLast 9 = .ok (.if_icmp .lt 5, 3) := by decide +kernel
theorem dX2_newLast_12 : decode cX2_newLast 12 = .ok (.aconst_null, 1) := by decide +kernel
theorem dX2_newLast_13 : decode cX2_newLast 13 = .ok (.areturn, 1) := by decide +kernel
theorem dX2_newLast_14 : decode cX2_newLast 14 = .ok (.aload_n 0, 1) := by decide +kernel
theorem dX2_newLast_15 : decode cX2_newLast 15 = .ok (.dup, 1) := by decide +kernel
theorem dX2_newLast_16 : decode cX2_newLast 16 = .ok (.getfield 28, 3) := by decide +kernel
theorem dX2_newLast_19 : decode cX2_newLast 19 = .ok (.iconst 1, 1) := by decide +kernel
theorem dX2_newLast_20 : decode cX2_newLast 20 = .ok (.iadd, 1) := by decide +kernel
theorem dX2_newLast_21 : decode cX2_newLast 21 = .ok (.putfield 28, 3) := by decide +kernel
theorem dX2_newLast_24 : decode cX2_newLast 24 = .ok (.aload_n 0, 1) := by decide +kernel
theorem dX2_newLast_25 : decode cX2_newLast 25 = .ok (.aload_n 0, 1) := by decide +kernel
theorem dX2_newLast_26 : decode cX2_newLast 26 = .ok (.getfield 28, 3) := by decide +kernel
theorem dX2_newLast_29 : decode cX2_newLast 29 = .ok (.iconst 1, 1) := by decide +kernel
theorem dX2_newLast_30 : decode cX2_newLast 30 = .ok (.isub, 1) := by decide +kernel
theorem dX2_newLast_31 : decode cX2_newLast 31 = .ok (.invokevirtual 31, 3) := by decide +kernel
theorem dX2_newLast_34 : decode cX2_newLast 34 = .ok (.areturn, 1) := by decide +kernel
theorem dX2_remove_0 : decode cX2_remove 0 = .ok (.aload_n 0, 1) := by decide +kernel
theorem dX2_remove_1 : decode cX2_remove 1 = .ok (.getfield 28, 3) := by decide +kernel
theorem dX2_remove_4 : decode cX2_remove 4 = .ok (.iconst 1, 1) := by decide +kernel
theorem dX2_remove_5 : decode cX2_remove 5 = .ok (.isub, 1) := by decide +kernel
theorem dX2_remove_6 : decode cX2_remove 6 = .ok (.istore_n 2, 1) := by decide +kernel
theorem dX2_remove_7 : decode cX2_remove 7 = .ok (.iload_n 1, 1) := by decide +kernel
theorem dX2_remove_8 : decode cX2_remove 8 = .ok (.ifCond .lt 17, 3) := by decide +kernel
theorem dX2_remove_11 : decode cX2_remove 11 = .ok (.iload_n 1, 1) := by decide +kernel
theorem dX2_remove_12 : decode cX2_remove 12 = .ok (.iload_n 2, 1) := by decide +kernel
theorem dX2_remove_13 : decode cX2_remove 13 = .ok (.if_icmp .gt 12, 3) := by decide +kernel
theorem dX2_remove_16 : decode cX2_remove 16 = .ok (.iload_n 2, 1) := by decide +kernel
theorem dX2_remove_17 : decode cX2_remove 17 = .ok (.aload_n 0, 1) := by decide +kernel
theorem dX2_remove_18 : decode cX2_remove 18 = .ok (.getfield 11, 3) := by decide +kernel
theorem dX2_remove_21 : decode cX2_remove 21 = .ok (.arraylength, 1) := by decide +kernel
theorem dX2_remove_22 : decode cX2_remove 22 = .ok (.if_icmp .lt 4, 3) := by decide +kernel
theorem dX2_remove_25 : decode cX2_remove 25 = .ok (.return_, 1) := by decide +kernel
theorem dX2_remove_26 : decode cX2_remove 26 = .ok (.aload_n 0, 1) := by decide +kernel
theorem dX2_remove_27 : decode cX2_remove 27 = .ok (.getfield 11, 3) := by decide +kernel
theorem dX2_remove_30 : decode cX2_remove 30 = .ok (.iload_n 1, 1) := by decide +kernel
theorem dX2_remove_31 : decode cX2_remove 31 = .ok (.aaload, 1) := by decide +kernel
theorem dX2_remove_32 : decode cX2_remove 32 = .ok (.astore_n 3, 1) := by decide +kernel
theorem dX2_remove_33 : decode cX2_remove 33 = .ok (.iload_n 1, 1) := by decide +kernel
theorem dX2_remove_34 : decode cX2_remove 34 = .ok (.istore 4, 2) := by decide +kernel
theorem dX2_remove_36 : decode cX2_remove 36 = .ok (.iload 4, 2) := by decide +kernel
theorem dX2_remove_38 : decode cX2_remove 38 = .ok (.iload_n 2, 1) := by decide +kernel
theorem dX2_remove_39 : decode cX2_remove 39 = .ok (.if_icmp .ge 25, 3) := by decide +kernel
theorem dX2_remove_42 : decode cX2_remove 42 = .ok (.aload_n 0, 1) := by decide +kernel
theorem dX2_remove_43 : decode cX2_remove 43 = .ok (.getfield 11, 3) := by decide +kernel
theorem dX2_remove_46 : decode cX2_remove 46 = .ok (.iload 4, 2) := by decide +kernel
theorem dX2_remove_48 : decode cX2_remove 48 = .ok (.aload_n 0, 1) := by decide +kernel
theorem dX2_remove_49 : decode cX2_remove 49 = .ok (.getfield 11, 3) := by decide +kernel
theorem dX2_remove_52 : decode cX2_remove 52 = .ok (.iload 4, 2) := by decide +kernel
theorem dX2_remove_54 : decode cX2_remove 54 = .ok (.iconst 1, 1) := by decide +kernel
theorem dX2_remove_55 : decode cX2_remove 55 = .ok (.iadd, 1) := by decide +kernel
theorem dX2_remove_56 : decode cX2_remove 56 = .ok (.aaload, 1) := by decide +kernel
theorem dX2_remove_57 : decode cX2_remove 57 = .ok (.aastore, 1) := by decide +kernel
theorem dX2_remove_58 : decode cX2_remove 58 = .ok (.iinc 4 1, 3) := by decide +kernel
theorem dX2_remove_61 : decode cX2_remove 61 = .ok (.goto (-25), 3) := by decide +kernel
theorem dX2_remove_64 : decode cX2_remove 64 = .ok (.aload_n 0, 1) := by decide +kernel
theorem dX2_remove_65 : decode cX2_remove 65 = .ok (.getfield 11, 3) := by decide +kernel
theorem dX2_remove_68 : decode cX2_remove 68 = .ok (.iload_n 2, 1) := by decide +kernel
theorem dX2_remove_69 : decode cX2_remove 69 = .ok (.aload_n 3, 1) := by decide +kernel
theorem dX2_remove_70 : decode cX2_remove 70 = .ok (.aastore, 1) := by decide +kernel
theorem dX2_remove_71 : decode cX2_remove 71 = .ok (.aload_n 0, 1) := by decide +kernel
theorem dX2_remove_72 : decode cX2_remove 72 = .ok (.iload_n 2, 1) := by decide +kernel
theorem dX2_remove_73 : decode cX2_remove 73 = .ok (.putfield 28, 3) := by decide +kernel
theorem dX2_remove_76 : decode cX2_remove 76 = .ok (.return_, 1) := by decide +kernel
theorem dX2_copyFrom_0 : decode cX2_copyFrom 0 = .ok (.aload_n 0, 1) := by decide +kernel
theorem dX2_copyFrom_1 : decode cX2_copyFrom 1 = .ok (.aload_n 1, 1) := by decide +kernel
theorem dX2_copyFrom_2 : decode cX2_copyFrom 2 = .ok (.getfield 28, 3) := by decide +kernel
theorem dX2_copyFrom_5 : decode cX2_copyFrom 5 = .ok (.putfield 28, 3) := by decide +kernel
theorem dX2_copyFrom_8 : decode cX2_copyFrom 8 = .ok (.aload_n 0, 1) := by decide +kernel
theorem dX2_copyFrom_9 : decode cX2_copyFrom 9 = .ok (.aload_n 1, 1) := by decide +kernel
theorem dX2_copyFrom_10 : decode cX2_copyFrom 10 = .ok (.getfield 25, 3) := by decide +kernel
theorem dX2_copyFrom_13 : decode cX2_copyFrom 13 = .ok (.putfield 25, 3) := by decide +kernel
theorem dX2_copyFrom_16 : decode cX2_copyFrom 16 = .ok (.aload_n 0, 1) := by decide +kernel
theorem dX2_copyFrom_17 : decode cX2_copyFrom 17 = .ok (.aload_n 1, 1) := by decide +kernel
theorem dX2_copyFrom_18 : decode cX2_copyFrom 18 = .ok (.getfield 18, 3) := by decide +kernel
theorem dX2_copyFrom_21 : decode cX2_copyFrom 21 = .ok (.putfield 18, 3) := by decide +kernel
theorem dX2_copyFrom_24 : decode cX2_copyFrom 24 = .ok (.aload_n 0, 1) := by decide +kernel
theorem dX2_copyFrom_25 : decode cX2_copyFrom 25 = .ok (.aload_n 1, 1) := by decide +kernel
theorem dX2_copyFrom_26 : decode cX2_copyFrom 26 = .ok (.getfield 22, 3) := by decide +kernel
theorem dX2_copyFrom_29 : decode cX2_copyFrom 29 = .ok (.putfield 22, 3) := by decide +kernel
theorem dX2_copyFrom_32 : decode cX2_copyFrom 32 = .ok (.aload_n 0, 1) := by decide +kernel
theorem dX2_copyFrom_33 : decode cX2_copyFrom 33 = .ok (.aload_n 1, 1) := by decide +kernel
theorem dX2_copyFrom_34 : decode cX2_copyFrom 34 = .ok (.getfield 48, 3) := by decide +kernel
theorem dX2_copyFrom_37 : decode cX2_copyFrom 37 = .ok (.putfield 48, 3) := by decide +kernel
theorem dX2_copyFrom_40 : decode cX2_copyFrom 40 = .ok (.aload_n 0, 1) := by decide +kernel
theorem dX2_copyFrom_41 : decode cX2_copyFrom 41 = .ok (.aload_n 1, 1) := by decide +kernel
theorem dX2_copyFrom_42 : decode cX2_copyFrom 42 = .ok (.getfield 45, 3) := by decide +kernel
theorem dX2_copyFrom_45 : decode cX2_copyFrom 45 = .ok (.putfield 45, 3) := by decide +kernel
theorem dX2_copyFrom_48 : decode cX2_copyFrom 48 = .ok (.iconst 0, 1) := by decide +kernel
theorem dX2_copyFrom_49 : decode cX2_copyFrom 49 = .ok (.istore_n 2, 1) := by decide +kernel
theorem dX2_copyFrom_50 : decode cX2_copyFrom 50 = .ok (.iload_n 2, 1) := by decide +kernel
theorem dX2_copyFrom_51 : decode cX2_copyFrom 51 = .ok (.aload_n 0, 1) := by decide +kernel
theorem dX2_copyFrom_52 : decode cX2_copyFrom 52 = .ok (.getfield 28, 3) := by decide +kernel
theorem dX2_copyFrom_55 : decode cX2_copyFrom 55 = .ok (.if_icmp .ge 37, 3) := by decide +kernel
theorem dX2_copyFrom_58 : decode cX2_copyFrom 58 = .ok (.aload_n 0, 1) := by decide +kernel
theorem dX2_copyFrom_59 : decode cX2_copyFrom 59 = .ok (.iload_n 2, 1) := by decide +kernel
theorem dX2_copyFrom_60 : decode cX2_copyFrom 60 = .ok (.invokevirtual 31, 3) := by decide +kernel
theorem dX2_copyFrom_63 : decode cX2_copyFrom 63 = .ok (.astore_n 3, 1) := by decide +kernel
theorem dX2_copyFrom_64 : decode cX2_copyFrom 64 = .ok (.aload_n 1, 1) := by decide +kernel
theorem dX2_copyFrom_65 : decode cX2_copyFrom 65 = .ok (.iload_n 2, 1) := by decide +kernel
theorem dX2_copyFrom_66 : decode cX2_copyFrom 66 = .ok (.invokevirtual 31, 3) := by decide +kernel
theorem dX2_copyFrom_69 : decode cX2_copyFrom 69 = .ok (.astore 4, 2) := by decide +kernel
theorem dX2_copyFrom_71 : decode cX2_copyFrom 71 = .ok (.aload_n 3, 1) := by decide +kernel
theorem dX2_copyFrom_72 : decode cX2_copyFrom 72 = .ok (.ifnull 14, 3) := by decide +kernel
theorem dX2_copyFrom_75 : decode cX2_copyFrom 75 = .ok (.aload 4, 2) := by decide +kernel
theorem dX2_copyFrom_77 : decode cX2_copyFrom 77 = .ok (.ifnull 9, 3) := by decide +kernel
theorem dX2_copyFrom_80 : decode cX2_copyFrom 80 = .ok (.aload_n 3, 1) := by decide +kernel
theorem dX2_copyFrom_81 : decode cX2_copyFrom 81 = .ok (.aload 4, 2) := by decide +kernel
theorem dX2_copyFrom_83 : decode cX2_copyFrom 83 = .ok (.invokevirtual 51, 3) := by decide +kernel
theorem dX2_copyFrom_86 : decode cX2_copyFrom 86 = .ok (.iinc 2 1, 3) := by decide +kernel
theorem dX2_copyFrom_89 : decode cX2_copyFrom 89 = .ok (.goto (-39), 3) := by decide +kernel
theorem dX2_copyFrom_92 : decode cX2_copyFrom 92 = .ok (.return_, 1) := by decide +kernel
theorem dX3_init_0 : decode cX3_init 0 = .ok (.aload_n 0, 1) := by decide +kernel
theorem dX3_init_1 : decode cX3_init 1 = .ok (.invokespecial 3, 3) := by decide +kernel
theorem dX3_init_4 : decode cX3_init 4 = .ok (.aload_n 0, 1) := by decide +kernel
theorem dX3_init_5 : decode cX3_init 5 = .ok (.iconst 4, 1) := by decide +kernel
theorem dX3_init_6 : decode cX3_init 6 = .ok (.anewarray 9, 3) := by decide +kernel
theorem dX3_init_9 : decode cX3_init 9 = .ok (.putfield 11, 3) := by decide +kernel
theorem dX3_init_12 : decode cX3_init 12 = .ok (.iconst 0, 1) := by decide +kernel
theorem dX3_init_13 : decode cX3_init 13 = .ok (.istore_n 1, 1) := by decide +kernel
theorem dX3_init_14 : decode cX3_init 14 = .ok (.iload_n 1, 1) := by decide +kernel
theorem dX3_init_15 : decode cX3_init 15 = .ok (.aload_n 0, 1) := by decide +kernel
theorem dX3_init_16 : decode cX3_init 16 = .ok (.getfield 11, 3) := by decide +kernel
theorem dX3_init_19 : decode cX3_init 19 = .ok (.arraylength, 1) := by decide +kernel
theorem dX3_init_20 : decode cX3_init 20 = .ok (.if_icmp .ge 22, 3) := by decide +kernel
theorem dX3_init_23 : decode cX3_init 23 = .ok (.aload_n 0, 1) := by decide +kernel
theorem dX3_init_24 : decode cX3_init 24 = .ok (.getfield 11, 3) := by decide +kernel
theorem dX3_init_27 : decode cX3_init 27 = .ok (.iload_n 1, 1) := by decide +kernel
theorem dX3_init_28 : decode cX3_init 28 = .ok (.new 9, 3) := by decide +kernel
theorem dX3_init_31 : decode cX3_init 31 = .ok (.dup, 1) := by decide +kernel
theorem dX3_init_32 : decode cX3_init 32 = .ok (.invokespecial 17, 3) := by decide +kernel
theorem dX3_init_35 : decode cX3_init 35 = .ok (.aastore, 1) := by decide +kernel
theorem dX3_init_36 : decode cX3_init 36 = .ok (.iinc 1 1, 3) := by decide +kernel
theorem dX3_init_39 : decode cX3_init 39 = .ok (.goto (-25), 3) := by decide +kernel
theorem dX3_init_42 : decode cX3_init 42 = .ok (.aload_n 0, 1) := by decide +kernel
theorem dX3_init_43 : decode cX3_init 43 = .ok (.bipush 10, 2) := by decide +kernel
theorem dX3_init_45 : decode cX3_init 45 = .ok (.anewarray 18, 3) := by decide +kernel
theorem dX3_init_48 : decode cX3_init 48 = .ok (.putfield 20, 3) := by decide +kernel
theorem dX3_init_51 : decode cX3_init 51 = .ok (.iconst 0, 1) := by decide +kernel
theorem dX3_init_52 : decode cX3_init 52 = .ok (.istore_n 1, 1) := by decide +kernel
theorem dX3_init_53 : decode cX3_init 53 = .ok (.iload_n 1, 1) := by decide +kernel
theorem dX3_init_54 : decode cX3_init 54 = .ok (.aload_n 0, 1) := by decide +kernel
theorem dX3_init_55 : decode cX3_init 55 = .ok (.getfield 20, 3) := by decide +kernel
theorem dX3_init_58 : decode cX3_init 58 = .ok (.arraylength, 1) := by decide +kernel
theorem dX3_init_59 : decode cX3_init 59 = .ok (.if_icmp .ge 22, 3) := by decide +kernel
theorem dX3_init_62 : decode cX3_init 62 = .ok (.aload_n 0, 1) := by decide +kernel
theorem dX3_init_63 : decode cX3_init 63 = .ok (.getfield 20, 3) := by decide +kernel
theorem dX3_init_66 : decode cX3_init 66 = .ok (.iload_n 1, 1) := by decide +kernel
theorem dX3_init_67 : decode cX3_init 67 = .ok (.new 18, 3) := by decide +kernel
theorem dX3_init_70 : decode cX3_init 70 = .ok (.dup, 1) := by decide +kernel
theorem dX3_init_71 : decode cX3_init 71 = .ok (.invokespecial 24, 3) := by decide +kernel
theorem dX3_init_74 : decode cX3_init 74 = .ok (.aastore, 1) := by decide +kernel
theorem dX3_init_75 : decode cX3_init 75 = .ok (.iinc 1 1, 3) := by decide +kernel
theorem dX3_init_78 : decode cX3_init 78 = .ok (.goto (-25), 3) := by decide +kernel
theorem dX3_init_81 : decode cX3_init 81 = .ok (.aload_n 0, 1) := by decide +kernel
theorem dX3_init_82 : decode cX3_init 82 = .ok (.iconst 2, 1) := by decide +kernel
theorem dX3_init_83 : decode cX3_init 83 = .ok (.putfield 25, 3) := by decide +kernel
theorem dX3_init_86 : decode cX3_init 86 = .ok (.aload_n 0, 1) := by decide +kernel
theorem dX3_init_87 : decode cX3_init 87 = .ok (.bipush 20, 2) := by decide +kernel
theorem dX3_init_89 : decode cX3_init 89 = .ok (.putfield 29, 3) := by decide +kernel
theorem dX3_init_92 : decode cX3_init 92 = .ok (.aload_n 0, 1) := by decide +kernel
theorem dX3_init_93 : decode cX3_init 93 = .ok (.iconst 2, 1) := by decide +kernel
theorem dX3_init_94 : decode cX3_init 94 = .ok (.putfield 32, 3) := by decide +kernel
theorem dX3_init_97 : decode cX3_init 97 = .ok (.return_, 1) := by decide +kernel
theorem dX3_copyFrom_0 : decode cX3_copyFrom 0 = .ok (.iconst 0, 1) := by decide +kernel
theorem dX3_copyFrom_1 : decode cX3_copyFrom 1 = .ok (.istore_n 2, 1) := by decide +kernel
theorem dX3_copyFrom_2 : decode cX3_copyFrom 2 = .ok (.iload_n 2, 1) := by decide +kernel
theorem dX3_copyFrom_3 : decode cX3_copyFrom 3 = .ok (.iconst 4, 1) := by decide +kernel
theorem dX3_copyFrom_4 : decode cX3_copyFrom 4 = .ok (.if_icmp .ge 37, 3) := by decide +kernel
theorem dX3_copyFrom_7 : decode cX3_copyFrom 7 = .ok (.aload_n 0, 1) := by decide +kernel
theorem dX3_copyFrom_8 : decode cX3_copyFrom 8 = .ok (.iload_n 2, 1) := by decide +kernel
theorem dX3_copyFrom_9 : decode cX3_copyFrom 9 = .ok (.invokevirtual 35, 3) := by decide +kernel
theorem dX3_copyFrom_12 : decode cX3_copyFrom 12 = .ok (.astore_n 3, 1) := by decide +kernel
theorem dX3_copyFrom_13 : decode cX3_copyFrom 13 = .ok (.aload_n 1, 1) := by decide +kernel
theorem dX3_copyFrom_14 : decode cX3_copyFrom 14 = .ok (.iload_n 2, 1) := by decide +kernel
theorem dX3_copyFrom_15 : decode cX3_copyFrom 15 = .ok (.invokevirtual 35, 3) := by decide +kernel
theorem dX3_copyFrom_18 : decode cX3_copyFrom 18 = .ok (.astore 4, 2) := by decide +kernel
theorem dX3_copyFrom_20 : decode cX3_copyFrom 20 = .ok (.aload_n 3, 1) := by decide +kernel
theorem dX3_copyFrom_21 : decode cX3_copyFrom 21 = .ok (.ifnull 14, 3) := by decide +kernel
theorem dX3_copyFrom_24 : decode cX3_copyFrom 24 = .ok (.aload 4, 2) := by decide +kernel
theorem dX3_copyFrom_26 : decode cX3_copyFrom 26 = .ok (.ifnull 9, 3) := by decide +kernel
theorem dX3_copyFrom_29 : decode cX3_copyFrom 29 = .ok (.aload_n 3, 1) := by decide +kernel
theorem dX3_copyFrom_30 : decode cX3_copyFrom 30 = .ok (.aload 4, 2) := by decide +kernel
theorem dX3_copyFrom_32 : decode cX3_copyFrom 32 = .ok (.invokevirtual 39, 3) := by decide +kernel
theorem dX3_copyFrom_35 : decode cX3_copyFrom 35 = .ok (.iinc 2 1, 3) := by decide +kernel
theorem dX3_copyFrom_38 : decode cX3_copyFrom 38 = .ok (.goto (-36), 3) := by decide +kernel
theorem dX3_copyFrom_41 : decode cX3_copyFrom 41 = .ok (.iconst 0, 1) := by decide +kernel
theorem dX3_copyFrom_42 : decode cX3_copyFrom 42 = .ok (.istore_n 2, 1) := by decide +kernel
theorem dX3_copyFrom_43 : decode cX3_copyFrom 43 = .ok (.iload_n 2, 1) := by decide +kernel
theorem dX3_copyFrom_44 : decode cX3_copyFrom 44 = .ok (.bipush 10, 2) := by decide +kernel
theorem dX3_copyFrom_46 : decode cX3_copyFrom 46 = .ok (.if_icmp .ge 37, 3) := by decide +kernel
theorem dX3_copyFrom_49 : decode cX3_copyFrom 49 = .ok (.aload_n 0, 1) := by decide +kernel
theorem dX3_copyFrom_50 : decode cX3_copyFrom 50 = .ok (.iload_n 2, 1) := by decide +kernel
theorem dX3_copyFrom_51 : decode cX3_copyFrom 51 = .ok (.invokevirtual 43, 3) := by decide +kernel
theorem dX3_copyFrom_54 : decode cX3_copyFrom 54 = .ok (.astore_n 3, 1) := by decide +kernel
theorem dX3_copyFrom_55 : decode cX3_copyFrom 55 = .ok (.aload_n 1, 1) := by decide +kernel
theorem dX3_copyFrom_56 : decode cX3_copyFrom 56 = .ok (.iload_n 2, 1) := by decide +kernel
theorem dX3_copyFrom_57 : decode cX3_copyFrom 57 = .ok (.invokevirtual 43, 3) := by decide +kernel
theorem dX3_copyFrom_60 : decode cX3_copyFrom 60 = .ok (.astore 4, 2) := by decide +kernel
theorem dX3_copyFrom_62 : decode cX3_copyFrom 62 = .ok (.aload_n 3, 1) := by decide +kernel
theorem dX3_copyFrom_63 : decode cX3_copyFrom 63 = .ok (.ifnull 14, 3) := by decide +kernel
theorem dX3_copyFrom_66 : decode cX3_copyFrom 66 = .ok (.aload 4, 2) := by decide +kernel
theorem dX3_copyFrom_68 : decode cX3_copyFrom 68 = .ok (.ifnull 9, 3) := by decide +kernel
theorem dX3_copyFrom_71 : decode cX3_copyFrom 71 = .ok (.aload_n 3, 1) := by decide +kernel
theorem dX3_copyFrom_72 : decode cX3_copyFrom 72 = .ok (.aload 4, 2) := by decide +kernel
theorem dX3_copyFrom_74 : decode cX3_copyFrom 74 = .ok (.invokevirtual 47, 3) := by decide +kernel
theorem dX3_copyFrom_77 : decode cX3_copyFrom 77 = .ok (.iinc 2 1, 3) := by decide +kernel
theorem dX3_copyFrom_80 : decode cX3_copyFrom 80 = .ok (.goto (-37), 3) := by decide +kernel
theorem dX3_copyFrom_83 : decode cX3_copyFrom 83 = .ok (.aload_n 0, 1) := by decide +kernel
theorem dX3_copyFrom_84 : decode cX3_copyFrom 84 = .ok (.aload_n 1, 1) := by decide +kernel
theorem dX3_copyFrom_85 : decode cX3_copyFrom 85 = .ok (.getfield 25, 3) := by decide +kernel
theorem dX3_copyFrom_88 : decode cX3_copyFrom 88 = .ok (.putfield 25, 3) := by decide +kernel
theorem dX3_copyFrom_91 : decode cX3_copyFrom 91 = .ok (.aload_n 0, 1) := by decide +kernel
theorem dX3_copyFrom_92 : decode cX3_copyFrom 92 = .ok (.aload_n 1, 1) := by decide +kernel
theorem dX3_copyFrom_93 : decode cX3_copyFrom 93 = .ok (.getfield 29, 3) := by decide +kernel
theorem dX3_copyFrom_96 : decode cX3_copyFrom 96 = .ok (.putfield 29, 3) := by decide +kernel
theorem dX3_copyFrom_99 : decode cX3_copyFrom 99 = .ok (.aload_n 0, 1) := by decide +kernel
theorem dX3_copyFrom_100 : decode cX3_copyFrom 100 = .ok (.aload_n 1, 1) := by decide +kernel
theorem dX3_copyFrom_101 : decode cX3_copyFrom 101 = .ok (.getfield 32, 3) := by decide +kernel
theorem dX3_copyFrom_104 : decode cX3_copyFrom 104 = .ok (.putfield 32, 3) := by decide +kernel
theorem dX3_copyFrom_107 : decode cX3_copyFrom 107 = .ok (.aload_n 0, 1) := by decide +kernel
theorem dX3_copyFrom_108 : decode cX3_copyFrom 108 = .ok (.aload_n 1, 1) := by decide +kernel
theorem dX3_copyFrom_109 : decode cX3_copyFrom 109 = .ok (.getfield 50, 3) := by decide +kernel
theorem dX3_copyFrom_112 : decode cX3_copyFrom 112 = .ok (.putfield 50, 3) := by decide +kernel
theorem dX3_copyFrom_115 : decode cX3_copyFrom 115 = .ok (.aload_n 0, 1) := by decide +kernel
theorem dX3_copyFrom_116 : decode cX3_copyFrom 116 = .ok (.aload_n 1, 1) := by decide +kernel
theorem dX3_copyFrom_117 : decode cX3_copyFrom 117 = .ok (.getfield 53, 3) := by decide +kernel
theorem dX3_copyFrom_120 : decode cX3_copyFrom 120 = .ok (.putfield 53, 3) := by decide +kernel
theorem dX3_copyFrom_123 : decode cX3_copyFrom 123 = .ok (.aload_n 0, 1) := by decide +kernel
theorem dX3_copyFrom_124 : decode cX3_copyFrom 124 = .ok (.aload_n 1, 1) := by decide +kernel
theorem dX3_copyFrom_125 : decode cX3_copyFrom 125 = .ok (.getfield 56, 3) := by decide +kernel
theorem dX3_copyFrom_128 : decode cX3_copyFrom 128 = .ok (.putfield 56, 3) := by decide +kernel
theorem dX3_copyFrom_131 : decode cX3_copyFrom 131 = .ok (.aload_n 0, 1) := by decide +kernel
theorem dX3_copyFrom_132 : decode cX3_copyFrom 132 = .ok (.aload_n 1, 1) := by decide +kernel
theorem dX3_copyFrom_133 : decode cX3_copyFrom 133 = .ok (.getfield 59, 3) := by decide +kernel
theorem dX3_copyFrom_136 : decode cX3_copyFrom 136 = .ok (.putfield 59, 3) := by decide +kernel
theorem dX3_copyFrom_139 : decode cX3_copyFrom 139 = .ok (.aload_n 0, 1) := by decide +kernel
theorem dX3_copyFrom_140 : decode cX3_copyFrom 140 = .ok (.aload_n 1, 1) := by decide +kernel
theorem dX3_copyFrom_141 : decode cX3_copyFrom 141 = .ok (.getfield 62, 3) := by decide +kernel
theorem dX3_copyFrom_144 : decode cX3_copyFrom 144 = .ok (.putfield 62, 3) := by decide +kernel
theorem dX3_copyFrom_147 : decode cX3_copyFrom 147 = .ok (.return_, 1) := by decide +kernel
theorem dX3_pieceOf_0 : decode cX3_pieceOf 0 = .ok (.iload_n 1, 1) := by decide +kernel
theorem dX3_pieceOf_1 : decode cX3_pieceOf 1 = .ok (.ifCond .lt 21, 3) := by decide +kernel
theorem dX3_pieceOf_4 : decode cX3_pieceOf 4 = .ok (.iload_n 1, 1) := by decide +kernel
theorem dX3_pieceOf_5 : decode cX3_pieceOf 5 = .ok (.aload_n 0, 1) := by decide +kernel
theorem dX3_pieceOf_6 : decode cX3_pieceOf 6 = .ok (.getfield 11, 3) := by decide +kernel
theorem dX3_pieceOf_9 : decode cX3_pieceOf 9 = .ok (.arraylength, 1) := by decide +kernel
theorem dX3_pieceOf_10 : decode cX3_pieceOf 10 = .ok (.if_icmp .ge 12, 3) := by decide +kernel
theorem dX3_pieceOf_13 : decode cX3_pieceOf 13 = .ok (.aload_n 0, 1) := by decide +kernel
theorem dX3_pieceOf_14 : decode cX3_pieceOf 14 = .ok (.getfield 11, 3) := by decide +kernel
theorem dX3_pieceOf_17 : decode cX3_pieceOf 17 = .ok (.iload_n 1, 1) := by decide +kernel
theorem dX3_pieceOf_18 : decode cX3_pieceOf 18 = .ok (.aaload, 1) := by decide +kernel
theorem dX3_pieceOf_19 : decode cX3_pieceOf 19 = .ok (.goto 4, 3) := by decide +kernel
theorem dX3_pieceOf_22 : decode cX3_pieceOf 22 = .ok (.aconst_null, 1) := by decide +kernel
theorem dX3_pieceOf_23 : decode cX3_pieceOf 23 = .ok (.areturn, 1) := by decide +kernel
theorem dX3_biteOf_0 : decode cX3_biteOf 0 = .ok (.aload_n 0, 1) := by decide +kernel
theorem dX3_biteOf_1 : decode cX3_biteOf 1 = .ok (.iload_n 1, 1) := by decide +kernel
theorem dX3_biteOf_2 : decode cX3_biteOf 2 = .ok (.invokevirtual 35, 3) := by decide +kernel
theorem dX3_biteOf_5 : decode cX3_biteOf 5 = .ok (.astore_n 3, 1) := by decide +kernel
theorem dX3_biteOf_6 : decode cX3_biteOf 6 = .ok (.aload_n 3, 1) := by decide +kernel
theorem dX3_biteOf_7 : decode cX3_biteOf 7 = .ok (.ifnonnull 7, 3) := by decide +kernel
theorem dX3_biteOf_10 : decode cX3_biteOf 10 = .ok (.aconst_null, 1) := by decide +kernel
theorem dX3_biteOf_11 : decode cX3_biteOf 11 = .ok (.goto 8, 3) := by decide +kernel
theorem dX3_biteOf_14 : decode cX3_biteOf 14 = .ok (.aload_n 3, 1) := by decide +kernel
theorem dX3_biteOf_15 : decode cX3_biteOf 15 = .ok (.iload_n 2, 1) := by decide +kernel
theorem dX3_biteOf_16 : decode cX3_biteOf 16 = .ok (.invokevirtual 65, 3) := by decide +kernel
theorem dX3_biteOf_19 : decode cX3_biteOf 19 = .ok (.areturn, 1) := by decide +kernel
theorem dX3_placeOfSnake_0 : decode cX3_placeOfSnake 0 = .ok (.iload_n 1, 1) := by decide +kernel
theorem dX3_placeOfSnake_1 : decode cX3_placeOfSnake 1 = .ok (.ifCond .lt 21, 3) := by decide +kernel
theorem dX3_placeOfSnake_4 : decode cX3_placeOfSnake 4 = .ok (.iload_n 1, 1) := by decide +kernel
theorem dX3_placeOfSnake_5 : decode cX3_placeOfSnake 5 = .ok (.aload_n 0, 1) := by decide +kernel
theorem dX3_placeOfSnake_6 : decode cX3_placeOfSnake 6 = .ok (.getfield 20, 3) := by decide +kernel
theorem dX3_placeOfSnake_9 : decode cX3_placeOfSnake 9 = .ok (.arraylength, 1) := by decide +kernel
theorem dX3_placeOfSnake_10 : decode cX3_placeOfSnake 10 = .ok (.if_icmp .ge 12, 3) := by decide +kernel
theorem dX3_placeOfSnake_13 : decode cX3_placeOfSnake 13 = .ok (.aload_n 0, 1) := by decide +kernel
theorem dX3_placeOfSnake_14 : decode cX3_placeOfSnake 14 = .ok (.getfield 20, 3) := by decide +kernel
theorem dX3_placeOfSnake_17 : decode cX3_placeOfSnake 17 = .ok (.iload_n 1, 1) := by decide +kernel
theorem dX3_placeOfSnake_18 : decode cX3_placeOfSnake 18 = .ok (.aaload, 1) := by decide +kernel
theorem dX3_placeOfSnake_19 : decode cX3_placeOfSnake 19 = .ok (.goto 4, 3) := by decide +kernel
theorem dX3_placeOfSnake_22 : decode cX3_placeOfSnake 22 = .ok (.aconst_null, 1) := by decide +kernel
theorem dX3_placeOfSnake_23 : decode cX3_placeOfSnake 23 = .ok (.areturn, 1) := by decide +kernel
theorem dX3_snakeNumbered_0 : decode cX3_snakeNumbered 0 = .ok (.aload_n 0, 1) := by decide +kernel
theorem dX3_snakeNumbered_1 : decode cX3_snakeNumbered 1 = .ok (.iload_n 1, 1) := by decide +kernel
theorem dX3_snakeNumbered_2 : decode cX3_snakeNumbered 2 = .ok (.invokevirtual 43, 3) := by decide +kernel
theorem dX3_snakeNumbered_5 : decode cX3_snakeNumbered 5 = .ok (.astore_n 2, 1) := by decide +kernel
theorem dX3_snakeNumbered_6 : decode cX3_snakeNumbered 6 = .ok (.aload_n 2, 1) := by decide +kernel
theorem dX3_snakeNumbered_7 : decode cX3_snakeNumbered 7 = .ok (.ifnull 14, 3) := by decide +kernel
theorem dX3_snakeNumbered_10 : decode cX3_snakeNumbered 10 = .ok (.aload_n 2, 1) := by decide +kernel
theorem dX3_snakeNumbered_11 : decode cX3_snakeNumbered 11 = .ok (.invokevirtual 69, 3) := by decide +kernel
theorem dX3_snakeNumbered_14 : decode cX3_snakeNumbered 14 = .ok (.ifCond .eq 7, 3) := by decide +kernel
theorem dX3_snakeNumbered_17 : decode cX3_snakeNumbered 17 = .ok (.aload_n 2, 1) := by decide +kernel
theorem dX3_snakeNumbered_18 : decode cX3_snakeNumbered 18 = .ok (.goto 4, 3) := by decide +kernel
theorem dX3_snakeNumbered_21 : decode cX3_snakeNumbered 21 = .ok (.aconst_null, 1) := by decide +kernel
theorem dX3_snakeNumbered_22 : decode cX3_snakeNumbered 22 = .ok (.areturn, 1) := by decide +kernel
theorem dX3_freeNumber_0 : decode cX3_freeNumber 0 = .ok (.iconst 0, 1) := by decide +kernel
theorem dX3_freeNumber_1 : decode cX3_freeNumber 1 = .ok (.istore_n 1, 1) := by decide +kernel
theorem dX3_freeNumber_2 : decode cX3_freeNumber 2 = .ok (.iload_n 1, 1) := by decide +kernel
theorem dX3_freeNumber_3 : decode cX3_freeNumber 3 = .ok (.bipush 10, 2) := by decide +kernel
theorem dX3_freeNumber_5 : decode cX3_freeNumber 5 = .ok (.if_icmp .ge 19, 3) := by decide +kernel
theorem dX3_freeNumber_8 : decode cX3_freeNumber 8 = .ok (.aload_n 0, 1) := by decide +kernel
theorem dX3_freeNumber_9 : decode cX3_freeNumber 9 = .ok (.iload_n 1, 1) := by decide +kernel
theorem dX3_freeNumber_10 : decode cX3_freeNumber 10 = .ok (.invokevirtual 73, 3) := by decide +kernel
theorem dX3_freeNumber_13 : decode cX3_freeNumber 13 = .ok (.ifnonnull 5, 3) := by decide +kernel
theorem dX3_freeNumber_16 : decode cX3_freeNumber 16 = .ok (.iload_n 1, 1) := by decide +kernel
theorem dX3_freeNumber_17 : decode cX3_freeNumber 17 = .ok (.ireturn, 1) := by decide +kernel
theorem dX3_freeNumber_18 : decode cX3_freeNumber 18 = .ok (.iinc 1 1, 3) := by decide +kernel
theorem dX3_freeNumber_21 : decode cX3_freeNumber 21 = .ok (.goto (-19), 3) := by decide +kernel
theorem dX3_freeNumber_24 : decode cX3_freeNumber 24 = .ok (.bipush (-5), 2) := by decide +kernel
theorem dX3_freeNumber_26 : decode cX3_freeNumber 26 = .ok (.ireturn, 1) := by decide +kernel
theorem dX3_numberOfHeadOn_0 : decode cX3_numberOfHeadOn 0 = .ok (.iconst 0, 1) := by decide +kernel
theorem dX3_numberOfHeadOn_1 : decode cX3_numberOfHeadOn 1 = .ok (.istore_n 2, 1) := by decide +kernel
theorem dX3_numberOfHeadOn_2 : decode cX3_numberOfHeadOn 2 = .ok (.iload_n 2, 1) := by decide +kernel
theorem dX3_numberOfHeadOn_3 : decode cX3_numberOfHeadOn 3 = .ok (.bipush 10, 2) := by decide +kernel
theorem dX3_numberOfHeadOn_5 : decode cX3_numberOfHeadOn 5 = .ok (.if_icmp .ge 29, 3) := by decide +kernel
theorem dX3_numberOfHeadOn_8 : decode cX3_numberOfHeadOn 8 = .ok (.aload_n 0, 1) := by decide +kernel
theorem dX3_numberOfHeadOn_9 : decode cX3_numberOfHeadOn 9 = .ok (.iload_n 2, 1) := by decide +kernel
theorem dX3_numberOfHeadOn_10 : decode cX3_numberOfHeadOn 10 = .ok (.invokevirtual 73, 3) := by decide +kernel
theorem dX3_numberOfHeadOn_13 : decode cX3_numberOfHeadOn 13 = .ok (.astore_n 3, 1) := by decide +kernel
theorem dX3_numberOfHeadOn_14 : decode cX3_numberOfHeadOn 14 = .ok (.aload_n 3, 1) := by decide +kernel
theorem dX3_numberOfHeadOn_15 : decode cX3_numberOfHeadOn 15 = .ok (.ifnull 13, 3) := by decide +kernel
theorem dX3_numberOfHeadOn_18 : decode cX3_numberOfHeadOn 18 = .ok (.aload_n 3, 1) := by decide +kernel
theorem dX3_numberOfHeadOn_19 : decode cX3_numberOfHeadOn 19 = .ok (.getfield 76, 3) := by decide +kernel
theorem dX3_numberOfHeadOn_22 : decode cX3_numberOfHeadOn 22 = .ok (.iload_n 1, 1) := by decide +kernel
theorem dX3_numberOfHeadOn_23 : decode cX3_numberOfHeadOn 23 = .ok (.if_icmp .ne 5, 3) := by decide +kernel
theorem dX3_numberOfHeadOn_26 : decode cX3_numberOfHeadOn 26 = .ok (.iload_n 2, 1) := by decide +kernel
theorem dX3_numberOfHeadOn_27 : decode cX3_numberOfHeadOn 27 = .ok (.ireturn, 1) := by decide +kernel
theorem dX3_numberOfHeadOn_28 : decode cX3_numberOfHeadOn 28 = .ok (.iinc 2 1, 3) := by decide +kernel
theorem dX3_numberOfHeadOn_31 : decode cX3_numberOfHeadOn 31 = .ok (.goto (-29), 3) := by decide +kernel
theorem dX3_numberOfHeadOn_34 : decode cX3_numberOfHeadOn 34 = .ok (.bipush (-5), 2) := by decide +kernel
theorem dX3_numberOfHeadOn_36 : decode cX3_numberOfHeadOn 36 = .ok (.ireturn, 1) := by decide +kernel
theorem dX3_tailsOn_0 : decode cX3_tailsOn 0 = .ok (.iconst 0, 1) := by decide +kernel
theorem dX3_tailsOn_1 : decode cX3_tailsOn 1 = .ok (.istore_n 2, 1) := by decide +kernel
theorem dX3_tailsOn_2 : decode cX3_tailsOn 2 = .ok (.iconst 0, 1) := by decide +kernel
theorem dX3_tailsOn_3 : decode cX3_tailsOn 3 = .ok (.istore_n 3, 1) := by decide +kernel
theorem dX3_tailsOn_4 : decode cX3_tailsOn 4 = .ok (.iload_n 3, 1) := by decide +kernel
theorem dX3_tailsOn_5 : decode cX3_tailsOn 5 = .ok (.bipush 10, 2) := by decide +kernel
theorem dX3_tailsOn_7 : decode cX3_tailsOn 7 = .ok (.if_icmp .ge 33, 3) := by decide +kernel
theorem dX3_tailsOn_10 : decode cX3_tailsOn 10 = .ok (.aload_n 0, 1) := by decide +kernel
theorem dX3_tailsOn_11 : decode cX3_tailsOn 11 = .ok (.iload_n 3, 1) := by decide +kernel
theorem dX3_tailsOn_12 : decode cX3_tailsOn 12 = .ok (.invokevirtual 73, 3) := by decide +kernel
theorem dX3_tailsOn_15 : decode cX3_tailsOn 15 = .ok (.astore 4, 2) := by decide +kernel
theorem dX3_tailsOn_17 : decode cX3_tailsOn 17 = .ok (.aload 4, 2) := by decide +kernel
theorem dX3_tailsOn_19 : decode cX3_tailsOn 19 = .ok (.ifnull 15, 3) := by decide +kernel
theorem dX3_tailsOn_22 : decode cX3_tailsOn 22 = .ok (.aload 4, 2) := by decide +kernel
theorem dX3_tailsOn_24 : decode cX3_tailsOn 24 = .ok (.getfield 79, 3) := by decide +kernel
theorem dX3_tailsOn_27 : decode cX3_tailsOn 27 = .ok (.iload_n 1, 1) := by decide +kernel
theorem dX3_tailsOn_28 : decode cX3_tailsOn 28 = .ok (.if_icmp .ne 6, 3) := by decide +kernel
theorem dX3_tailsOn_31 : decode cX3_tailsOn 31 = .ok (.iinc 2 1, 3) := by decide +kernel
theorem dX3_tailsOn_34 : decode cX3_tailsOn 34 = .ok (.iinc 3 1, 3) := by decide +kernel
theorem dX3_tailsOn_37 : decode cX3_tailsOn 37 = .ok (.goto (-33), 3) := by decide +kernel
theorem dX3_tailsOn_40 : decode cX3_tailsOn 40 = .ok (.iload_n 2, 1) := by decide +kernel
theorem dX3_tailsOn_41 : decode cX3_tailsOn 41 = .ok (.ireturn, 1) := by decide +kernel
theorem dX3_snakesThere_0 : decode cX3_snakesThere 0 = .ok (.iconst 0, 1) := by decide +kernel
theorem dX3_snakesThere_1 : decode cX3_snakesThere 1 = .ok (.istore_n 1, 1) := by decide +kernel
theorem dX3_snakesThere_2 : decode cX3_snakesThere 2 = .ok (.iconst 0, 1) := by decide +kernel
theorem dX3_snakesThere_3 : decode cX3_snakesThere 3 = .ok (.istore_n 2, 1) := by decide +kernel
theorem dX3_snakesThere_4 : decode cX3_snakesThere 4 = .ok (.iload_n 2, 1) := by decide +kernel
theorem dX3_snakesThere_5 : decode cX3_snakesThere 5 = .ok (.bipush 10, 2) := by decide +kernel
theorem dX3_snakesThere_7 : decode cX3_snakesThere 7 = .ok (.if_icmp .ge 25, 3) := by decide +kernel
theorem dX3_snakesThere_10 : decode cX3_snakesThere 10 = .ok (.iload_n 1, 1) := by decide +kernel
theorem dX3_snakesThere_11 : decode cX3_snakesThere 11 = .ok (.aload_n 0, 1) := by decide +kernel
theorem dX3_snakesThere_12 : decode cX3_snakesThere 12 = .ok (.iload_n 2, 1) := by decide +kernel
theorem dX3_snakesThere_13 : decode cX3_snakesThere 13 = .ok (.invokevirtual 73, 3) := by decide +kernel
theorem dX3_snakesThere_16 : decode cX3_snakesThere 16 = .ok (.ifnonnull 7, 3) := by decide +kernel
theorem dX3_snakesThere_19 : decode cX3_snakesThere 19 = .ok (.iconst 0, 1) := by decide +kernel
theorem dX3_snakesThere_20 : decode cX3_snakesThere 20 = .ok (.goto 4, 3) := by decide +kernel
theorem dX3_snakesThere_23 : decode cX3_snakesThere 23 = .ok (.iconst 1, 1) := by decide +kernel
theorem dX3_snakesThere_24 : decode cX3_snakesThere 24 = .ok (.iadd, 1) := by decide +kernel
theorem dX3_snakesThere_25 : decode cX3_snakesThere 25 = .ok (.istore_n 1, 1) := by decide +kernel
theorem dX3_snakesThere_26 : decode cX3_snakesThere 26 = .ok (.iinc 2 1, 3) := by decide +kernel
theorem dX3_snakesThere_29 : decode cX3_snakesThere 29 = .ok (.goto (-25), 3) := by decide +kernel
theorem dX3_snakesThere_32 : decode cX3_snakesThere 32 = .ok (.iload_n 1, 1) := by decide +kernel
theorem dX3_snakesThere_33 : decode cX3_snakesThere 33 = .ok (.ireturn, 1) := by decide +kernel
theorem dX3_piecesOn_0 : decode cX3_piecesOn 0 = .ok (.iconst 0, 1) := by decide +kernel
theorem dX3_piecesOn_1 : decode cX3_piecesOn 1 = .ok (.istore_n 2, 1) := by decide +kernel
theorem dX3_piecesOn_2 : decode cX3_piecesOn 2 = .ok (.iconst 0, 1) := by decide +kernel
theorem dX3_piecesOn_3 : decode cX3_piecesOn 3 = .ok (.istore_n 3, 1) := by decide +kernel
theorem dX3_piecesOn_4 : decode cX3_piecesOn 4 = .ok (.iload_n 3, 1) := by decide +kernel
theorem dX3_piecesOn_5 : decode cX3_piecesOn 5 = .ok (.iconst 4, 1) := by decide +kernel
theorem dX3_piecesOn_6 : decode cX3_piecesOn 6 = .ok (.if_icmp .ge 36, 3) := by decide +kernel
theorem dX3_piecesOn_9 : decode cX3_piecesOn 9 = .ok (.aload_n 0, 1) := by decide +kernel
theorem dX3_piecesOn_10 : decode cX3_piecesOn 10 = .ok (.iload_n 3, 1) := by decide +kernel
theorem dX3_piecesOn_11 : decode cX3_piecesOn 11 = .ok (.invokevirtual 35, 3) := by decide +kernel
theorem dX3_piecesOn_14 : decode cX3_piecesOn 14 = .ok (.astore 4, 2) := by decide +kernel
theorem dX3_piecesOn_16 : decode cX3_piecesOn 16 = .ok (.aload 4, 2) := by decide +kernel
theorem dX3_piecesOn_18 : decode cX3_piecesOn 18 = .ok (.ifnull 18, 3) := by decide +kernel
theorem dX3_piecesOn_21 : decode cX3_piecesOn 21 = .ok (.aload 4, 2) := by decide +kernel
theorem dX3_piecesOn_23 : decode cX3_piecesOn 23 = .ok (.getfield 82, 3) := by decide +kernel
theorem dX3_piecesOn_26 : decode cX3_piecesOn 26 = .ok (.iload_n 1, 1) := by decide +kernel
theorem dX3_piecesOn_27 : decode cX3_piecesOn 27 = .ok (.if_icmp .ne 9, 3) := by decide +kernel
theorem dX3_piecesOn_30 : decode cX3_piecesOn 30 = .ok (.iload_n 2, 1) := by decide +kernel
theorem dX3_piecesOn_31 : decode cX3_piecesOn 31 = .ok (.iconst 1, 1) := by decide +kernel
theorem dX3_piecesOn_32 : decode cX3_piecesOn 32 = .ok (.iload_n 3, 1) := by decide +kernel
theorem dX3_piecesOn_33 : decode cX3_piecesOn 33 = .ok (.ishl, 1) := by decide +kernel
theorem dX3_piecesOn_34 : decode cX3_piecesOn 34 = .ok (.ior, 1) := by decide +kernel
theorem dX3_piecesOn_35 : decode cX3_piecesOn 35 = .ok (.istore_n 2, 1) := by decide +kernel
theorem dX3_piecesOn_36 : decode cX3_piecesOn 36 = .ok (.iinc 3 1, 3) := by decide +kernel
theorem dX3_piecesOn_39 : decode cX3_piecesOn 39 = .ok (.goto (-35), 3) := by decide +kernel
theorem dX3_piecesOn_42 : decode cX3_piecesOn 42 = .ok (.iload_n 2, 1) := by decide +kernel
theorem dX3_piecesOn_43 : decode cX3_piecesOn 43 = .ok (.ireturn, 1) := by decide +kernel
theorem dX3_isInRace_0 : decode cX3_isInRace 0 = .ok (.aload_n 0, 1) := by decide +kernel
theorem dX3_isInRace_1 : decode cX3_isInRace 1 = .ok (.iload_n 1, 1) := by decide +kernel
theorem dX3_isInRace_2 : decode cX3_isInRace 2 = .ok (.invokevirtual 35, 3) := by decide +kernel
theorem dX3_isInRace_5 : decode cX3_isInRace 5 = .ok (.astore_n 2, 1) := by decide +kernel
theorem dX3_isInRace_6 : decode cX3_isInRace 6 = .ok (.aload_n 2, 1) := by decide +kernel
theorem dX3_isInRace_7 : decode cX3_isInRace 7 = .ok (.ifnull 14, 3) := by decide +kernel
theorem dX3_isInRace_10 : decode cX3_isInRace 10 = .ok (.aload_n 2, 1) := by decide +kernel
theorem dX3_isInRace_11 : decode cX3_isInRace 11 = .ok (.invokevirtual 85, 3) := by decide +kernel
theorem dX3_isInRace_14 : decode cX3_isInRace 14 = .ok (.ifCond .eq 7, 3) := by decide +kernel
theorem dX3_isInRace_17 : decode cX3_isInRace 17 = .ok (.iconst 1, 1) := by decide +kernel
theorem dX3_isInRace_18 : decode cX3_isInRace 18 = .ok (.goto 4, 3) := by decide +kernel
theorem dX3_isInRace_21 : decode cX3_isInRace 21 = .ok (.iconst 0, 1) := by decide +kernel
theorem dX3_isInRace_22 : decode cX3_isInRace 22 = .ok (.ireturn, 1) := by decide +kernel
theorem dX3_playersInRace_0 : decode cX3_playersInRace 0 = .ok (.iconst 0, 1) := by decide +kernel
theorem dX3_playersInRace_1 : decode cX3_playersInRace 1 = .ok (.istore_n 1, 1) := by decide +kernel
theorem dX3_playersInRace_2 : decode cX3_playersInRace 2 = .ok (.iconst 0, 1) := by decide +kernel
theorem dX3_playersInRace_3 : decode cX3_playersInRace 3 = .ok (.istore_n 2, 1) := by decide +kernel
theorem dX3_playersInRace_4 : decode cX3_playersInRace 4 = .ok (.iload_n 2, 1) := by decide +kernel
theorem dX3_playersInRace_5 : decode cX3_playersInRace 5 = .ok (.iconst 4, 1) := by decide +kernel
theorem dX3_playersInRace_6 : decode cX3_playersInRace 6 = .ok (.if_icmp .ge 25, 3) := by decide +kernel
theorem dX3_playersInRace_9 : decode cX3_playersInRace 9 = .ok (.iload_n 1, 1) := by decide +kernel
theorem dX3_playersInRace_10 : decode cX3_playersInRace 10 = .ok (.aload_n 0, 1) := by decide +kernel
theorem dX3_playersInRace_11 : decode cX3_playersInRace 11 = .ok (.iload_n 2, 1) := by decide +kernel
theorem dX3_playersInRace_12 : decode cX3_playersInRace 12 = .ok (.invokevirtual 88, 3) := by decide +kernel
theorem dX3_playersInRace_15 : decode cX3_playersInRace 15 = .ok (.ifCond .eq 7, 3) := by decide +kernel
theorem dX3_playersInRace_18 : decode cX3_playersInRace 18 = .ok (.iconst 1, 1) := by decide +kernel
theorem dX3_playersInRace_19 : decode cX3_playersInRace 19 = .ok (.goto 4, 3) := by decide +kernel
theorem dX3_playersInRace_22 : decode cX3_playersInRace 22 = .ok (.iconst 0, 1) := by decide +kernel
theorem dX3_playersInRace_23 : decode cX3_playersInRace 23 = .ok (.iadd, 1) := by decide +kernel
theorem dX3_playersInRace_24 : decode cX3_playersInRace 24 = .ok (.istore_n 1, 1) := by decide +kernel
theorem dX3_playersInRace_25 : decode cX3_playersInRace 25 = .ok (.iinc 2 1, 3) := by decide +kernel
theorem dX3_playersInRace_28 : decode cX3_playersInRace 28 = .ok (.goto (-24), 3) := by decide +kernel
theorem dX3_playersInRace_31 : decode cX3_playersInRace 31 = .ok (.iload_n 1, 1) := by decide +kernel
theorem dX3_playersInRace_32 : decode cX3_playersInRace 32 = .ok (.ireturn, 1) := by decide +kernel
theorem dX3_bitesHeld_0 : decode cX3_bitesHeld 0 = .ok (.iconst 0, 1) := by decide +kernel
theorem dX3_bitesHeld_1 : decode cX3_bitesHeld 1 = .ok (.istore_n 1, 1) := by decide +kernel
theorem dX3_bitesHeld_2 : decode cX3_bitesHeld 2 = .ok (.iconst 0, 1) := by decide +kernel
theorem dX3_bitesHeld_3 : decode cX3_bitesHeld 3 = .ok (.istore_n 2, 1) := by decide +kernel
theorem dX3_bitesHeld_4 : decode cX3_bitesHeld 4 = .ok (.iload_n 2, 1) := by decide +kernel
theorem dX3_bitesHeld_5 : decode cX3_bitesHeld 5 = .ok (.iconst 4, 1) := by decide +kernel
theorem dX3_bitesHeld_6 : decode cX3_bitesHeld 6 = .ok (.if_icmp .ge 30, 3) := by decide +kernel
theorem dX3_bitesHeld_9 : decode cX3_bitesHeld 9 = .ok (.aload_n 0, 1) := by decide +kernel
theorem dX3_bitesHeld_10 : decode cX3_bitesHeld 10 = .ok (.iload_n 2, 1) := by decide +kernel
theorem dX3_bitesHeld_11 : decode cX3_bitesHeld 11 = .ok (.invokevirtual 35, 3) := by decide +kernel
theorem dX3_bitesHeld_14 : decode cX3_bitesHeld 14 = .ok (.astore_n 3, 1) := by decide +kernel
theorem dX3_bitesHeld_15 : decode cX3_bitesHeld 15 = .ok (.iload_n 1, 1) := by decide +kernel
theorem dX3_bitesHeld_16 : decode cX3_bitesHeld 16 = .ok (.aload_n 3, 1) := by decide +kernel
theorem dX3_bitesHeld_17 : decode cX3_bitesHeld 17 = .ok (.ifnonnull 7, 3) := by decide +kernel
theorem dX3_bitesHeld_20 : decode cX3_bitesHeld 20 = .ok (.iconst 0, 1) := by decide +kernel
theorem dX3_bitesHeld_21 : decode cX3_bitesHeld 21 = .ok (.goto 7, 3) := by decide +kernel
theorem dX3_bitesHeld_24 : decode cX3_bitesHeld 24 = .ok (.aload_n 3, 1) := by decide +kernel
theorem dX3_bitesHeld_25 : decode cX3_bitesHeld 25 = .ok (.getfield 91, 3) := by decide +kernel
theorem dX3_bitesHeld_28 : decode cX3_bitesHeld 28 = .ok (.iadd, 1) := by decide +kernel
theorem dX3_bitesHeld_29 : decode cX3_bitesHeld 29 = .ok (.istore_n 1, 1) := by decide +kernel
theorem dX3_bitesHeld_30 : decode cX3_bitesHeld 30 = .ok (.iinc 2 1, 3) := by decide +kernel
theorem dX3_bitesHeld_33 : decode cX3_bitesHeld 33 = .ok (.goto (-29), 3) := by decide +kernel
theorem dX3_bitesHeld_36 : decode cX3_bitesHeld 36 = .ok (.iload_n 1, 1) := by decide +kernel
theorem dX3_bitesHeld_37 : decode cX3_bitesHeld 37 = .ok (.ireturn, 1) := by decide +kernel
theorem dX3_coinsOfAll_0 : decode cX3_coinsOfAll 0 = .ok (.iconst 0, 1) := by decide +kernel
theorem dX3_coinsOfAll_1 : decode cX3_coinsOfAll 1 = .ok (.istore_n 1, 1) := by decide +kernel
theorem dX3_coinsOfAll_2 : decode cX3_coinsOfAll 2 = .ok (.iconst 0, 1) := by decide +kernel
theorem dX3_coinsOfAll_3 : decode cX3_coinsOfAll 3 = .ok (.istore_n 2, 1) := by decide +kernel
theorem dX3_coinsOfAll_4 : decode cX3_coinsOfAll 4 = .ok (.iload_n 2, 1) := by decide +kernel
theorem dX3_coinsOfAll_5 : decode cX3_coinsOfAll 5 = .ok (.iconst 4, 1) := by decide +kernel
theorem dX3_coinsOfAll_6 : decode cX3_coinsOfAll 6 = .ok (.if_icmp .ge 30, 3) := by decide +kernel
theorem dX3_coinsOfAll_9 : decode cX3_coinsOfAll 9 = .ok (.aload_n 0, 1) := by decide +kernel
theorem dX3_coinsOfAll_10 : decode cX3_coinsOfAll 10 = .ok (.iload_n 2, 1) := by decide +kernel
theorem dX3_coinsOfAll_11 : decode cX3_coinsOfAll 11 = .ok (.invokevirtual 35, 3) := by decide +kernel
theorem dX3_coinsOfAll_14 : decode cX3_coinsOfAll 14 = .ok (.astore_n 3, 1) := by decide +kernel
theorem dX3_coinsOfAll_15 : decode cX3_coinsOfAll 15 = .ok (.iload_n 1, 1) := by decide +kernel
theorem dX3_coinsOfAll_16 : decode cX3_coinsOfAll 16 = .ok (.aload_n 3, 1) := by decide +kernel
theorem dX3_coinsOfAll_17 : decode cX3_coinsOfAll 17 = .ok (.ifnonnull 7, 3) := by decide +kernel
theorem dX3_coinsOfAll_20 : decode cX3_coinsOfAll 20 = .ok (.iconst 0, 1) := by decide +kernel
theorem dX3_coinsOfAll_21 : decode cX3_coinsOfAll 21 = .ok (.goto 7, 3) := by decide +kernel
theorem dX3_coinsOfAll_24 : decode cX3_coinsOfAll 24 = .ok (.aload_n 3, 1) := by decide +kernel
theorem dX3_coinsOfAll_25 : decode cX3_coinsOfAll 25 = .ok (.getfield 94, 3) := by decide +kernel
theorem dX3_coinsOfAll_28 : decode cX3_coinsOfAll 28 = .ok (.iadd, 1) := by decide +kernel
theorem dX3_coinsOfAll_29 : decode cX3_coinsOfAll 29 = .ok (.istore_n 1, 1) := by decide +kernel
theorem dX3_coinsOfAll_30 : decode cX3_coinsOfAll 30 = .ok (.iinc 2 1, 3) := by decide +kernel
theorem dX3_coinsOfAll_33 : decode cX3_coinsOfAll 33 = .ok (.goto (-29), 3) := by decide +kernel
theorem dX3_coinsOfAll_36 : decode cX3_coinsOfAll 36 = .ok (.iload_n 1, 1) := by decide +kernel
theorem dX3_coinsOfAll_37 : decode cX3_coinsOfAll 37 = .ok (.ireturn, 1) := by decide +kernel
theorem dX3_settingOf_0 : decode cX3_settingOf 0 = .ok (.iload_n 1, 1) := by decide +kernel
theorem dX3_settingOf_1 : decode cX3_settingOf 1 = .ok (.lookupswitch 37 #[(0, 27), (1, 32)], 27) := by decide +kernel
theorem dX3_settingOf_28 : decode cX3_settingOf 28 = .ok (.aload_n 0, 1) := by decide +kernel
theorem dX3_settingOf_29 : decode cX3_settingOf 29 = .ok (.getfield 25, 3) := by decide +kernel
theorem dX3_settingOf_32 : decode cX3_settingOf 32 = .ok (.ireturn, 1) := by decide +kernel
theorem dX3_settingOf_33 : decode cX3_settingOf 33 = .ok (.aload_n 0, 1) := by decide +kernel
theorem dX3_settingOf_34 : decode cX3_settingOf 34 = .ok (.getfield 29, 3) := by decide +kernel
theorem dX3_settingOf_37 : decode cX3_settingOf 37 = .ok (.ireturn, 1) := by decide +kernel
theorem dX3_settingOf_38 : decode cX3_settingOf 38 = .ok (.aload_n 0, 1) := by decide +kernel
theorem dX3_settingOf_39 : decode cX3_settingOf 39 = .ok (.getfield 32, 3) := by decide +kernel
theorem dX3_settingOf_42 : decode cX3_settingOf 42 = .ok (.ireturn, 1) := by decide +kernel
theorem dX3_changeSetting_0 : decode cX3_changeSetting 0 = .ok (.iload_n 1, 1) := by decide +kernel
theorem dX3_changeSetting_1 : decode cX3_changeSetting 1 = .ok (.lookupswitch 43 #[(0, 27), (1, 35)], 27) := by decide +kernel
theorem dX3_changeSetting_28 : decode cX3_changeSetting 28 = .ok (.aload_n 0, 1) := by decide +kernel
theorem dX3_changeSetting_29 : decode cX3_changeSetting 29 = .ok (.iload_n 2, 1) := by decide +kernel
theorem dX3_changeSetting_30 : decode cX3_changeSetting 30 = .ok (.putfield 25, 3) := by decide +kernel
theorem dX3_changeSetting_33 : decode cX3_changeSetting 33 = .ok (.goto 16, 3) := by decide +kernel
theorem dX3_changeSetting_36 : decode cX3_changeSetting 36 = .ok (.aload_n 0, 1) := by decide +kernel
theorem dX3_changeSetting_37 : decode cX3_changeSetting 37 = .ok (.iload_n 2, 1) := by decide +kernel
theorem dX3_changeSetting_38 : decode cX3_changeSetting 38 = .ok (.putfield 29, 3) := by decide +kernel
theorem dX3_changeSetting_41 : decode cX3_changeSetting 41 = .ok (.goto 8, 3) := by decide +kernel
theorem dX3_changeSetting_44 : decode cX3_changeSetting 44 = .ok (.aload_n 0, 1) := by decide +kernel
theorem dX3_changeSetting_45 : decode cX3_changeSetting 45 = .ok (.iload_n 2, 1) := by decide +kernel
theorem dX3_changeSetting_46 : decode cX3_changeSetting 46 = .ok (.putfield 32, 3) := by decide +kernel
theorem dX3_changeSetting_49 : decode cX3_changeSetting 49 = .ok (.return_, 1) := by decide +kernel
theorem dX3_isOver_0 : decode cX3_isOver 0 = .ok (.aload_n 0, 1) := by decide +kernel
theorem dX3_isOver_1 : decode cX3_isOver 1 = .ok (.getfield 50, 3) := by decide +kernel
theorem dX3_isOver_4 : decode cX3_isOver 4 = .ok (.bipush (-5), 2) := by decide +kernel
theorem dX3_isOver_6 : decode cX3_isOver 6 = .ok (.if_icmp .ne 7, 3) := by decide +kernel
theorem dX3_isOver_9 : decode cX3_isOver 9 = .ok (.iconst 1, 1) := by decide +kernel
theorem dX3_isOver_10 : decode cX3_isOver 10 = .ok (.goto 4, 3) := by decide +kernel
theorem dX3_isOver_13 : decode cX3_isOver 13 = .ok (.iconst 0, 1) := by decide +kernel
theorem dX3_isOver_14 : decode cX3_isOver 14 = .ok (.ireturn, 1) := by decide +kernel
theorem dX3_makeTurn_0 : decode cX3_makeTurn 0 = .ok (.aload_n 0, 1) := by decide +kernel
theorem dX3_makeTurn_1 : decode cX3_makeTurn 1 = .ok (.getfield 50, 3) := by decide +kernel
theorem dX3_makeTurn_4 : decode cX3_makeTurn 4 = .ok (.istore_n 2, 1) := by decide +kernel
theorem dX3_makeTurn_5 : decode cX3_makeTurn 5 = .ok (.aload_n 0, 1) := by decide +kernel
theorem dX3_makeTurn_6 : decode cX3_makeTurn 6 = .ok (.iload_n 2, 1) := by decide +kernel
theorem dX3_makeTurn_7 : decode cX3_makeTurn 7 = .ok (.invokevirtual 35, 3) := by decide +kernel
theorem dX3_makeTurn_10 : decode cX3_makeTurn 10 = .ok (.astore_n 3, 1) := by decide +kernel
theorem dX3_makeTurn_11 : decode cX3_makeTurn 11 = .ok (.aload_n 3, 1) := by decide +kernel
theorem dX3_makeTurn_12 : decode cX3_makeTurn 12 = .ok (.ifnonnull 6, 3) := by decide +kernel
theorem dX3_makeTurn_15 : decode cX3_makeTurn 15 = .ok (.bipush (-4), 2) := by decide +kernel
theorem dX3_makeTurn_17 : decode cX3_makeTurn 17 = .ok (.ireturn, 1) := by decide +kernel
theorem dX3_makeTurn_18 : decode cX3_makeTurn 18 = .ok (.aload_n 3, 1) := by decide +kernel
theorem dX3_makeTurn_19 : decode cX3_makeTurn 19 = .ok (.invokevirtual 97, 3) := by decide +kernel
theorem dX3_makeTurn_22 : decode cX3_makeTurn 22 = .ok (.aload_n 3, 1) := by decide +kernel
theorem dX3_makeTurn_23 : decode cX3_makeTurn 23 = .ok (.aload_n 3, 1) := by decide +kernel
theorem dX3_makeTurn_24 : decode cX3_makeTurn 24 = .ok (.getfield 82, 3) := by decide +kernel
theorem dX3_makeTurn_27 : decode cX3_makeTurn 27 = .ok (.iload_n 1, 1) := by decide +kernel
theorem dX3_makeTurn_28 : decode cX3_makeTurn 28 = .ok (.invokestatic 100, 3) := by decide +kernel
theorem dX3_makeTurn_31 : decode cX3_makeTurn 31 = .ok (.putfield 82, 3) := by decide +kernel
theorem dX3_makeTurn_34 : decode cX3_makeTurn 34 = .ok (.aload_n 0, 1) := by decide +kernel
theorem dX3_makeTurn_35 : decode cX3_makeTurn 35 = .ok (.iload_n 2, 1) := by decide +kernel
theorem dX3_makeTurn_36 : decode cX3_makeTurn 36 = .ok (.aload_n 3, 1) := by decide +kernel
theorem dX3_makeTurn_37 : decode cX3_makeTurn 37 = .ok (.getfield 82, 3) := by decide +kernel
theorem dX3_makeTurn_40 : decode cX3_makeTurn 40 = .ok (.invokevirtual 104, 3) := by decide +kernel
theorem dX3_makeTurn_43 : decode cX3_makeTurn 43 = .ok (.astore 4, 2) := by decide +kernel
theorem dX3_makeTurn_45 : decode cX3_makeTurn 45 = .ok (.aload 4, 2) := by decide +kernel
theorem dX3_makeTurn_47 : decode cX3_makeTurn 47 = .ok (.ifnull 11, 3) := by decide +kernel
theorem dX3_makeTurn_50 : decode cX3_makeTurn 50 = .ok (.aload_n 0, 1) := by decide +kernel
theorem dX3_makeTurn_51 : decode cX3_makeTurn 51 = .ok (.aload 4, 2) := by decide +kernel
theorem dX3_makeTurn_53 : decode cX3_makeTurn 53 = .ok (.aload_n 3, 1) := by decide +kernel
theorem dX3_makeTurn_54 : decode cX3_makeTurn 54 = .ok (.iload_n 2, 1) := by decide +kernel
theorem dX3_makeTurn_55 : decode cX3_makeTurn 55 = .ok (.invokevirtual 108, 3) := by decide +kernel
theorem dX3_makeTurn_58 : decode cX3_makeTurn 58 = .ok (.aload_n 3, 1) := by decide +kernel
theorem dX3_makeTurn_59 : decode cX3_makeTurn 59 = .ok (.invokevirtual 85, 3) := by decide +kernel
theorem dX3_makeTurn_62 : decode cX3_makeTurn 62 = .ok (.ifCond .ne 21, 3) := by decide +kernel
theorem dX3_makeTurn_65 : decode cX3_makeTurn 65 = .ok (.aload_n 0, 1) := by decide +kernel
theorem dX3_makeTurn_66 : decode cX3_makeTurn 66 = .ok (.dup, 1) := by decide +kernel
theorem dX3_makeTurn_67 : decode cX3_makeTurn 67 = .ok (.getfield 56, 3) := by decide +kernel
theorem dX3_makeTurn_70 : decode cX3_makeTurn 70 = .ok (.iconst 1, 1) := by decide +kernel
theorem dX3_makeTurn_71 : decode cX3_makeTurn 71 = .ok (.iadd, 1) := by decide +kernel
theorem dX3_makeTurn_72 : decode cX3_makeTurn 72 = .ok (.putfield 56, 3) := by decide +kernel
theorem dX3_makeTurn_75 : decode cX3_makeTurn 75 = .ok (.aload_n 3, 1) := by decide +kernel
theorem dX3_makeTurn_76 : decode cX3_makeTurn 76 = .ok (.aload_n 0, 1) := by decide +kernel
theorem dX3_makeTurn_77 : decode cX3_makeTurn 77 = .ok (.getfield 56, 3) := by decide +kernel
theorem dX3_makeTurn_80 : decode cX3_makeTurn 80 = .ok (.putfield 112, 3) := by decide +kernel
theorem dX3_makeTurn_83 : decode cX3_makeTurn 83 = .ok (.aload_n 0, 1) := by decide +kernel
theorem dX3_makeTurn_84 : decode cX3_makeTurn 84 = .ok (.invokevirtual 115, 3) := by decide +kernel
theorem dX3_makeTurn_87 : decode cX3_makeTurn 87 = .ok (.aload_n 0, 1) := by decide +kernel
theorem dX3_makeTurn_88 : decode cX3_makeTurn 88 = .ok (.dup, 1) := by decide +kernel
theorem dX3_makeTurn_89 : decode cX3_makeTurn 89 = .ok (.getfield 53, 3) := by decide +kernel
theorem dX3_makeTurn_92 : decode cX3_makeTurn 92 = .ok (.iconst 1, 1) := by decide +kernel
theorem dX3_makeTurn_93 : decode cX3_makeTurn 93 = .ok (.iadd, 1) := by decide +kernel
theorem dX3_makeTurn_94 : decode cX3_makeTurn 94 = .ok (.putfield 53, 3) := by decide +kernel
theorem dX3_makeTurn_97 : decode cX3_makeTurn 97 = .ok (.aload_n 0, 1) := by decide +kernel
theorem dX3_makeTurn_98 : decode cX3_makeTurn 98 = .ok (.aload_n 0, 1) := by decide +kernel
theorem dX3_makeTurn_99 : decode cX3_makeTurn 99 = .ok (.iload_n 2, 1) := by decide +kernel
theorem dX3_makeTurn_100 : decode cX3_makeTurn 100 = .ok (.invokevirtual 118, 3) := by decide +kernel
theorem dX3_makeTurn_103 : decode cX3_makeTurn 103 = .ok (.putfield 50, 3) := by decide +kernel
theorem dX3_makeTurn_106 : decode cX3_makeTurn 106 = .ok (.aload_n 3, 1) := by decide +kernel
theorem dX3_makeTurn_107 : decode cX3_makeTurn 107 = .ok (.getfield 82, 3) := by decide +kernel
theorem dX3_makeTurn_110 : decode cX3_makeTurn 110 = .ok (.ireturn, 1) := by decide +kernel
theorem dX3_biterOf_0 : decode cX3_biterOf 0 = .ok (.aload_n 0, 1) := by decide +kernel
theorem dX3_biterOf_1 : decode cX3_biterOf 1 = .ok (.aload_n 0, 1) := by decide +kernel
theorem dX3_biterOf_2 : decode cX3_biterOf 2 = .ok (.iload_n 2, 1) := by decide +kernel
theorem dX3_biterOf_3 : decode cX3_biterOf 3 = .ok (.invokevirtual 122, 3) := by decide +kernel
theorem dX3_biterOf_6 : decode cX3_biterOf 6 = .ok (.invokevirtual 73, 3) := by decide +kernel
theorem dX3_biterOf_9 : decode cX3_biterOf 9 = .ok (.astore_n 3, 1) := by decide +kernel
theorem dX3_biterOf_10 : decode cX3_biterOf 10 = .ok (.aload_n 3, 1) := by decide +kernel
theorem dX3_biterOf_11 : decode cX3_biterOf 11 = .ok (.ifnull 10, 3) := by decide +kernel
theorem dX3_biterOf_14 : decode cX3_biterOf 14 = .ok (.aload_n 3, 1) := by decide +kernel
theorem dX3_biterOf_15 : decode cX3_biterOf 15 = .ok (.getfield 125, 3) := by decide +kernel
theorem dX3_biterOf_18 : decode cX3_biterOf 18 = .ok (.ifCond .le 5, 3) := by decide +kernel
theorem dX3_biterOf_21 : decode cX3_biterOf 21 = .ok (.aconst_null, 1) := by decide +kernel
theorem dX3_biterOf_22 : decode cX3_biterOf 22 = .ok (.areturn, 1) := by decide +kernel
theorem dX3_biterOf_23 : decode cX3_biterOf 23 = .ok (.aload_n 0, 1) := by decide +kernel
theorem dX3_biterOf_24 : decode cX3_biterOf 24 = .ok (.iload_n 2, 1) := by decide +kernel
theorem dX3_biterOf_25 : decode cX3_biterOf 25 = .ok (.invokevirtual 128, 3) := by decide +kernel
theorem dX3_biterOf_28 : decode cX3_biterOf 28 = .ok (.iconst 1, 1) := by decide +kernel
theorem dX3_biterOf_29 : decode cX3_biterOf 29 = .ok (.iload_n 1, 1) := by decide +kernel
theorem dX3_biterOf_30 : decode cX3_biterOf 30 = .ok (.ishl, 1) := by decide +kernel
theorem dX3_biterOf_31 : decode cX3_biterOf 31 = .ok (.iconst (-1), 1) := by decide +kernel
theorem dX3_biterOf_32 : decode cX3_biterOf 32 = .ok (.ixor, 1) := by decide +kernel
theorem dX3_biterOf_33 : decode cX3_biterOf 33 = .ok (.iand, 1) := by decide +kernel
theorem dX3_biterOf_34 : decode cX3_biterOf 34 = .ok (.istore 4, 2) := by decide +kernel
theorem dX3_biterOf_36 : decode cX3_biterOf 36 = .ok (.iload 4, 2) := by decide +kernel
theorem dX3_biterOf_38 : decode cX3_biterOf 38 = .ok (.ifCond .ne 7, 3) := by decide +kernel
theorem dX3_biterOf_41 : decode cX3_biterOf 41 = .ok (.aload_n 3, 1) := by decide +kernel
theorem dX3_biterOf_42 : decode cX3_biterOf 42 = .ok (.goto 4, 3) := by decide +kernel
theorem dX3_biterOf_45 : decode cX3_biterOf 45 = .ok (.aconst_null, 1) := by decide +kernel
theorem dX3_biterOf_46 : decode cX3_biterOf 46 = .ok (.areturn, 1) := by decide +kernel
theorem dX3_biteWith_0 : decode cX3_biteWith 0 = .ok (.aload_n 2, 1) := by decide +kernel
theorem dX3_biteWith_1 : decode cX3_biteWith 1 = .ok (.invokevirtual 131, 3) := by decide +kernel
theorem dX3_biteWith_4 : decode cX3_biteWith 4 = .ok (.astore 4, 2) := by decide +kernel
theorem dX3_biteWith_6 : decode cX3_biteWith 6 = .ok (.aload 4, 2) := by decide +kernel
theorem dX3_biteWith_8 : decode cX3_biteWith 8 = .ok (.ifnull 18, 3) := by decide +kernel
theorem dX3_biteWith_11 : decode cX3_biteWith 11 = .ok (.aload 4, 2) := by decide +kernel
theorem dX3_biteWith_13 : decode cX3_biteWith 13 = .ok (.aload_n 1, 1) := by decide +kernel
theorem dX3_biteWith_14 : decode cX3_biteWith 14 = .ok (.getfield 76, 3) := by decide +kernel
theorem dX3_biteWith_17 : decode cX3_biteWith 17 = .ok (.aload_n 1, 1) := by decide +kernel
theorem dX3_biteWith_18 : decode cX3_biteWith 18 = .ok (.getfield 79, 3) := by decide +kernel
theorem dX3_biteWith_21 : decode cX3_biteWith 21 = .ok (.isub, 1) := by decide +kernel
theorem dX3_biteWith_22 : decode cX3_biteWith 22 = .ok (.iload_n 3, 1) := by decide +kernel
theorem dX3_biteWith_23 : decode cX3_biteWith 23 = .ok (.invokevirtual 135, 3) := by decide +kernel
theorem dX3_biteWith_26 : decode cX3_biteWith 26 = .ok (.aload_n 1, 1) := by decide +kernel
theorem dX3_biteWith_27 : decode cX3_biteWith 27 = .ok (.dup, 1) := by decide +kernel
theorem dX3_biteWith_28 : decode cX3_biteWith 28 = .ok (.getfield 141, 3) := by decide +kernel
theorem dX3_biteWith_31 : decode cX3_biteWith 31 = .ok (.iconst 1, 1) := by decide +kernel
theorem dX3_biteWith_32 : decode cX3_biteWith 32 = .ok (.iadd, 1) := by decide +kernel
theorem dX3_biteWith_33 : decode cX3_biteWith 33 = .ok (.putfield 141, 3) := by decide +kernel
theorem dX3_biteWith_36 : decode cX3_biteWith 36 = .ok (.aload_n 1, 1) := by decide +kernel
theorem dX3_biteWith_37 : decode cX3_biteWith 37 = .ok (.aload_n 0, 1) := by decide +kernel
theorem dX3_biteWith_38 : decode cX3_biteWith 38 = .ok (.getfield 25, 3) := by decide +kernel
theorem dX3_biteWith_41 : decode cX3_biteWith 41 = .ok (.iconst 1, 1) := by decide +kernel
theorem dX3_biteWith_42 : decode cX3_biteWith 42 = .ok (.iadd, 1) := by decide +kernel
theorem dX3_biteWith_43 : decode cX3_biteWith 43 = .ok (.putfield 125, 3) := by decide +kernel
theorem dX3_biteWith_46 : decode cX3_biteWith 46 = .ok (.aload_n 2, 1) := by decide +kernel
theorem dX3_biteWith_47 : decode cX3_biteWith 47 = .ok (.dup, 1) := by decide +kernel
theorem dX3_biteWith_48 : decode cX3_biteWith 48 = .ok (.getfield 144, 3) := by decide +kernel
theorem dX3_biteWith_51 : decode cX3_biteWith 51 = .ok (.iconst 1, 1) := by decide +kernel
theorem dX3_biteWith_52 : decode cX3_biteWith 52 = .ok (.iadd, 1) := by decide +kernel
theorem dX3_biteWith_53 : decode cX3_biteWith 53 = .ok (.putfield 144, 3) := by decide +kernel
theorem dX3_biteWith_56 : decode cX3_biteWith 56 = .ok (.aload_n 0, 1) := by decide +kernel
theorem dX3_biteWith_57 : decode cX3_biteWith 57 = .ok (.dup, 1) := by decide +kernel
theorem dX3_biteWith_58 : decode cX3_biteWith 58 = .ok (.getfield 59, 3) := by decide +kernel
theorem dX3_biteWith_61 : decode cX3_biteWith 61 = .ok (.iconst 1, 1) := by decide +kernel
theorem dX3_biteWith_62 : decode cX3_biteWith 62 = .ok (.iadd, 1) := by decide +kernel
theorem dX3_biteWith_63 : decode cX3_biteWith 63 = .ok (.putfield 59, 3) := by decide +kernel
theorem dX3_biteWith_66 : decode cX3_biteWith 66 = .ok (.return_, 1) := by decide +kernel
theorem dX3_shortenSleeps_0 : decode cX3_shortenSleeps 0 = .ok (.iconst 0, 1) := by decide +kernel
theorem dX3_shortenSleeps_1 : decode cX3_shortenSleeps 1 = .ok (.istore_n 1, 1) := by decide +kernel
theorem dX3_shortenSleeps_2 : decode cX3_shortenSleeps 2 = .ok (.iload_n 1, 1) := by decide +kernel
theorem dX3_shortenSleeps_3 : decode cX3_shortenSleeps 3 = .ok (.bipush 10, 2) := by decide +kernel
theorem dX3_shortenSleeps_5 : decode cX3_shortenSleeps 5 = .ok (.if_icmp .ge 36, 3) := by decide +kernel
theorem dX3_shortenSleeps_8 : decode cX3_shortenSleeps 8 = .ok (.aload_n 0, 1) := by decide +kernel
theorem dX3_shortenSleeps_9 : decode cX3_shortenSleeps 9 = .ok (.iload_n 1, 1) := by decide +kernel
theorem dX3_shortenSleeps_10 : decode cX3_shortenSleeps 10 = .ok (.invokevirtual 73, 3) := by decide +kernel
theorem dX3_shortenSleeps_13 : decode cX3_shortenSleeps 13 = .ok (.astore_n 2, 1) := by decide +kernel
theorem dX3_shortenSleeps_14 : decode cX3_shortenSleeps 14 = .ok (.aload_n 2, 1) := by decide +kernel
theorem dX3_shortenSleeps_15 : decode cX3_shortenSleeps 15 = .ok (.ifnull 20, 3) := by decide +kernel
theorem dX3_shortenSleeps_18 : decode cX3_shortenSleeps 18 = .ok (.aload_n 2, 1) := by decide +kernel
theorem dX3_shortenSleeps_19 : decode cX3_shortenSleeps 19 = .ok (.getfield 125, 3) := by decide +kernel
theorem dX3_shortenSleeps_22 : decode cX3_shortenSleeps 22 = .ok (.ifCond .le 13, 3) := by decide +kernel
theorem dX3_shortenSleeps_25 : decode cX3_shortenSleeps 25 = .ok (.aload_n 2, 1) := by decide +kernel
theorem dX3_shortenSleeps_26 : decode cX3_shortenSleeps 26 = .ok (.dup, 1) := by decide +kernel
theorem dX3_shortenSleeps_27 : decode cX3_shortenSleeps 27 = .ok (.getfield 125, 3) := by decide +kernel
theorem dX3_shortenSleeps_30 : decode cX3_shortenSleeps 30 = .ok (.iconst 1, 1) := by decide +kernel
theorem dX3_shortenSleeps_31 : decode cX3_shortenSleeps 31 = .ok (.isub, 1) := by decide +kernel
theorem dX3_shortenSleeps_32 : decode cX3_shortenSleeps 32 = .ok (.putfield 125, 3) := by decide +kernel
theorem dX3_shortenSleeps_35 : decode cX3_shortenSleeps 35 = .ok (.iinc 1 1, 3) := by decide +kernel
theorem dX3_shortenSleeps_38 : decode cX3_shortenSleeps 38 = .ok (.goto (-36), 3) := by decide +kernel
theorem dX3_shortenSleeps_41 : decode cX3_shortenSleeps 41 = .ok (.return_, 1) := by decide +kernel
theorem dX3_moverAfter_0 : decode cX3_moverAfter 0 = .ok (.iconst 1, 1) := by decide +kernel
theorem dX3_moverAfter_1 : decode cX3_moverAfter 1 = .ok (.istore_n 2, 1) := by decide +kernel
theorem dX3_moverAfter_2 : decode cX3_moverAfter 2 = .ok (.iload_n 2, 1) := by decide +kernel
theorem dX3_moverAfter_3 : decode cX3_moverAfter 3 = .ok (.iconst 4, 1) := by decide +kernel
theorem dX3_moverAfter_4 : decode cX3_moverAfter 4 = .ok (.if_icmp .gt 25, 3) := by decide +kernel
theorem dX3_moverAfter_7 : decode cX3_moverAfter 7 = .ok (.iload_n 1, 1) := by decide +kernel
theorem dX3_moverAfter_8 : decode cX3_moverAfter 8 = .ok (.iload_n 2, 1) := by decide +kernel
theorem dX3_moverAfter_9 : decode cX3_moverAfter 9 = .ok (.iadd, 1) := by decide +kernel
theorem dX3_moverAfter_10 : decode cX3_moverAfter 10 = .ok (.iconst 4, 1) := by decide +kernel
theorem dX3_moverAfter_11 : decode cX3_moverAfter 11 = .ok (.irem, 1) := by decide +kernel
theorem dX3_moverAfter_12 : decode cX3_moverAfter 12 = .ok (.istore_n 3, 1) := by decide +kernel
theorem dX3_moverAfter_13 : decode cX3_moverAfter 13 = .ok (.aload_n 0, 1) := by decide +kernel
theorem dX3_moverAfter_14 : decode cX3_moverAfter 14 = .ok (.iload_n 3, 1) := by decide +kernel
theorem dX3_moverAfter_15 : decode cX3_moverAfter 15 = .ok (.invokevirtual 88, 3) := by decide +kernel
theorem dX3_moverAfter_18 : decode cX3_moverAfter 18 = .ok (.ifCond .eq 5, 3) := by decide +kernel
theorem dX3_moverAfter_21 : decode cX3_moverAfter 21 = .ok (.iload_n 3, 1) := by decide +kernel
theorem dX3_moverAfter_22 : decode cX3_moverAfter 22 = .ok (.ireturn, 1) := by decide +kernel
theorem dX3_moverAfter_23 : decode cX3_moverAfter 23 = .ok (.iinc 2 1, 3) := by decide +kernel
theorem dX3_moverAfter_26 : decode cX3_moverAfter 26 = .ok (.goto (-24), 3) := by decide +kernel
theorem dX3_moverAfter_29 : decode cX3_moverAfter 29 = .ok (.bipush (-5), 2) := by decide +kernel
theorem dX3_moverAfter_31 : decode cX3_moverAfter 31 = .ok (.ireturn, 1) := by decide +kernel
theorem dX3_beginningAfter_0 : decode cX3_beginningAfter 0 = .ok (.aload_n 0, 1) := by decide +kernel
theorem dX3_beginningAfter_1 : decode cX3_beginningAfter 1 = .ok (.aload_n 0, 1) := by decide +kernel
theorem dX3_beginningAfter_2 : decode cX3_beginningAfter 2 = .ok (.iload_n 1, 1) := by decide +kernel
theorem dX3_beginningAfter_3 : decode cX3_beginningAfter 3 = .ok (.invokevirtual 122, 3) := by decide +kernel
theorem dX3_beginningAfter_6 : decode cX3_beginningAfter 6 = .ok (.invokevirtual 73, 3) := by decide +kernel
theorem dX3_beginningAfter_9 : decode cX3_beginningAfter 9 = .ok (.astore_n 2, 1) := by decide +kernel
theorem dX3_beginningAfter_10 : decode cX3_beginningAfter 10 = .ok (.aload_n 2, 1) := by decide +kernel
theorem dX3_beginningAfter_11 : decode cX3_beginningAfter 11 = .ok (.ifnonnull 7, 3) := by decide +kernel
theorem dX3_beginningAfter_14 : decode cX3_beginningAfter 14 = .ok (.iload_n 1, 1) := by decide +kernel
theorem dX3_beginningAfter_15 : decode cX3_beginningAfter 15 = .ok (.goto 7, 3) := by decide +kernel
theorem dX3_beginningAfter_18 : decode cX3_beginningAfter 18 = .ok (.aload_n 2, 1) := by decide +kernel
theorem dX3_beginningAfter_19 : decode cX3_beginningAfter 19 = .ok (.getfield 79, 3) := by decide +kernel
theorem dX3_beginningAfter_22 : decode cX3_beginningAfter 22 = .ok (.ireturn, 1) := by decide +kernel
theorem dX3_askedBy_0 : decode cX3_askedBy 0 = .ok (.aload_n 0, 1) := by decide +kernel
theorem dX3_askedBy_1 : decode cX3_askedBy 1 = .ok (.iload_n 1, 1) := by decide +kernel
theorem dX3_askedBy_2 : decode cX3_askedBy 2 = .ok (.invokevirtual 35, 3) := by decide +kernel
theorem dX3_askedBy_5 : decode cX3_askedBy 5 = .ok (.astore_n 3, 1) := by decide +kernel
theorem dX3_askedBy_6 : decode cX3_askedBy 6 = .ok (.aload_n 3, 1) := by decide +kernel
theorem dX3_askedBy_7 : decode cX3_askedBy 7 = .ok (.ifnonnull 7, 3) := by decide +kernel
theorem dX3_askedBy_10 : decode cX3_askedBy 10 = .ok (.iconst 0, 1) := by decide +kernel
theorem dX3_askedBy_11 : decode cX3_askedBy 11 = .ok (.goto 7, 3) := by decide +kernel
theorem dX3_askedBy_14 : decode cX3_askedBy 14 = .ok (.aload_n 3, 1) := by decide +kernel
theorem dX3_askedBy_15 : decode cX3_askedBy 15 = .ok (.getfield 91, 3) := by decide +kernel
theorem dX3_askedBy_18 : decode cX3_askedBy 18 = .ok (.istore 4, 2) := by decide +kernel
theorem dX3_askedBy_20 : decode cX3_askedBy 20 = .ok (.aload_n 2, 1) := by decide +kernel
theorem dX3_askedBy_21 : decode cX3_askedBy 21 = .ok (.getfield 147, 3) := by decide +kernel
theorem dX3_askedBy_24 : decode cX3_askedBy 24 = .ok (.iconst 2, 1) := by decide +kernel
theorem dX3_askedBy_25 : decode cX3_askedBy 25 = .ok (.iadd, 1) := by decide +kernel
theorem dX3_askedBy_26 : decode cX3_askedBy 26 = .ok (.iconst 3, 1) := by decide +kernel
theorem dX3_askedBy_27 : decode cX3_askedBy 27 = .ok (.idiv, 1) := by decide +kernel
theorem dX3_askedBy_28 : decode cX3_askedBy 28 = .ok (.iconst 2, 1) := by decide +kernel
theorem dX3_askedBy_29 : decode cX3_askedBy 29 = .ok (.iload 4, 2) := by decide +kernel
theorem dX3_askedBy_31 : decode cX3_askedBy 31 = .ok (.imul, 1) := by decide +kernel
theorem dX3_askedBy_32 : decode cX3_askedBy 32 = .ok (.iadd, 1) := by decide +kernel
theorem dX3_askedBy_33 : decode cX3_askedBy 33 = .ok (.ireturn, 1) := by decide +kernel
theorem dX3_obstacle_0 : decode cX3_obstacle 0 = .ok (.aload_n 0, 1) := by decide +kernel
theorem dX3_obstacle_1 : decode cX3_obstacle 1 = .ok (.iload_n 1, 1) := by decide +kernel
theorem dX3_obstacle_2 : decode cX3_obstacle 2 = .ok (.invokevirtual 35, 3) := by decide +kernel
theorem dX3_obstacle_5 : decode cX3_obstacle 5 = .ok (.astore 5, 2) := by decide +kernel
theorem dX3_obstacle_7 : decode cX3_obstacle 7 = .ok (.aload_n 0, 1) := by decide +kernel
theorem dX3_obstacle_8 : decode cX3_obstacle 8 = .ok (.iload_n 3, 1) := by decide +kernel
theorem dX3_obstacle_9 : decode cX3_obstacle 9 = .ok (.invokevirtual 35, 3) := by decide +kernel
theorem dX3_obstacle_12 : decode cX3_obstacle 12 = .ok (.astore 6, 2) := by decide +kernel
theorem dX3_obstacle_14 : decode cX3_obstacle 14 = .ok (.aload_n 0, 1) := by decide +kernel
theorem dX3_obstacle_15 : decode cX3_obstacle 15 = .ok (.iload_n 1, 1) := by decide +kernel
theorem dX3_obstacle_16 : decode cX3_obstacle 16 = .ok (.iload_n 2, 1) := by decide +kernel
theorem dX3_obstacle_17 : decode cX3_obstacle 17 = .ok (.invokevirtual 150, 3) := by decide +kernel
theorem dX3_obstacle_20 : decode cX3_obstacle 20 = .ok (.astore 7, 2) := by decide +kernel
theorem dX3_obstacle_22 : decode cX3_obstacle 22 = .ok (.aload 5, 2) := by decide +kernel
theorem dX3_obstacle_24 : decode cX3_obstacle 24 = .ok (.ifnull 13, 3) := by decide +kernel
theorem dX3_obstacle_27 : decode cX3_obstacle 27 = .ok (.aload 6, 2) := by decide +kernel
theorem dX3_obstacle_29 : decode cX3_obstacle 29 = .ok (.ifnull 8, 3) := by decide +kernel
theorem dX3_obstacle_32 : decode cX3_obstacle 32 = .ok (.aload 7, 2) := by decide +kernel
theorem dX3_obstacle_34 : decode cX3_obstacle 34 = .ok (.ifnonnull 5, 3) := by decide +kernel
theorem dX3_obstacle_37 : decode cX3_obstacle 37 = .ok (.iconst (-1), 1) := by decide +kernel
theorem dX3_obstacle_38 : decode cX3_obstacle 38 = .ok (.ireturn, 1) := by decide +kernel
theorem dX3_obstacle_39 : decode cX3_obstacle 39 = .ok (.iload 4, 2) := by decide +kernel
theorem dX3_obstacle_41 : decode cX3_obstacle 41 = .ok (.ifCond .lt 15, 3) := by decide +kernel
theorem dX3_obstacle_44 : decode cX3_obstacle 44 = .ok (.iload 4, 2) := by decide +kernel
theorem dX3_obstacle_46 : decode cX3_obstacle 46 = .ok (.bipush 99, 2) := by decide +kernel
theorem dX3_obstacle_48 : decode cX3_obstacle 48 = .ok (.if_icmp .gt 8, 3) := by decide +kernel
theorem dX3_obstacle_51 : decode cX3_obstacle 51 = .ok (.iload_n 1, 1) := by decide +kernel
theorem dX3_obstacle_52 : decode cX3_obstacle 52 = .ok (.iload_n 3, 1) := by decide +kernel
theorem dX3_obstacle_53 : decode cX3_obstacle 53 = .ok (.if_icmp .ne 6, 3) := by decide +kernel
theorem dX3_obstacle_56 : decode cX3_obstacle 56 = .ok (.bipush (-2), 2) := by decide +kernel
theorem dX3_obstacle_58 : decode cX3_obstacle 58 = .ok (.ireturn, 1) := by decide +kernel
theorem dX3_obstacle_59 : decode cX3_obstacle 59 = .ok (.aload 6, 2) := by decide +kernel
theorem dX3_obstacle_61 : decode cX3_obstacle 61 = .ok (.invokevirtual 85, 3) := by decide +kernel
theorem dX3_obstacle_64 : decode cX3_obstacle 64 = .ok (.ifCond .ne 5, 3) := by decide +kernel
theorem dX3_obstacle_67 : decode cX3_obstacle 67 = .ok (.iconst 1, 1) := by decide +kernel
theorem dX3_obstacle_68 : decode cX3_obstacle 68 = .ok (.ireturn, 1) := by decide +kernel
theorem dX3_obstacle_69 : decode cX3_obstacle 69 = .ok (.aload 7, 2) := by decide +kernel
theorem dX3_obstacle_71 : decode cX3_obstacle 71 = .ok (.getfield 154, 3) := by decide +kernel
theorem dX3_obstacle_74 : decode cX3_obstacle 74 = .ok (.aload_n 0, 1) := by decide +kernel
theorem dX3_obstacle_75 : decode cX3_obstacle 75 = .ok (.getfield 32, 3) := by decide +kernel
theorem dX3_obstacle_78 : decode cX3_obstacle 78 = .ok (.if_icmp .lt 5, 3) := by decide +kernel
theorem dX3_obstacle_81 : decode cX3_obstacle 81 = .ok (.iconst 2, 1) := by decide +kernel
theorem dX3_obstacle_82 : decode cX3_obstacle 82 = .ok (.ireturn, 1) := by decide +kernel
theorem dX3_obstacle_83 : decode cX3_obstacle 83 = .ok (.aload 7, 2) := by decide +kernel
theorem dX3_obstacle_85 : decode cX3_obstacle 85 = .ok (.iload_n 3, 1) := by decide +kernel
theorem dX3_obstacle_86 : decode cX3_obstacle 86 = .ok (.invokevirtual 157, 3) := by decide +kernel
theorem dX3_obstacle_89 : decode cX3_obstacle 89 = .ok (.ifCond .eq 5, 3) := by decide +kernel
theorem dX3_obstacle_92 : decode cX3_obstacle 92 = .ok (.iconst 3, 1) := by decide +kernel
theorem dX3_obstacle_93 : decode cX3_obstacle 93 = .ok (.ireturn, 1) := by decide +kernel
theorem dX3_obstacle_94 : decode cX3_obstacle 94 = .ok (.aload 5, 2) := by decide +kernel
theorem dX3_obstacle_96 : decode cX3_obstacle 96 = .ok (.getfield 94, 3) := by decide +kernel
theorem dX3_obstacle_99 : decode cX3_obstacle 99 = .ok (.iload 4, 2) := by decide +kernel
theorem dX3_obstacle_101 : decode cX3_obstacle 101 = .ok (.isub, 1) := by decide +kernel
theorem dX3_obstacle_102 : decode cX3_obstacle 102 = .ok (.iconst 0, 1) := by decide +kernel
theorem dX3_obstacle_103 : decode cX3_obstacle 103 = .ok (.aload_n 0, 1) := by decide +kernel
theorem dX3_obstacle_104 : decode cX3_obstacle 104 = .ok (.getfield 29, 3) := by decide +kernel
theorem dX3_obstacle_107 : decode cX3_obstacle 107 = .ok (.isub, 1) := by decide +kernel
theorem dX3_obstacle_108 : decode cX3_obstacle 108 = .ok (.if_icmp .ge 5, 3) := by decide +kernel
theorem dX3_obstacle_111 : decode cX3_obstacle 111 = .ok (.iconst 4, 1) := by decide +kernel
theorem dX3_obstacle_112 : decode cX3_obstacle 112 = .ok (.ireturn, 1) := by decide +kernel
theorem dX3_obstacle_113 : decode cX3_obstacle 113 = .ok (.iload 4, 2) := by decide +kernel
theorem dX3_obstacle_115 : decode cX3_obstacle 115 = .ok (.aload_n 0, 1) := by decide +kernel
theorem dX3_obstacle_116 : decode cX3_obstacle 116 = .ok (.iload_n 3, 1) := by decide +kernel
theorem dX3_obstacle_117 : decode cX3_obstacle 117 = .ok (.aload 7, 2) := by decide +kernel
theorem dX3_obstacle_119 : decode cX3_obstacle 119 = .ok (.invokevirtual 160, 3) := by decide +kernel
theorem dX3_obstacle_122 : decode cX3_obstacle 122 = .ok (.if_icmp .ge 7, 3) := by decide +kernel
theorem dX3_obstacle_125 : decode cX3_obstacle 125 = .ok (.iconst 5, 1) := by decide +kernel
theorem dX3_obstacle_126 : decode cX3_obstacle 126 = .ok (.goto 4, 3) := by decide +kernel
theorem dX3_obstacle_129 : decode cX3_obstacle 129 = .ok (.iconst 0, 1) := by decide +kernel
theorem dX3_obstacle_130 : decode cX3_obstacle 130 = .ok (.ireturn, 1) := by decide +kernel
theorem dX3_trade_0 : decode cX3_trade 0 = .ok (.aload_n 0, 1) := by decide +kernel
theorem dX3_trade_1 : decode cX3_trade 1 = .ok (.iload_n 1, 1) := by decide +kernel
theorem dX3_trade_2 : decode cX3_trade 2 = .ok (.iload_n 2, 1) := by decide +kernel
theorem dX3_trade_3 : decode cX3_trade 3 = .ok (.iload_n 3, 1) := by decide +kernel
theorem dX3_trade_4 : decode cX3_trade 4 = .ok (.iload 4, 2) := by decide +kernel
theorem dX3_trade_6 : decode cX3_trade 6 = .ok (.invokevirtual 164, 3) := by decide +kernel
theorem dX3_trade_9 : decode cX3_trade 9 = .ok (.istore 5, 2) := by decide +kernel
theorem dX3_trade_11 : decode cX3_trade 11 = .ok (.iload 5, 2) := by decide +kernel
theorem dX3_trade_13 : decode cX3_trade 13 = .ok (.ifCond .eq 19, 3) := by decide +kernel
theorem dX3_trade_16 : decode cX3_trade 16 = .ok (.iload 5, 2) := by decide +kernel
theorem dX3_trade_18 : decode cX3_trade 18 = .ok (.ifCond .ge 8, 3) := by decide +kernel
theorem dX3_trade_21 : decode cX3_trade 21 = .ok (.iload 5, 2) := by decide +kernel
theorem dX3_trade_23 : decode cX3_trade 23 = .ok (.goto 8, 3) := by decide +kernel
theorem dX3_trade_26 : decode cX3_trade 26 = .ok (.bipush (-10), 2) := by decide +kernel
theorem dX3_trade_28 : decode cX3_trade 28 = .ok (.iload 5, 2) := by decide +kernel
theorem dX3_trade_30 : decode cX3_trade 30 = .ok (.isub, 1) := by decide +kernel
theorem dX3_trade_31 : decode cX3_trade 31 = .ok (.ireturn, 1) := by decide +kernel
theorem dX3_trade_32 : decode cX3_trade 32 = .ok (.aload_n 0, 1) := by decide +kernel
theorem dX3_trade_33 : decode cX3_trade 33 = .ok (.iload_n 1, 1) := by decide +kernel
theorem dX3_trade_34 : decode cX3_trade 34 = .ok (.invokevirtual 35, 3) := by decide +kernel
theorem dX3_trade_37 : decode cX3_trade 37 = .ok (.astore 6, 2) := by decide +kernel
theorem dX3_trade_39 : decode cX3_trade 39 = .ok (.aload_n 0, 1) := by decide +kernel
theorem dX3_trade_40 : decode cX3_trade 40 = .ok (.iload_n 3, 1) := by decide +kernel
theorem dX3_trade_41 : decode cX3_trade 41 = .ok (.invokevirtual 35, 3) := by decide +kernel
theorem dX3_trade_44 : decode cX3_trade 44 = .ok (.astore 7, 2) := by decide +kernel
theorem dX3_trade_46 : decode cX3_trade 46 = .ok (.aload 6, 2) := by decide +kernel
theorem dX3_trade_48 : decode cX3_trade 48 = .ok (.ifnull 8, 3) := by decide +kernel
theorem dX3_trade_51 : decode cX3_trade 51 = .ok (.aload 7, 2) := by decide +kernel
theorem dX3_trade_53 : decode cX3_trade 53 = .ok (.ifnonnull 5, 3) := by decide +kernel
theorem dX3_trade_56 : decode cX3_trade 56 = .ok (.iconst (-1), 1) := by decide +kernel
theorem dX3_trade_57 : decode cX3_trade 57 = .ok (.ireturn, 1) := by decide +kernel
theorem dX3_trade_58 : decode cX3_trade 58 = .ok (.aload 6, 2) := by decide +kernel
theorem dX3_trade_60 : decode cX3_trade 60 = .ok (.iload_n 2, 1) := by decide +kernel
theorem dX3_trade_61 : decode cX3_trade 61 = .ok (.invokevirtual 65, 3) := by decide +kernel
theorem dX3_trade_64 : decode cX3_trade 64 = .ok (.astore 8, 2) := by decide +kernel
theorem dX3_trade_66 : decode cX3_trade 66 = .ok (.aload 7, 2) := by decide +kernel
theorem dX3_trade_68 : decode cX3_trade 68 = .ok (.invokevirtual 131, 3) := by decide +kernel
theorem dX3_trade_71 : decode cX3_trade 71 = .ok (.astore 9, 2) := by decide +kernel
theorem dX3_trade_73 : decode cX3_trade 73 = .ok (.aload 8, 2) := by decide +kernel
theorem dX3_trade_75 : decode cX3_trade 75 = .ok (.ifnull 21, 3) := by decide +kernel
theorem dX3_trade_78 : decode cX3_trade 78 = .ok (.aload 9, 2) := by decide +kernel
theorem dX3_trade_80 : decode cX3_trade 80 = .ok (.ifnull 16, 3) := by decide +kernel
theorem dX3_trade_83 : decode cX3_trade 83 = .ok (.aload 9, 2) := by decide +kernel
theorem dX3_trade_85 : decode cX3_trade 85 = .ok (.aload 8, 2) := by decide +kernel
theorem dX3_trade_87 : decode cX3_trade 87 = .ok (.invokevirtual 168, 3) := by decide +kernel
theorem dX3_trade_90 : decode cX3_trade 90 = .ok (.aload 9, 2) := by decide +kernel
theorem dX3_trade_92 : decode cX3_trade 92 = .ok (.iload_n 3, 1) := by decide +kernel
theorem dX3_trade_93 : decode cX3_trade 93 = .ok (.invokevirtual 171, 3) := by decide +kernel
theorem dX3_trade_96 : decode cX3_trade 96 = .ok (.aload 6, 2) := by decide +kernel
theorem dX3_trade_98 : decode cX3_trade 98 = .ok (.iload_n 2, 1) := by decide +kernel
theorem dX3_trade_99 : decode cX3_trade 99 = .ok (.invokevirtual 175, 3) := by decide +kernel
theorem dX3_trade_102 : decode cX3_trade 102 = .ok (.aload 6, 2) := by decide +kernel
theorem dX3_trade_104 : decode cX3_trade 104 = .ok (.dup, 1) := by decide +kernel
theorem dX3_trade_105 : decode cX3_trade 105 = .ok (.getfield 94, 3) := by decide +kernel
theorem dX3_trade_108 : decode cX3_trade 108 = .ok (.iload 4, 2) := by decide +kernel
theorem dX3_trade_110 : decode cX3_trade 110 = .ok (.isub, 1) := by decide +kernel
theorem dX3_trade_111 : decode cX3_trade 111 = .ok (.putfield 94, 3) := by decide +kernel
theorem dX3_trade_114 : decode cX3_trade 114 = .ok (.aload 7, 2) := by decide +kernel
theorem dX3_trade_116 : decode cX3_trade 116 = .ok (.dup, 1) := by decide +kernel
theorem dX3_trade_117 : decode cX3_trade 117 = .ok (.getfield 94, 3) := by decide +kernel
theorem dX3_trade_120 : decode cX3_trade 120 = .ok (.iload 4, 2) := by decide +kernel
theorem dX3_trade_122 : decode cX3_trade 122 = .ok (.iadd, 1) := by decide +kernel
theorem dX3_trade_123 : decode cX3_trade 123 = .ok (.putfield 94, 3) := by decide +kernel
theorem dX3_trade_126 : decode cX3_trade 126 = .ok (.aload_n 0, 1) := by decide +kernel
theorem dX3_trade_127 : decode cX3_trade 127 = .ok (.dup, 1) := by decide +kernel
theorem dX3_trade_128 : decode cX3_trade 128 = .ok (.getfield 62, 3) := by decide +kernel
theorem dX3_trade_131 : decode cX3_trade 131 = .ok (.iconst 1, 1) := by decide +kernel
theorem dX3_trade_132 : decode cX3_trade 132 = .ok (.iadd, 1) := by decide +kernel
theorem dX3_trade_133 : decode cX3_trade 133 = .ok (.putfield 62, 3) := by decide +kernel
theorem dX3_trade_136 : decode cX3_trade 136 = .ok (.aload 7, 2) := by decide +kernel
theorem dX3_trade_138 : decode cX3_trade 138 = .ok (.getfield 94, 3) := by decide +kernel
theorem dX3_trade_141 : decode cX3_trade 141 = .ok (.sipush 1000, 3) := by decide +kernel
theorem dX3_trade_144 : decode cX3_trade 144 = .ok (.iadd, 1) := by decide +kernel
theorem dX3_trade_145 : decode cX3_trade 145 = .ok (.ireturn, 1) := by decide +kernel
theorem dX4_init_0 : decode cX4_init 0 = .ok (.aload_n 0, 1) := by decide +kernel
theorem dX4_init_1 : decode cX4_init 1 = .ok (.invokespecial 3, 3) := by decide +kernel
theorem dX4_init_4 : decode cX4_init 4 = .ok (.aload_n 0, 1) := by decide +kernel
theorem dX4_init_5 : decode cX4_init 5 = .ok (.bipush 60, 2) := by decide +kernel
theorem dX4_init_7 : decode cX4_init 7 = .ok (.newarray .int, 2) := by decide +kernel
theorem dX4_init_9 : decode cX4_init 9 = .ok (.putfield 9, 3) := by decide +kernel
theorem dX4_init_12 : decode cX4_init 12 = .ok (.return_, 1) := by decide +kernel
theorem dX5_init_0 : decode cX5_init 0 = .ok (.aload_n 0, 1) := by decide +kernel
theorem dX5_init_1 : decode cX5_init 1 = .ok (.invokespecial 3, 3) := by decide +kernel
theorem dX5_init_4 : decode cX5_init 4 = .ok (.aload_n 0, 1) := by decide +kernel
theorem dX5_init_5 : decode cX5_init 5 = .ok (.bipush 61, 2) := by decide +kernel
theorem dX5_init_7 : decode cX5_init 7 = .ok (.newarray .int, 2) := by decide +kernel
theorem dX5_init_9 : decode cX5_init 9 = .ok (.putfield 9, 3) := by decide +kernel
theorem dX5_init_12 : decode cX5_init 12 = .ok (.aload_n 0, 1) := by decide +kernel
theorem dX5_init_13 : decode cX5_init 13 = .ok (.bipush 61, 2) := by decide +kernel
theorem dX5_init_15 : decode cX5_init 15 = .ok (.newarray .int, 2) := by decide +kernel
theorem dX5_init_17 : decode cX5_init 17 = .ok (.putfield 15, 3) := by decide +kernel
theorem dX5_init_20 : decode cX5_init 20 = .ok (.return_, 1) := by decide +kernel
theorem dX5_onFrom_0 : decode cX5_onFrom 0 = .ok (.aload_n 0, 1) := by decide +kernel
theorem dX5_onFrom_1 : decode cX5_onFrom 1 = .ok (.iload_n 2, 1) := by decide +kernel
theorem dX5_onFrom_2 : decode cX5_onFrom 2 = .ok (.invokevirtual 18, 3) := by decide +kernel
theorem dX5_onFrom_5 : decode cX5_onFrom 5 = .ok (.iconst 0, 1) := by decide +kernel
theorem dX5_onFrom_6 : decode cX5_onFrom 6 = .ok (.istore_n 3, 1) := by decide +kernel
theorem dX5_onFrom_7 : decode cX5_onFrom 7 = .ok (.iload_n 3, 1) := by decide +kernel
theorem dX5_onFrom_8 : decode cX5_onFrom 8 = .ok (.aload_n 0, 1) := by decide +kernel
theorem dX5_onFrom_9 : decode cX5_onFrom 9 = .ok (.getfield 22, 3) := by decide +kernel
theorem dX5_onFrom_12 : decode cX5_onFrom 12 = .ok (.if_icmp .ge 79, 3) := by decide +kernel
theorem dX5_onFrom_15 : decode cX5_onFrom 15 = .ok (.iload_n 3, 1) := by decide +kernel
theorem dX5_onFrom_16 : decode cX5_onFrom 16 = .ok (.aload_n 0, 1) := by decide +kernel
theorem dX5_onFrom_17 : decode cX5_onFrom 17 = .ok (.getfield 15, 3) := by decide +kernel
theorem dX5_onFrom_20 : decode cX5_onFrom 20 = .ok (.arraylength, 1) := by decide +kernel
theorem dX5_onFrom_21 : decode cX5_onFrom 21 = .ok (.if_icmp .ge 70, 3) := by decide +kernel
theorem dX5_onFrom_24 : decode cX5_onFrom 24 = .ok (.aload_n 0, 1) := by decide +kernel
theorem dX5_onFrom_25 : decode cX5_onFrom 25 = .ok (.getfield 15, 3) := by decide +kernel
theorem dX5_onFrom_28 : decode cX5_onFrom 28 = .ok (.iload_n 3, 1) := by decide +kernel
theorem dX5_onFrom_29 : decode cX5_onFrom 29 = .ok (.iaload, 1) := by decide +kernel
theorem dX5_onFrom_30 : decode cX5_onFrom 30 = .ok (.istore 4, 2) := by decide +kernel
theorem dX5_onFrom_32 : decode cX5_onFrom 32 = .ok (.iload 4, 2) := by decide +kernel
theorem dX5_onFrom_34 : decode cX5_onFrom 34 = .ok (.bipush 60, 2) := by decide +kernel
theorem dX5_onFrom_36 : decode cX5_onFrom 36 = .ok (.if_icmp .ne 10, 3) := by decide +kernel
theorem dX5_onFrom_39 : decode cX5_onFrom 39 = .ok (.aload_n 0, 1) := by decide +kernel
theorem dX5_onFrom_40 : decode cX5_onFrom 40 = .ok (.iload 4, 2) := by decide +kernel
theorem dX5_onFrom_42 : decode cX5_onFrom 42 = .ok (.invokevirtual 26, 3) := by decide +kernel
theorem dX5_onFrom_45 : decode cX5_onFrom 45 = .ok (.ireturn, 1) := by decide +kernel
theorem dX5_onFrom_46 : decode cX5_onFrom 46 = .ok (.iconst 1, 1) := by decide +kernel
theorem dX5_onFrom_47 : decode cX5_onFrom 47 = .ok (.istore 5, 2) := by decide +kernel
theorem dX5_onFrom_49 : decode cX5_onFrom 49 = .ok (.iload 5, 2) := by decide +kernel
theorem dX5_onFrom_51 : decode cX5_onFrom 51 = .ok (.bipush 6, 2) := by decide +kernel
theorem dX5_onFrom_53 : decode cX5_onFrom 53 = .ok (.if_icmp .gt 32, 3) := by decide +kernel
theorem dX5_onFrom_56 : decode cX5_onFrom 56 = .ok (.aload_n 0, 1) := by decide +kernel
theorem dX5_onFrom_57 : decode cX5_onFrom 57 = .ok (.aload_n 1, 1) := by decide +kernel
theorem dX5_onFrom_58 : decode cX5_onFrom 58 = .ok (.iload 4, 2) := by decide +kernel
theorem dX5_onFrom_60 : decode cX5_onFrom 60 = .ok (.iload 5, 2) := by decide +kernel
theorem dX5_onFrom_62 : decode cX5_onFrom 62 = .ok (.invokestatic 30, 3) := by decide +kernel
theorem dX5_onFrom_65 : decode cX5_onFrom 65 = .ok (.invokevirtual 34, 3) := by decide +kernel
theorem dX5_onFrom_68 : decode cX5_onFrom 68 = .ok (.aload_n 0, 1) := by decide +kernel
theorem dX5_onFrom_69 : decode cX5_onFrom 69 = .ok (.iload 4, 2) := by decide +kernel
theorem dX5_onFrom_71 : decode cX5_onFrom 71 = .ok (.invokevirtual 26, 3) := by decide +kernel
theorem dX5_onFrom_74 : decode cX5_onFrom 74 = .ok (.iconst 1, 1) := by decide +kernel
theorem dX5_onFrom_75 : decode cX5_onFrom 75 = .ok (.iadd, 1) := by decide +kernel
theorem dX5_onFrom_76 : decode cX5_onFrom 76 = .ok (.invokevirtual 39, 3) := by decide +kernel
theorem dX5_onFrom_79 : decode cX5_onFrom 79 = .ok (.iinc 5 1, 3) := by decide +kernel
theorem dX5_onFrom_82 : decode cX5_onFrom 82 = .ok (.goto (-33), 3) := by decide +kernel
theorem dX5_onFrom_85 : decode cX5_onFrom 85 = .ok (.iinc 3 1, 3) := by decide +kernel
theorem dX5_onFrom_88 : decode cX5_onFrom 88 = .ok (.goto (-81), 3) := by decide +kernel
theorem dX5_onFrom_91 : decode cX5_onFrom 91 = .ok (.bipush (-5), 2) := by decide +kernel
theorem dX5_onFrom_93 : decode cX5_onFrom 93 = .ok (.ireturn, 1) := by decide +kernel
theorem dX5_backTo_0 : decode cX5_backTo 0 = .ok (.aload_n 0, 1) := by decide +kernel
theorem dX5_backTo_1 : decode cX5_backTo 1 = .ok (.bipush 60, 2) := by decide +kernel
theorem dX5_backTo_3 : decode cX5_backTo 3 = .ok (.invokevirtual 18, 3) := by decide +kernel
theorem dX5_backTo_6 : decode cX5_backTo 6 = .ok (.iconst 0, 1) := by decide +kernel
theorem dX5_backTo_7 : decode cX5_backTo 7 = .ok (.istore_n 3, 1) := by decide +kernel
theorem dX5_backTo_8 : decode cX5_backTo 8 = .ok (.iload_n 3, 1) := by decide +kernel
theorem dX5_backTo_9 : decode cX5_backTo 9 = .ok (.aload_n 0, 1) := by decide +kernel
theorem dX5_backTo_10 : decode cX5_backTo 10 = .ok (.getfield 22, 3) := by decide +kernel
theorem dX5_backTo_13 : decode cX5_backTo 13 = .ok (.if_icmp .ge 46, 3) := by decide +kernel
theorem dX5_backTo_16 : decode cX5_backTo 16 = .ok (.iload_n 3, 1) := by decide +kernel
theorem dX5_backTo_17 : decode cX5_backTo 17 = .ok (.aload_n 0, 1) := by decide +kernel
theorem dX5_backTo_18 : decode cX5_backTo 18 = .ok (.getfield 15, 3) := by decide +kernel
theorem dX5_backTo_21 : decode cX5_backTo 21 = .ok (.arraylength, 1) := by decide +kernel
theorem dX5_backTo_22 : decode cX5_backTo 22 = .ok (.if_icmp .ge 37, 3) := by decide +kernel
theorem dX5_backTo_25 : decode cX5_backTo 25 = .ok (.aload_n 0, 1) := by decide +kernel
theorem dX5_backTo_26 : decode cX5_backTo 26 = .ok (.getfield 15, 3) := by decide +kernel
theorem dX5_backTo_29 : decode cX5_backTo 29 = .ok (.iload_n 3, 1) := by decide +kernel
theorem dX5_backTo_30 : decode cX5_backTo 30 = .ok (.iaload, 1) := by decide +kernel
theorem dX5_backTo_31 : decode cX5_backTo 31 = .ok (.istore 4, 2) := by decide +kernel
theorem dX5_backTo_33 : decode cX5_backTo 33 = .ok (.iload 4, 2) := by decide +kernel
theorem dX5_backTo_35 : decode cX5_backTo 35 = .ok (.iload_n 2, 1) := by decide +kernel
theorem dX5_backTo_36 : decode cX5_backTo 36 = .ok (.if_icmp .ne 10, 3) := by decide +kernel
theorem dX5_backTo_39 : decode cX5_backTo 39 = .ok (.aload_n 0, 1) := by decide +kernel
theorem dX5_backTo_40 : decode cX5_backTo 40 = .ok (.iload 4, 2) := by decide +kernel
theorem dX5_backTo_42 : decode cX5_backTo 42 = .ok (.invokevirtual 26, 3) := by decide +kernel
theorem dX5_backTo_45 : decode cX5_backTo 45 = .ok (.ireturn, 1) := by decide +kernel
theorem dX5_backTo_46 : decode cX5_backTo 46 = .ok (.aload_n 0, 1) := by decide +kernel
theorem dX5_backTo_47 : decode cX5_backTo 47 = .ok (.iload 4, 2) := by decide +kernel
theorem dX5_backTo_49 : decode cX5_backTo 49 = .ok (.aload_n 1, 1) := by decide +kernel
theorem dX5_backTo_50 : decode cX5_backTo 50 = .ok (.invokevirtual 43, 3) := by decide +kernel
theorem dX5_backTo_53 : decode cX5_backTo 53 = .ok (.iinc 3 1, 3) := by decide +kernel
theorem dX5_backTo_56 : decode cX5_backTo 56 = .ok (.goto (-48), 3) := by decide +kernel
theorem dX5_backTo_59 : decode cX5_backTo 59 = .ok (.bipush (-5), 2) := by decide +kernel
theorem dX5_backTo_61 : decode cX5_backTo 61 = .ok (.ireturn, 1) := by decide +kernel
theorem dX5_seeLandingsThatLeadTo_0 : decode cX5_seeLandingsThatLeadTo 0 = .ok (.aload_n 0, 1) := by decide +kernel
theorem dX5_seeLandingsThatLeadTo_1 : decode cX5_seeLandingsThatLeadTo 1 = .ok (.iload_n 1, 1) := by decide +kernel
theorem dX5_seeLandingsThatLeadTo_2 : decode cX5_seeLandingsThatLeadTo 2 = .ok (.invokevirtual 26, 3) := by decide +kernel
theorem dX5_seeLandingsThatLeadTo_5 : decode cX5_seeLandingsThatLeadTo 5 = .ok (.iconst 1, 1) := by decide +kernel
theorem dX5_seeLandingsThatLeadTo_6 : decode cX5_seeLandingsThatLeadTo 6 = .ok (.iadd, 1) := by decide +kernel
theorem dX5_seeLandingsThatLeadTo_7 : decode cX5_seeLandingsThatLeadTo 7 = .ok (.istore_n 3, 1) := by decide +kernel
theorem dX5_seeLandingsThatLeadTo_8 : decode cX5_seeLandingsThatLeadTo 8 = .ok (.aload_n 2, 1) := by decide +kernel
theorem dX5_seeLandingsThatLeadTo_9 : decode cX5_seeLandingsThatLeadTo 9 = .ok (.iload_n 1, 1) := by decide +kernel
theorem dX5_seeLandingsThatLeadTo_10 : decode cX5_seeLandingsThatLeadTo 10 = .ok (.invokevirtual 47, 3) := by decide +kernel
theorem dX5_seeLandingsThatLeadTo_13 : decode cX5_seeLandingsThatLeadTo 13 = .ok (.bipush (-5), 2) := by decide +kernel
theorem dX5_seeLandingsThatLeadTo_15 : decode cX5_seeLandingsThatLeadTo 15 = .ok (.if_icmp .ne 9, 3) := by decide +kernel
theorem dX5_seeLandingsThatLeadTo_18 : decode cX5_seeLandingsThatLeadTo 18 = .ok (.aload_n 0, 1) := by decide +kernel
theorem dX5_seeLandingsThatLeadTo_19 : decode cX5_seeLandingsThatLeadTo 19 = .ok (.iload_n 1, 1) := by decide +kernel
theorem dX5_seeLandingsThatLeadTo_20 : decode cX5_seeLandingsThatLeadTo 20 = .ok (.iload_n 3, 1) := by decide +kernel
theorem dX5_seeLandingsThatLeadTo_21 : decode cX5_seeLandingsThatLeadTo 21 = .ok (.invokevirtual 50, 3) := by decide +kernel
theorem dX5_seeLandingsThatLeadTo_24 : decode cX5_seeLandingsThatLeadTo 24 = .ok (.iconst 0, 1) := by decide +kernel
theorem dX5_seeLandingsThatLeadTo_25 : decode cX5_seeLandingsThatLeadTo 25 = .ok (.istore 4, 2) := by decide +kernel
theorem dX5_seeLandingsThatLeadTo_27 : decode cX5_seeLandingsThatLeadTo 27 = .ok (.iload 4, 2) := by decide +kernel
theorem dX5_seeLandingsThatLeadTo_29 : decode cX5_seeLandingsThatLeadTo 29 = .ok (.bipush 10, 2) := by decide +kernel
theorem dX5_seeLandingsThatLeadTo_31 : decode cX5_seeLandingsThatLeadTo 31 = .ok (.if_icmp .ge 41, 3) := by decide +kernel
theorem dX5_seeLandingsThatLeadTo_34 : decode cX5_seeLandingsThatLeadTo 34 = .ok (.aload_n 2, 1) := by decide +kernel
theorem dX5_seeLandingsThatLeadTo_35 : decode cX5_seeLandingsThatLeadTo 35 = .ok (.iload 4, 2) := by decide +kernel
theorem dX5_seeLandingsThatLeadTo_37 : decode cX5_seeLandingsThatLeadTo 37 = .ok (.invokevirtual 53, 3) := by decide +kernel
theorem dX5_seeLandingsThatLeadTo_40 : decode cX5_seeLandingsThatLeadTo 40 = .ok (.astore 5, 2) := by decide +kernel
theorem dX5_seeLandingsThatLeadTo_42 : decode cX5_seeLandingsThatLeadTo 42 = .ok (.aload 5, 2) := by decide +kernel
theorem dX5_seeLandingsThatLeadTo_44 : decode cX5_seeLandingsThatLeadTo 44 = .ok (.ifnull 22, 3) := by decide +kernel
theorem dX5_seeLandingsThatLeadTo_47 : decode cX5_seeLandingsThatLeadTo 47 = .ok (.aload 5, 2) := by decide +kernel
theorem dX5_seeLandingsThatLeadTo_49 : decode cX5_seeLandingsThatLeadTo 49 = .ok (.getfield 57, 3) := by decide +kernel
theorem dX5_seeLandingsThatLeadTo_52 : decode cX5_seeLandingsThatLeadTo 52 = .ok (.iload_n 1, 1) := by decide +kernel
theorem dX5_seeLandingsThatLeadTo_53 : decode cX5_seeLandingsThatLeadTo 53 = .ok (.if_icmp .ne 13, 3) := by decide +kernel
theorem dX5_seeLandingsThatLeadTo_56 : decode cX5_seeLandingsThatLeadTo 56 = .ok (.aload_n 0, 1) := by decide +kernel
theorem dX5_seeLandingsThatLeadTo_57 : decode cX5_seeLandingsThatLeadTo 57 = .ok (.aload 5, 2) := by decide +kernel
theorem dX5_seeLandingsThatLeadTo_59 : decode cX5_seeLandingsThatLeadTo 59 = .ok (.getfield 62, 3) := by decide +kernel
theorem dX5_seeLandingsThatLeadTo_62 : decode cX5_seeLandingsThatLeadTo 62 = .ok (.iload_n 3, 1) := by decide +kernel
theorem dX5_seeLandingsThatLeadTo_63 : decode cX5_seeLandingsThatLeadTo 63 = .ok (.invokevirtual 50, 3) := by decide +kernel
theorem dX5_seeLandingsThatLeadTo_66 : decode cX5_seeLandingsThatLeadTo 66 = .ok (.iinc 4 1, 3) := by decide +kernel
theorem dX5_seeLandingsThatLeadTo_69 : decode cX5_seeLandingsThatLeadTo 69 = .ok (.goto (-42), 3) := by decide +kernel
theorem dX5_seeLandingsThatLeadTo_72 : decode cX5_seeLandingsThatLeadTo 72 = .ok (.return_, 1) := by decide +kernel
theorem dX5_seeSquaresBefore_0 : decode cX5_seeSquaresBefore 0 = .ok (.iconst 1, 1) := by decide +kernel
theorem dX5_seeSquaresBefore_1 : decode cX5_seeSquaresBefore 1 = .ok (.istore_n 3, 1) := by decide +kernel
theorem dX5_seeSquaresBefore_2 : decode cX5_seeSquaresBefore 2 = .ok (.iload_n 3, 1) := by decide +kernel
theorem dX5_seeSquaresBefore_3 : decode cX5_seeSquaresBefore 3 = .ok (.bipush 6, 2) := by decide +kernel
theorem dX5_seeSquaresBefore_5 : decode cX5_seeSquaresBefore 5 = .ok (.if_icmp .gt 28, 3) := by decide +kernel
theorem dX5_seeSquaresBefore_8 : decode cX5_seeSquaresBefore 8 = .ok (.aload_n 0, 1) := by decide +kernel
theorem dX5_seeSquaresBefore_9 : decode cX5_seeSquaresBefore 9 = .ok (.iload_n 1, 1) := by decide +kernel
theorem dX5_seeSquaresBefore_10 : decode cX5_seeSquaresBefore 10 = .ok (.iload_n 3, 1) := by decide +kernel
theorem dX5_seeSquaresBefore_11 : decode cX5_seeSquaresBefore 11 = .ok (.isub, 1) := by decide +kernel
theorem dX5_seeSquaresBefore_12 : decode cX5_seeSquaresBefore 12 = .ok (.iload_n 2, 1) := by decide +kernel
theorem dX5_seeSquaresBefore_13 : decode cX5_seeSquaresBefore 13 = .ok (.invokevirtual 39, 3) := by decide +kernel
theorem dX5_seeSquaresBefore_16 : decode cX5_seeSquaresBefore 16 = .ok (.aload_n 0, 1) := by decide +kernel
theorem dX5_seeSquaresBefore_17 : decode cX5_seeSquaresBefore 17 = .ok (.bipush 120, 2) := by decide +kernel
theorem dX5_seeSquaresBefore_19 : decode cX5_seeSquaresBefore 19 = .ok (.iload_n 1, 1) := by decide +kernel
theorem dX5_seeSquaresBefore_20 : decode cX5_seeSquaresBefore 20 = .ok (.isub, 1) := by decide +kernel
theorem dX5_seeSquaresBefore_21 : decode cX5_seeSquaresBefore 21 = .ok (.iload_n 3, 1) := by decide +kernel
theorem dX5_seeSquaresBefore_22 : decode cX5_seeSquaresBefore 22 = .ok (.isub, 1) := by decide +kernel
theorem dX5_seeSquaresBefore_23 : decode cX5_seeSquaresBefore 23 = .ok (.iload_n 2, 1) := by decide +kernel
theorem dX5_seeSquaresBefore_24 : decode cX5_seeSquaresBefore 24 = .ok (.invokevirtual 39, 3) := by decide +kernel
theorem dX5_seeSquaresBefore_27 : decode cX5_seeSquaresBefore 27 = .ok (.iinc 3 1, 3) := by decide +kernel
theorem dX5_seeSquaresBefore_30 : decode cX5_seeSquaresBefore 30 = .ok (.goto (-28), 3) := by decide +kernel
theorem dX5_seeSquaresBefore_33 : decode cX5_seeSquaresBefore 33 = .ok (.return_, 1) := by decide +kernel
theorem dX5_start_0 : decode cX5_start 0 = .ok (.iconst 0, 1) := by decide +kernel
theorem dX5_start_1 : decode cX5_start 1 = .ok (.istore_n 2, 1) := by decide +kernel
theorem dX5_start_2 : decode cX5_start 2 = .ok (.iload_n 2, 1) := by decide +kernel
theorem dX5_start_3 : decode cX5_start 3 = .ok (.aload_n 0, 1) := by decide +kernel
theorem dX5_start_4 : decode cX5_start 4 = .ok (.getfield 9, 3) := by decide +kernel
theorem dX5_start_7 : decode cX5_start 7 = .ok (.arraylength, 1) := by decide +kernel
theorem dX5_start_8 : decode cX5_start 8 = .ok (.if_icmp .ge 16, 3) := by decide +kernel
theorem dX5_start_11 : decode cX5_start 11 = .ok (.aload_n 0, 1) := by decide +kernel
theorem dX5_start_12 : decode cX5_start 12 = .ok (.getfield 9, 3) := by decide +kernel
theorem dX5_start_15 : decode cX5_start 15 = .ok (.iload_n 2, 1) := by decide +kernel
theorem dX5_start_16 : decode cX5_start 16 = .ok (.iconst (-1), 1) := by decide +kernel
theorem dX5_start_17 : decode cX5_start 17 = .ok (.iastore, 1) := by decide +kernel
theorem dX5_start_18 : decode cX5_start 18 = .ok (.iinc 2 1, 3) := by decide +kernel
theorem dX5_start_21 : decode cX5_start 21 = .ok (.goto (-19), 3) := by decide +kernel
theorem dX5_start_24 : decode cX5_start 24 = .ok (.aload_n 0, 1) := by decide +kernel
theorem dX5_start_25 : decode cX5_start 25 = .ok (.iconst 0, 1) := by decide +kernel
theorem dX5_start_26 : decode cX5_start 26 = .ok (.putfield 22, 3) := by decide +kernel
theorem dX5_start_29 : decode cX5_start 29 = .ok (.aload_n 0, 1) := by decide +kernel
theorem dX5_start_30 : decode cX5_start 30 = .ok (.iload_n 1, 1) := by decide +kernel
theorem dX5_start_31 : decode cX5_start 31 = .ok (.iconst 0, 1) := by decide +kernel
theorem dX5_start_32 : decode cX5_start 32 = .ok (.invokevirtual 39, 3) := by decide +kernel
theorem dX5_start_35 : decode cX5_start 35 = .ok (.return_, 1) := by decide +kernel
theorem dX5_see_0 : decode cX5_see 0 = .ok (.iload_n 1, 1) := by decide +kernel
theorem dX5_see_1 : decode cX5_see 1 = .ok (.ifCond .lt 22, 3) := by decide +kernel
theorem dX5_see_4 : decode cX5_see 4 = .ok (.iload_n 1, 1) := by decide +kernel
theorem dX5_see_5 : decode cX5_see 5 = .ok (.aload_n 0, 1) := by decide +kernel
theorem dX5_see_6 : decode cX5_see 6 = .ok (.getfield 9, 3) := by decide +kernel
theorem dX5_see_9 : decode cX5_see 9 = .ok (.arraylength, 1) := by decide +kernel
theorem dX5_see_10 : decode cX5_see 10 = .ok (.if_icmp .ge 13, 3) := by decide +kernel
theorem dX5_see_13 : decode cX5_see 13 = .ok (.aload_n 0, 1) := by decide +kernel
theorem dX5_see_14 : decode cX5_see 14 = .ok (.getfield 9, 3) := by decide +kernel
theorem dX5_see_17 : decode cX5_see 17 = .ok (.iload_n 1, 1) := by decide +kernel
theorem dX5_see_18 : decode cX5_see 18 = .ok (.iaload, 1) := by decide +kernel
theorem dX5_see_19 : decode cX5_see 19 = .ok (.iconst (-1), 1) := by decide +kernel
theorem dX5_see_20 : decode cX5_see 20 = .ok (.if_icmp .eq 4, 3) := by decide +kernel
theorem dX5_see_23 : decode cX5_see 23 = .ok (.return_, 1) := by decide +kernel
theorem dX5_see_24 : decode cX5_see 24 = .ok (.aload_n 0, 1) := by decide +kernel
theorem dX5_see_25 : decode cX5_see 25 = .ok (.getfield 9, 3) := by decide +kernel
theorem dX5_see_28 : decode cX5_see 28 = .ok (.iload_n 1, 1) := by decide +kernel
theorem dX5_see_29 : decode cX5_see 29 = .ok (.iload_n 2, 1) := by decide +kernel
theorem dX5_see_30 : decode cX5_see 30 = .ok (.iastore, 1) := by decide +kernel
theorem dX5_see_31 : decode cX5_see 31 = .ok (.aload_n 0, 1) := by decide +kernel
theorem dX5_see_32 : decode cX5_see 32 = .ok (.getfield 22, 3) := by decide +kernel
theorem dX5_see_35 : decode cX5_see 35 = .ok (.ifCond .lt 35, 3) := by decide +kernel
theorem dX5_see_38 : decode cX5_see 38 = .ok (.aload_n 0, 1) := by decide +kernel
theorem dX5_see_39 : decode cX5_see 39 = .ok (.getfield 22, 3) := by decide +kernel
theorem dX5_see_42 : decode cX5_see 42 = .ok (.aload_n 0, 1) := by decide +kernel
theorem dX5_see_43 : decode cX5_see 43 = .ok (.getfield 15, 3) := by decide +kernel
theorem dX5_see_46 : decode cX5_see 46 = .ok (.arraylength, 1) := by decide +kernel
theorem dX5_see_47 : decode cX5_see 47 = .ok (.if_icmp .ge 23, 3) := by decide +kernel
theorem dX5_see_50 : decode cX5_see 50 = .ok (.aload_n 0, 1) := by decide +kernel
theorem dX5_see_51 : decode cX5_see 51 = .ok (.getfield 15, 3) := by decide +kernel
theorem dX5_see_54 : decode cX5_see 54 = .ok (.aload_n 0, 1) := by decide +kernel
theorem dX5_see_55 : decode cX5_see 55 = .ok (.getfield 22, 3) := by decide +kernel
theorem dX5_see_58 : decode cX5_see 58 = .ok (.iload_n 1, 1) := by decide +kernel
theorem dX5_see_59 : decode cX5_see 59 = .ok (.iastore, 1) := by decide +kernel
theorem dX5_see_60 : decode cX5_see 60 = .ok (.aload_n 0, 1) := by decide +kernel
theorem dX5_see_61 : decode cX5_see 61 = .ok (.dup, 1) := by decide +kernel
theorem dX5_see_62 : decode cX5_see 62 = .ok (.getfield 22, 3) := by decide +kernel
theorem dX5_see_65 : decode cX5_see 65 = .ok (.iconst 1, 1) := by decide +kernel
theorem dX5_see_66 : decode cX5_see 66 = .ok (.iadd, 1) := by decide +kernel
theorem dX5_see_67 : decode cX5_see 67 = .ok (.putfield 22, 3) := by decide +kernel
theorem dX5_see_70 : decode cX5_see 70 = .ok (.return_, 1) := by decide +kernel
theorem dX5_throwsAt_0 : decode cX5_throwsAt 0 = .ok (.iload_n 1, 1) := by decide +kernel
theorem dX5_throwsAt_1 : decode cX5_throwsAt 1 = .ok (.ifCond .lt 21, 3) := by decide +kernel
theorem dX5_throwsAt_4 : decode cX5_throwsAt 4 = .ok (.iload_n 1, 1) := by decide +kernel
theorem dX5_throwsAt_5 : decode cX5_throwsAt 5 = .ok (.aload_n 0, 1) := by decide +kernel
theorem dX5_throwsAt_6 : decode cX5_throwsAt 6 = .ok (.getfield 9, 3) := by decide +kernel
theorem dX5_throwsAt_9 : decode cX5_throwsAt 9 = .ok (.arraylength, 1) := by decide +kernel
theorem dX5_throwsAt_10 : decode cX5_throwsAt 10 = .ok (.if_icmp .ge 12, 3) := by decide +kernel
theorem dX5_throwsAt_13 : decode cX5_throwsAt 13 = .ok (.aload_n 0, 1) := by decide +kernel
theorem dX5_throwsAt_14 : decode cX5_throwsAt 14 = .ok (.getfield 9, 3) := by decide +kernel
theorem dX5_throwsAt_17 : decode cX5_throwsAt 17 = .ok (.iload_n 1, 1) := by decide +kernel
theorem dX5_throwsAt_18 : decode cX5_throwsAt 18 = .ok (.iaload, 1) := by decide +kernel
theorem dX5_throwsAt_19 : decode cX5_throwsAt 19 = .ok (.goto 5, 3) := by decide +kernel
theorem dX5_throwsAt_22 : decode cX5_throwsAt 22 = .ok (.bipush (-5), 2) := by decide +kernel
theorem dX5_throwsAt_24 : decode cX5_throwsAt 24 = .ok (.ireturn, 1) := by decide +kernel
theorem dX6_init_0 : decode cX6_init 0 = .ok (.aload_n 0, 1) := by decide +kernel
theorem dX6_init_1 : decode cX6_init 1 = .ok (.invokespecial 1, 3) := by decide +kernel
theorem dX6_init_4 : decode cX6_init 4 = .ok (.return_, 1) := by decide +kernel
theorem dX6_isThere_0 : decode cX6_isThere 0 = .ok (.aload_n 0, 1) := by decide +kernel
theorem dX6_isThere_1 : decode cX6_isThere 1 = .ok (.getfield 7, 3) := by decide +kernel
theorem dX6_isThere_4 : decode cX6_isThere 4 = .ok (.ifCond .le 7, 3) := by decide +kernel
theorem dX6_isThere_7 : decode cX6_isThere 7 = .ok (.iconst 1, 1) := by decide +kernel
theorem dX6_isThere_8 : decode cX6_isThere 8 = .ok (.goto 4, 3) := by decide +kernel
theorem dX6_isThere_11 : decode cX6_isThere 11 = .ok (.iconst 0, 1) := by decide +kernel
theorem dX6_isThere_12 : decode cX6_isThere 12 = .ok (.ireturn, 1) := by decide +kernel
theorem dX6_appear_0 : decode cX6_appear 0 = .ok (.aload_n 0, 1) := by decide +kernel
theorem dX6_appear_1 : decode cX6_appear 1 = .ok (.iload_n 1, 1) := by decide +kernel
theorem dX6_appear_2 : decode cX6_appear 2 = .ok (.putfield 7, 3) := by decide +kernel
theorem dX6_appear_5 : decode cX6_appear 5 = .ok (.aload_n 0, 1) := by decide +kernel
theorem dX6_appear_6 : decode cX6_appear 6 = .ok (.iload_n 2, 1) := by decide +kernel
theorem dX6_appear_7 : decode cX6_appear 7 = .ok (.putfield 13, 3) := by decide +kernel
theorem dX6_appear_10 : decode cX6_appear 10 = .ok (.aload_n 0, 1) := by decide +kernel
theorem dX6_appear_11 : decode cX6_appear 11 = .ok (.iconst 0, 1) := by decide +kernel
theorem dX6_appear_12 : decode cX6_appear 12 = .ok (.putfield 16, 3) := by decide +kernel
theorem dX6_appear_15 : decode cX6_appear 15 = .ok (.aload_n 0, 1) := by decide +kernel
theorem dX6_appear_16 : decode cX6_appear 16 = .ok (.iconst 0, 1) := by decide +kernel
theorem dX6_appear_17 : decode cX6_appear 17 = .ok (.putfield 19, 3) := by decide +kernel
theorem dX6_appear_20 : decode cX6_appear 20 = .ok (.return_, 1) := by decide +kernel
theorem dX6_vanish_0 : decode cX6_vanish 0 = .ok (.aload_n 0, 1) := by decide +kernel
theorem dX6_vanish_1 : decode cX6_vanish 1 = .ok (.iconst 0, 1) := by decide +kernel
theorem dX6_vanish_2 : decode cX6_vanish 2 = .ok (.iconst 0, 1) := by decide +kernel
theorem dX6_vanish_3 : decode cX6_vanish 3 = .ok (.invokevirtual 22, 3) := by decide +kernel
theorem dX6_vanish_6 : decode cX6_vanish 6 = .ok (.return_, 1) := by decide +kernel
theorem dX6_copyFrom_0 : decode cX6_copyFrom 0 = .ok (.aload_n 0, 1) := by decide +kernel
theorem dX6_copyFrom_1 : decode cX6_copyFrom 1 = .ok (.aload_n 1, 1) := by decide +kernel
theorem dX6_copyFrom_2 : decode cX6_copyFrom 2 = .ok (.getfield 7, 3) := by decide +kernel
theorem dX6_copyFrom_5 : decode cX6_copyFrom 5 = .ok (.putfield 7, 3) := by decide +kernel
theorem dX6_copyFrom_8 : decode cX6_copyFrom 8 = .ok (.aload_n 0, 1) := by decide +kernel
theorem dX6_copyFrom_9 : decode cX6_copyFrom 9 = .ok (.aload_n 1, 1) := by decide +kernel
theorem dX6_copyFrom_10 : decode cX6_copyFrom 10 = .ok (.getfield 13, 3) := by decide +kernel
theorem dX6_copyFrom_13 : decode cX6_copyFrom 13 = .ok (.putfield 13, 3) := by decide +kernel
theorem dX6_copyFrom_16 : decode cX6_copyFrom 16 = .ok (.aload_n 0, 1) := by decide +kernel
theorem dX6_copyFrom_17 : decode cX6_copyFrom 17 = .ok (.aload_n 1, 1) := by decide +kernel
theorem dX6_copyFrom_18 : decode cX6_copyFrom 18 = .ok (.getfield 16, 3) := by decide +kernel
theorem dX6_copyFrom_21 : decode cX6_copyFrom 21 = .ok (.putfield 16, 3) := by decide +kernel
theorem dX6_copyFrom_24 : decode cX6_copyFrom 24 = .ok (.aload_n 0, 1) := by decide +kernel
theorem dX6_copyFrom_25 : decode cX6_copyFrom 25 = .ok (.aload_n 1, 1) := by decide +kernel
theorem dX6_copyFrom_26 : decode cX6_copyFrom 26 = .ok (.getfield 19, 3) := by decide +kernel
theorem dX6_copyFrom_29 : decode cX6_copyFrom 29 = .ok (.putfield 19, 3) := by decide +kernel
theorem dX6_copyFrom_32 : decode cX6_copyFrom 32 = .ok (.return_, 1) := by decide +kernel
theorem dX7_init_0 : decode cX7_init 0 = .ok (.aload_n 0, 1) := by decide +kernel
theorem dX7_init_1 : decode cX7_init 1 = .ok (.invokespecial 3, 3) := by decide +kernel
theorem dX7_init_4 : decode cX7_init 4 = .ok (.aload_n 0, 1) := by decide +kernel
theorem dX7_init_5 : decode cX7_init 5 = .ok (.new 9, 3) := by decide +kernel
theorem dX7_init_8 : decode cX7_init 8 = .ok (.dup, 1) := by decide +kernel
theorem dX7_init_9 : decode cX7_init 9 = .ok (.invokespecial 11, 3) := by decide +kernel
theorem dX7_init_12 : decode cX7_init 12 = .ok (.putfield 12, 3) := by decide +kernel
theorem dX7_init_15 : decode cX7_init 15 = .ok (.aload_n 0, 1) := by decide +kernel
theorem dX7_init_16 : decode cX7_init 16 = .ok (.new 9, 3) := by decide +kernel
theorem dX7_init_19 : decode cX7_init 19 = .ok (.dup, 1) := by decide +kernel
theorem dX7_init_20 : decode cX7_init 20 = .ok (.invokespecial 11, 3) := by decide +kernel
theorem dX7_init_23 : decode cX7_init 23 = .ok (.putfield 16, 3) := by decide +kernel
theorem dX7_init_26 : decode cX7_init 26 = .ok (.aload_n 0, 1) := by decide +kernel
theorem dX7_init_27 : decode cX7_init 27 = .ok (.new 9, 3) := by decide +kernel
theorem dX7_init_30 : decode cX7_init 30 = .ok (.dup, 1) := by decide +kernel
theorem dX7_init_31 : decode cX7_init 31 = .ok (.invokespecial 11, 3) := by decide +kernel
theorem dX7_init_34 : decode cX7_init 34 = .ok (.putfield 19, 3) := by decide +kernel
theorem dX7_init_37 : decode cX7_init 37 = .ok (.aload_n 0, 1) := by decide +kernel
theorem dX7_init_38 : decode cX7_init 38 = .ok (.new 22, 3) := by decide +kernel
theorem dX7_init_41 : decode cX7_init 41 = .ok (.dup, 1) := by decide +kernel
theorem dX7_init_42 : decode cX7_init 42 = .ok (.invokespecial 24, 3) := by decide +kernel
theorem dX7_init_45 : decode cX7_init 45 = .ok (.putfield 25, 3) := by decide +kernel
theorem dX7_init_48 : decode cX7_init 48 = .ok (.aload_n 0, 1) := by decide +kernel
theorem dX7_init_49 : decode cX7_init 49 = .ok (.new 29, 3) := by decide +kernel
theorem dX7_init_52 : decode cX7_init 52 = .ok (.dup, 1) := by decide +kernel
theorem dX7_init_53 : decode cX7_init 53 = .ok (.invokespecial 31, 3) := by decide +kernel
theorem dX7_init_56 : decode cX7_init 56 = .ok (.putfield 32, 3) := by decide +kernel
theorem dX7_init_59 : decode cX7_init 59 = .ok (.aload_n 0, 1) := by decide +kernel
theorem dX7_init_60 : decode cX7_init 60 = .ok (.new 36, 3) := by decide +kernel
theorem dX7_init_63 : decode cX7_init 63 = .ok (.dup, 1) := by decide +kernel
theorem dX7_init_64 : decode cX7_init 64 = .ok (.invokespecial 38, 3) := by decide +kernel
theorem dX7_init_67 : decode cX7_init 67 = .ok (.putfield 39, 3) := by decide +kernel
theorem dX7_init_70 : decode cX7_init 70 = .ok (.aload_n 0, 1) := by decide +kernel
theorem dX7_init_71 : decode cX7_init 71 = .ok (.iconst 0, 1) := by decide +kernel
theorem dX7_init_72 : decode cX7_init 72 = .ok (.putfield 43, 3) := by decide +kernel
theorem dX7_init_75 : decode cX7_init 75 = .ok (.return_, 1) := by decide +kernel
theorem dX7_snake_0 : decode cX7_snake 0 = .ok (.iload_n 1, 1) := by decide +kernel
theorem dX7_snake_1 : decode cX7_snake 1 = .ok (.iload_n 2, 1) := by decide +kernel
theorem dX7_snake_2 : decode cX7_snake 2 = .ok (.invokestatic 47, 3) := by decide +kernel
theorem dX7_snake_5 : decode cX7_snake 5 = .ok (.ifCond .ne 6, 3) := by decide +kernel
theorem dX7_snake_8 : decode cX7_snake 8 = .ok (.bipush (-2), 2) := by decide +kernel
theorem dX7_snake_10 : decode cX7_snake 10 = .ok (.ireturn, 1) := by decide +kernel
theorem dX7_snake_11 : decode cX7_snake 11 = .ok (.aload_n 0, 1) := by decide +kernel
theorem dX7_snake_12 : decode cX7_snake 12 = .ok (.getfield 12, 3) := by decide +kernel
theorem dX7_snake_15 : decode cX7_snake 15 = .ok (.iload_n 1, 1) := by decide +kernel
theorem dX7_snake_16 : decode cX7_snake 16 = .ok (.invokevirtual 51, 3) := by decide +kernel
theorem dX7_snake_19 : decode cX7_snake 19 = .ok (.bipush (-5), 2) := by decide +kernel
theorem dX7_snake_21 : decode cX7_snake 21 = .ok (.if_icmp .eq 6, 3) := by decide +kernel
theorem dX7_snake_24 : decode cX7_snake 24 = .ok (.bipush (-4), 2) := by decide +kernel
theorem dX7_snake_26 : decode cX7_snake 26 = .ok (.ireturn, 1) := by decide +kernel
theorem dX7_snake_27 : decode cX7_snake 27 = .ok (.aload_n 0, 1) := by decide +kernel
theorem dX7_snake_28 : decode cX7_snake 28 = .ok (.getfield 12, 3) := by decide +kernel
theorem dX7_snake_31 : decode cX7_snake 31 = .ok (.invokevirtual 55, 3) := by decide +kernel
theorem dX7_snake_34 : decode cX7_snake 34 = .ok (.istore_n 3, 1) := by decide +kernel
theorem dX7_snake_35 : decode cX7_snake 35 = .ok (.aload_n 0, 1) := by decide +kernel
theorem dX7_snake_36 : decode cX7_snake 36 = .ok (.getfield 12, 3) := by decide +kernel
theorem dX7_snake_39 : decode cX7_snake 39 = .ok (.iload_n 3, 1) := by decide +kernel
theorem dX7_snake_40 : decode cX7_snake 40 = .ok (.invokevirtual 59, 3) := by decide +kernel
theorem dX7_snake_43 : decode cX7_snake 43 = .ok (.astore 4, 2) := by decide +kernel
theorem dX7_snake_45 : decode cX7_snake 45 = .ok (.aload 4, 2) := by decide +kernel
theorem dX7_snake_47 : decode cX7_snake 47 = .ok (.ifnonnull 6, 3) := by decide +kernel
theorem dX7_snake_50 : decode cX7_snake 50 = .ok (.bipush (-3), 2) := by decide +kernel
theorem dX7_snake_52 : decode cX7_snake 52 = .ok (.ireturn, 1) := by decide +kernel
theorem dX7_snake_53 : decode cX7_snake 53 = .ok (.aload_n 0, 1) := by decide +kernel
theorem dX7_snake_54 : decode cX7_snake 54 = .ok (.getfield 25, 3) := by decide +kernel
theorem dX7_snake_57 : decode cX7_snake 57 = .ok (.aload_n 0, 1) := by decide +kernel
theorem dX7_snake_58 : decode cX7_snake 58 = .ok (.getfield 12, 3) := by decide +kernel
theorem dX7_snake_61 : decode cX7_snake 61 = .ok (.invokevirtual 63, 3) := by decide +kernel
theorem dX7_snake_64 : decode cX7_snake 64 = .ok (.aload 4, 2) := by decide +kernel
theorem dX7_snake_66 : decode cX7_snake 66 = .ok (.iload_n 1, 1) := by decide +kernel
theorem dX7_snake_67 : decode cX7_snake 67 = .ok (.iload_n 2, 1) := by decide +kernel
theorem dX7_snake_68 : decode cX7_snake 68 = .ok (.invokevirtual 67, 3) := by decide +kernel
theorem dX7_snake_71 : decode cX7_snake 71 = .ok (.iload_n 3, 1) := by decide +kernel
theorem dX7_snake_72 : decode cX7_snake 72 = .ok (.ireturn, 1) := by decide +kernel
theorem dX7_charm_0 : decode cX7_charm 0 = .ok (.aload_n 0, 1) := by decide +kernel
theorem dX7_charm_1 : decode cX7_charm 1 = .ok (.getfield 12, 3) := by decide +kernel
theorem dX7_charm_4 : decode cX7_charm 4 = .ok (.iload_n 1, 1) := by decide +kernel
theorem dX7_charm_5 : decode cX7_charm 5 = .ok (.invokevirtual 73, 3) := by decide +kernel
theorem dX7_charm_8 : decode cX7_charm 8 = .ok (.astore_n 3, 1) := by decide +kernel
theorem dX7_charm_9 : decode cX7_charm 9 = .ok (.aload_n 3, 1) := by decide +kernel
theorem dX7_charm_10 : decode cX7_charm 10 = .ok (.ifnonnull 5, 3) := by decide +kernel
theorem dX7_charm_13 : decode cX7_charm 13 = .ok (.iconst (-1), 1) := by decide +kernel
theorem dX7_charm_14 : decode cX7_charm 14 = .ok (.ireturn, 1) := by decide +kernel
theorem dX7_charm_15 : decode cX7_charm 15 = .ok (.iload_n 2, 1) := by decide +kernel
theorem dX7_charm_16 : decode cX7_charm 16 = .ok (.iconst 1, 1) := by decide +kernel
theorem dX7_charm_17 : decode cX7_charm 17 = .ok (.if_icmp .lt 9, 3) := by decide +kernel
theorem dX7_charm_20 : decode cX7_charm 20 = .ok (.iload_n 2, 1) := by decide +kernel
theorem dX7_charm_21 : decode cX7_charm 21 = .ok (.bipush 10, 2) := by decide +kernel
theorem dX7_charm_23 : decode cX7_charm 23 = .ok (.if_icmp .le 6, 3) := by decide +kernel
theorem dX7_charm_26 : decode cX7_charm 26 = .ok (.bipush (-2), 2) := by decide +kernel
theorem dX7_charm_28 : decode cX7_charm 28 = .ok (.ireturn, 1) := by decide +kernel
theorem dX7_charm_29 : decode cX7_charm 29 = .ok (.aload_n 0, 1) := by decide +kernel
theorem dX7_charm_30 : decode cX7_charm 30 = .ok (.getfield 25, 3) := by decide +kernel
theorem dX7_charm_33 : decode cX7_charm 33 = .ok (.aload_n 0, 1) := by decide +kernel
theorem dX7_charm_34 : decode cX7_charm 34 = .ok (.getfield 12, 3) := by decide +kernel
theorem dX7_charm_37 : decode cX7_charm 37 = .ok (.invokevirtual 63, 3) := by decide +kernel
theorem dX7_charm_40 : decode cX7_charm 40 = .ok (.aload_n 3, 1) := by decide +kernel
theorem dX7_charm_41 : decode cX7_charm 41 = .ok (.getfield 76, 3) := by decide +kernel
theorem dX7_charm_44 : decode cX7_charm 44 = .ok (.istore 4, 2) := by decide +kernel
theorem dX7_charm_46 : decode cX7_charm 46 = .ok (.iload_n 2, 1) := by decide +kernel
theorem dX7_charm_47 : decode cX7_charm 47 = .ok (.bipush 10, 2) := by decide +kernel
theorem dX7_charm_49 : decode cX7_charm 49 = .ok (.if_icmp .ne 10, 3) := by decide +kernel
theorem dX7_charm_52 : decode cX7_charm 52 = .ok (.aload_n 3, 1) := by decide +kernel
theorem dX7_charm_53 : decode cX7_charm 53 = .ok (.invokevirtual 80, 3) := by decide +kernel
theorem dX7_charm_56 : decode cX7_charm 56 = .ok (.goto 13, 3) := by decide +kernel
theorem dX7_charm_59 : decode cX7_charm 59 = .ok (.aload_n 3, 1) := by decide +kernel
theorem dX7_charm_60 : decode cX7_charm 60 = .ok (.dup, 1) := by decide +kernel
theorem dX7_charm_61 : decode cX7_charm 61 = .ok (.getfield 76, 3) := by decide +kernel
theorem dX7_charm_64 : decode cX7_charm 64 = .ok (.iload_n 2, 1) := by decide +kernel
theorem dX7_charm_65 : decode cX7_charm 65 = .ok (.iadd, 1) := by decide +kernel
theorem dX7_charm_66 : decode cX7_charm 66 = .ok (.putfield 76, 3) := by decide +kernel
theorem dX7_charm_69 : decode cX7_charm 69 = .ok (.iload 4, 2) := by decide +kernel
theorem dX7_charm_71 : decode cX7_charm 71 = .ok (.ireturn, 1) := by decide +kernel
theorem dX7_turn_0 : decode cX7_turn 0 = .ok (.iload_n 1, 1) := by decide +kernel
theorem dX7_turn_1 : decode cX7_turn 1 = .ok (.iconst 1, 1) := by decide +kernel
theorem dX7_turn_2 : decode cX7_turn 2 = .ok (.if_icmp .lt 9, 3) := by decide +kernel
theorem dX7_turn_5 : decode cX7_turn 5 = .ok (.iload_n 1, 1) := by decide +kernel
theorem dX7_turn_6 : decode cX7_turn 6 = .ok (.bipush 6, 2) := by decide +kernel
theorem dX7_turn_8 : decode cX7_turn 8 = .ok (.if_icmp .le 6, 3) := by decide +kernel
theorem dX7_turn_11 : decode cX7_turn 11 = .ok (.bipush (-2), 2) := by decide +kernel
theorem dX7_turn_13 : decode cX7_turn 13 = .ok (.ireturn, 1) := by decide +kernel
theorem dX7_turn_14 : decode cX7_turn 14 = .ok (.aload_n 0, 1) := by decide +kernel
theorem dX7_turn_15 : decode cX7_turn 15 = .ok (.getfield 12, 3) := by decide +kernel
theorem dX7_turn_18 : decode cX7_turn 18 = .ok (.invokevirtual 83, 3) := by decide +kernel
theorem dX7_turn_21 : decode cX7_turn 21 = .ok (.ifCond .eq 6, 3) := by decide +kernel
theorem dX7_turn_24 : decode cX7_turn 24 = .ok (.bipush (-4), 2) := by decide +kernel
theorem dX7_turn_26 : decode cX7_turn 26 = .ok (.ireturn, 1) := by decide +kernel
theorem dX7_turn_27 : decode cX7_turn 27 = .ok (.aload_n 0, 1) := by decide +kernel
theorem dX7_turn_28 : decode cX7_turn 28 = .ok (.getfield 25, 3) := by decide +kernel
theorem dX7_turn_31 : decode cX7_turn 31 = .ok (.aload_n 0, 1) := by decide +kernel
theorem dX7_turn_32 : decode cX7_turn 32 = .ok (.getfield 12, 3) := by decide +kernel
theorem dX7_turn_35 : decode cX7_turn 35 = .ok (.invokevirtual 63, 3) := by decide +kernel
theorem dX7_turn_38 : decode cX7_turn 38 = .ok (.aload_n 0, 1) := by decide +kernel
theorem dX7_turn_39 : decode cX7_turn 39 = .ok (.getfield 12, 3) := by decide +kernel
theorem dX7_turn_42 : decode cX7_turn 42 = .ok (.iload_n 1, 1) := by decide +kernel
theorem dX7_turn_43 : decode cX7_turn 43 = .ok (.invokevirtual 87, 3) := by decide +kernel
theorem dX7_turn_46 : decode cX7_turn 46 = .ok (.ireturn, 1) := by decide +kernel
theorem dX7_play_0 : decode cX7_play 0 = .ok (.iload_n 1, 1) := by decide +kernel
theorem dX7_play_1 : decode cX7_play 1 = .ok (.invokestatic 90, 3) := by decide +kernel
theorem dX7_play_4 : decode cX7_play 4 = .ok (.ifCond .eq 14, 3) := by decide +kernel
theorem dX7_play_7 : decode cX7_play 7 = .ok (.iload_n 2, 1) := by decide +kernel
theorem dX7_play_8 : decode cX7_play 8 = .ok (.iconst 1, 1) := by decide +kernel
theorem dX7_play_9 : decode cX7_play 9 = .ok (.if_icmp .lt 9, 3) := by decide +kernel
theorem dX7_play_12 : decode cX7_play 12 = .ok (.iload_n 2, 1) := by decide +kernel
theorem dX7_play_13 : decode cX7_play 13 = .ok (.bipush 50, 2) := by decide +kernel
theorem dX7_play_15 : decode cX7_play 15 = .ok (.if_icmp .le 6, 3) := by decide +kernel
theorem dX7_play_18 : decode cX7_play 18 = .ok (.bipush (-2), 2) := by decide +kernel
theorem dX7_play_20 : decode cX7_play 20 = .ok (.ireturn, 1) := by decide +kernel
theorem dX7_play_21 : decode cX7_play 21 = .ok (.aload_n 0, 1) := by decide +kernel
theorem dX7_play_22 : decode cX7_play 22 = .ok (.getfield 12, 3) := by decide +kernel
theorem dX7_play_25 : decode cX7_play 25 = .ok (.invokevirtual 83, 3) := by decide +kernel
theorem dX7_play_28 : decode cX7_play 28 = .ok (.ifCond .eq 6, 3) := by decide +kernel
theorem dX7_play_31 : decode cX7_play 31 = .ok (.bipush (-4), 2) := by decide +kernel
theorem dX7_play_33 : decode cX7_play 33 = .ok (.ireturn, 1) := by decide +kernel
theorem dX7_play_34 : decode cX7_play 34 = .ok (.aload_n 0, 1) := by decide +kernel
theorem dX7_play_35 : decode cX7_play 35 = .ok (.getfield 25, 3) := by decide +kernel
theorem dX7_play_38 : decode cX7_play 38 = .ok (.aload_n 0, 1) := by decide +kernel
theorem dX7_play_39 : decode cX7_play 39 = .ok (.getfield 12, 3) := by decide +kernel
theorem dX7_play_42 : decode cX7_play 42 = .ok (.invokevirtual 63, 3) := by decide +kernel
theorem dX7_play_45 : decode cX7_play 45 = .ok (.iload_n 1, 1) := by decide +kernel
theorem dX7_play_46 : decode cX7_play 46 = .ok (.istore_n 3, 1) := by decide +kernel
theorem dX7_play_47 : decode cX7_play 47 = .ok (.iconst 0, 1) := by decide +kernel
theorem dX7_play_48 : decode cX7_play 48 = .ok (.istore 4, 2) := by decide +kernel
theorem dX7_play_50 : decode cX7_play 50 = .ok (.iload 4, 2) := by decide +kernel
theorem dX7_play_52 : decode cX7_play 52 = .ok (.iload_n 2, 1) := by decide +kernel
theorem dX7_play_53 : decode cX7_play 53 = .ok (.if_icmp .ge 36, 3) := by decide +kernel
theorem dX7_play_56 : decode cX7_play 56 = .ok (.aload_n 0, 1) := by decide +kernel
theorem dX7_play_57 : decode cX7_play 57 = .ok (.getfield 12, 3) := by decide +kernel
theorem dX7_play_60 : decode cX7_play 60 = .ok (.invokevirtual 83, 3) := by decide +kernel
theorem dX7_play_63 : decode cX7_play 63 = .ok (.ifCond .ne 26, 3) := by decide +kernel
theorem dX7_play_66 : decode cX7_play 66 = .ok (.iload_n 3, 1) := by decide +kernel
theorem dX7_play_67 : decode cX7_play 67 = .ok (.invokestatic 94, 3) := by decide +kernel
theorem dX7_play_70 : decode cX7_play 70 = .ok (.istore_n 3, 1) := by decide +kernel
theorem dX7_play_71 : decode cX7_play 71 = .ok (.aload_n 0, 1) := by decide +kernel
theorem dX7_play_72 : decode cX7_play 72 = .ok (.getfield 12, 3) := by decide +kernel
theorem dX7_play_75 : decode cX7_play 75 = .ok (.iload_n 3, 1) := by decide +kernel
theorem dX7_play_76 : decode cX7_play 76 = .ok (.invokestatic 97, 3) := by decide +kernel
theorem dX7_play_79 : decode cX7_play 79 = .ok (.invokevirtual 87, 3) := by decide +kernel
theorem dX7_play_82 : decode cX7_play 82 = .ok (.pop, 1) := by decide +kernel
theorem dX7_play_83 : decode cX7_play 83 = .ok (.iinc 4 1, 3) := by decide +kernel
theorem dX7_play_86 : decode cX7_play 86 = .ok (.goto (-36), 3) := by decide +kernel
theorem dX7_play_89 : decode cX7_play 89 = .ok (.iload 4, 2) := by decide +kernel
theorem dX7_play_91 : decode cX7_play 91 = .ok (.ireturn, 1) := by decide +kernel
theorem dX7_sell_0 : decode cX7_sell 0 = .ok (.aload_n 0, 1) := by decide +kernel
theorem dX7_sell_1 : decode cX7_sell 1 = .ok (.getfield 12, 3) := by decide +kernel
theorem dX7_sell_4 : decode cX7_sell 4 = .ok (.iload_n 1, 1) := by decide +kernel
theorem dX7_sell_5 : decode cX7_sell 5 = .ok (.iload_n 2, 1) := by decide +kernel
theorem dX7_sell_6 : decode cX7_sell 6 = .ok (.iload_n 3, 1) := by decide +kernel
theorem dX7_sell_7 : decode cX7_sell 7 = .ok (.iload 4, 2) := by decide +kernel
theorem dX7_sell_9 : decode cX7_sell 9 = .ok (.invokevirtual 100, 3) := by decide +kernel
theorem dX7_sell_12 : decode cX7_sell 12 = .ok (.ifCond .ne 14, 3) := by decide +kernel
theorem dX7_sell_15 : decode cX7_sell 15 = .ok (.aload_n 0, 1) := by decide +kernel
theorem dX7_sell_16 : decode cX7_sell 16 = .ok (.getfield 25, 3) := by decide +kernel
theorem dX7_sell_19 : decode cX7_sell 19 = .ok (.aload_n 0, 1) := by decide +kernel
theorem dX7_sell_20 : decode cX7_sell 20 = .ok (.getfield 12, 3) := by decide +kernel
theorem dX7_sell_23 : decode cX7_sell 23 = .ok (.invokevirtual 63, 3) := by decide +kernel
theorem dX7_sell_26 : decode cX7_sell 26 = .ok (.aload_n 0, 1) := by decide +kernel
theorem dX7_sell_27 : decode cX7_sell 27 = .ok (.getfield 12, 3) := by decide +kernel
theorem dX7_sell_30 : decode cX7_sell 30 = .ok (.iload_n 1, 1) := by decide +kernel
theorem dX7_sell_31 : decode cX7_sell 31 = .ok (.iload_n 2, 1) := by decide +kernel
theorem dX7_sell_32 : decode cX7_sell 32 = .ok (.iload_n 3, 1) := by decide +kernel
theorem dX7_sell_33 : decode cX7_sell 33 = .ok (.iload 4, 2) := by decide +kernel
theorem dX7_sell_35 : decode cX7_sell 35 = .ok (.invokevirtual 104, 3) := by decide +kernel
theorem dX7_sell_38 : decode cX7_sell 38 = .ok (.ireturn, 1) := by decide +kernel
theorem dX7_set_0 : decode cX7_set 0 = .ok (.iload_n 1, 1) := by decide +kernel
theorem dX7_set_1 : decode cX7_set 1 = .ok (.ifCond .lt 8, 3) := by decide +kernel
theorem dX7_set_4 : decode cX7_set 4 = .ok (.iload_n 1, 1) := by decide +kernel
theorem dX7_set_5 : decode cX7_set 5 = .ok (.iconst 2, 1) := by decide +kernel
theorem dX7_set_6 : decode cX7_set 6 = .ok (.if_icmp .le 5, 3) := by decide +kernel
theorem dX7_set_9 : decode cX7_set 9 = .ok (.iconst (-1), 1) := by decide +kernel
theorem dX7_set_10 : decode cX7_set 10 = .ok (.ireturn, 1) := by decide +kernel
theorem dX7_set_11 : decode cX7_set 11 = .ok (.iload_n 2, 1) := by decide +kernel
theorem dX7_set_12 : decode cX7_set 12 = .ok (.iload_n 1, 1) := by decide +kernel
theorem dX7_set_13 : decode cX7_set 13 = .ok (.invokestatic 107, 3) := by decide +kernel
theorem dX7_set_16 : decode cX7_set 16 = .ok (.if_icmp .lt 11, 3) := by decide +kernel
theorem dX7_set_19 : decode cX7_set 19 = .ok (.iload_n 2, 1) := by decide +kernel
theorem dX7_set_20 : decode cX7_set 20 = .ok (.iload_n 1, 1) := by decide +kernel
theorem dX7_set_21 : decode cX7_set 21 = .ok (.invokestatic 110, 3) := by decide +kernel
theorem dX7_set_24 : decode cX7_set 24 = .ok (.if_icmp .le 6, 3) := by decide +kernel
theorem dX7_set_27 : decode cX7_set 27 = .ok (.bipush (-2), 2) := by decide +kernel
theorem dX7_set_29 : decode cX7_set 29 = .ok (.ireturn, 1) := by decide +kernel
theorem dX7_set_30 : decode cX7_set 30 = .ok (.aload_n 0, 1) := by decide +kernel
theorem dX7_set_31 : decode cX7_set 31 = .ok (.getfield 25, 3) := by decide +kernel
theorem dX7_set_34 : decode cX7_set 34 = .ok (.aload_n 0, 1) := by decide +kernel
theorem dX7_set_35 : decode cX7_set 35 = .ok (.getfield 12, 3) := by decide +kernel
theorem dX7_set_38 : decode cX7_set 38 = .ok (.invokevirtual 63, 3) := by decide +kernel
theorem dX7_set_41 : decode cX7_set 41 = .ok (.aload_n 0, 1) := by decide +kernel
theorem dX7_set_42 : decode cX7_set 42 = .ok (.getfield 12, 3) := by decide +kernel
theorem dX7_set_45 : decode cX7_set 45 = .ok (.iload_n 1, 1) := by decide +kernel
theorem dX7_set_46 : decode cX7_set 46 = .ok (.invokevirtual 113, 3) := by decide +kernel
theorem dX7_set_49 : decode cX7_set 49 = .ok (.istore_n 3, 1) := by decide +kernel
theorem dX7_set_50 : decode cX7_set 50 = .ok (.aload_n 0, 1) := by decide +kernel
theorem dX7_set_51 : decode cX7_set 51 = .ok (.getfield 12, 3) := by decide +kernel
theorem dX7_set_54 : decode cX7_set 54 = .ok (.iload_n 1, 1) := by decide +kernel
theorem dX7_set_55 : decode cX7_set 55 = .ok (.iload_n 2, 1) := by decide +kernel
theorem dX7_set_56 : decode cX7_set 56 = .ok (.invokevirtual 116, 3) := by decide +kernel
theorem dX7_set_59 : decode cX7_set 59 = .ok (.iload_n 3, 1) := by decide +kernel
theorem dX7_set_60 : decode cX7_set 60 = .ok (.ireturn, 1) := by decide +kernel
theorem dX7_undo_0 : decode cX7_undo 0 = .ok (.aload_n 0, 1) := by decide +kernel
theorem dX7_undo_1 : decode cX7_undo 1 = .ok (.getfield 25, 3) := by decide +kernel
theorem dX7_undo_4 : decode cX7_undo 4 = .ok (.aload_n 0, 1) := by decide +kernel
theorem dX7_undo_5 : decode cX7_undo 5 = .ok (.getfield 12, 3) := by decide +kernel
theorem dX7_undo_8 : decode cX7_undo 8 = .ok (.invokevirtual 132, 3) := by decide +kernel
theorem dX7_undo_11 : decode cX7_undo 11 = .ok (.ireturn, 1) := by decide +kernel
theorem dX7_player_0 : decode cX7_player 0 = .ok (.aload_n 0, 1) := by decide +kernel
theorem dX7_player_1 : decode cX7_player 1 = .ok (.getfield 12, 3) := by decide +kernel
theorem dX7_player_4 : decode cX7_player 4 = .ok (.iload_n 1, 1) := by decide +kernel
theorem dX7_player_5 : decode cX7_player 5 = .ok (.invokevirtual 141, 3) := by decide +kernel
theorem dX7_player_8 : decode cX7_player 8 = .ok (.astore_n 3, 1) := by decide +kernel
theorem dX7_player_9 : decode cX7_player 9 = .ok (.aload_n 3, 1) := by decide +kernel
theorem dX7_player_10 : decode cX7_player 10 = .ok (.ifnonnull 5, 3) := by decide +kernel
theorem dX7_player_13 : decode cX7_player 13 = .ok (.iconst (-1), 1) := by decide +kernel
theorem dX7_player_14 : decode cX7_player 14 = .ok (.ireturn, 1) := by decide +kernel
theorem dX7_player_15 : decode cX7_player 15 = .ok (.iload_n 2, 1) := by decide +kernel
theorem dX7_player_16 : decode cX7_player 16 = .ok (.tableswitch 92 0 7 #[48, 53, 62, 67, 72, 77, 82, 87], 48) := by decide +kernel
theorem dX7_player_64 : decode cX7_player 64 = .ok (.aload_n 3, 1) := by decide +kernel
theorem dX7_player_65 : decode cX7_player 65 = .ok (.getfield 145, 3) := by decide +kernel
theorem dX7_player_68 : decode cX7_player 68 = .ok (.ireturn, 1) := by decide +kernel
theorem dX7_player_69 : decode cX7_player 69 = .ok (.aload_n 3, 1) := by decide +kernel
theorem dX7_player_70 : decode cX7_player 70 = .ok (.getfield 150, 3) := by decide +kernel
theorem dX7_player_73 : decode cX7_player 73 = .ok (.sipush 1000, 3) := by decide +kernel
theorem dX7_player_76 : decode cX7_player 76 = .ok (.iadd, 1) := by decide +kernel
theorem dX7_player_77 : decode cX7_player 77 = .ok (.ireturn, 1) := by decide +kernel
theorem dX7_player_78 : decode cX7_player 78 = .ok (.aload_n 3, 1) := by decide +kernel
theorem dX7_player_79 : decode cX7_player 79 = .ok (.getfield 153, 3) := by decide +kernel
theorem dX7_player_82 : decode cX7_player 82 = .ok (.ireturn, 1) := by decide +kernel
theorem dX7_player_83 : decode cX7_player 83 = .ok (.aload_n 3, 1) := by decide +kernel
theorem dX7_player_84 : decode cX7_player 84 = .ok (.invokevirtual 156, 3) := by decide +kernel
theorem dX7_player_87 : decode cX7_player 87 = .ok (.ireturn, 1) := by decide +kernel
theorem dX7_player_88 : decode cX7_player 88 = .ok (.aload_n 3, 1) := by decide +kernel
theorem dX7_player_89 : decode cX7_player 89 = .ok (.invokevirtual 159, 3) := by decide +kernel
theorem dX7_player_92 : decode cX7_player 92 = .ok (.ireturn, 1) := by decide +kernel
theorem dX7_player_93 : decode cX7_player 93 = .ok (.aload_n 3, 1) := by decide +kernel
theorem dX7_player_94 : decode cX7_player 94 = .ok (.getfield 162, 3) := by decide +kernel
theorem dX7_player_97 : decode cX7_player 97 = .ok (.ireturn, 1) := by decide +kernel
theorem dX7_player_98 : decode cX7_player 98 = .ok (.aload_n 3, 1) := by decide +kernel
theorem dX7_player_99 : decode cX7_player 99 = .ok (.getfield 165, 3) := by decide +kernel
theorem dX7_player_102 : decode cX7_player 102 = .ok (.ireturn, 1) := by decide +kernel
theorem dX7_player_103 : decode cX7_player 103 = .ok (.aload_n 3, 1) := by decide +kernel
theorem dX7_player_104 : decode cX7_player 104 = .ok (.getfield 168, 3) := by decide +kernel
theorem dX7_player_107 : decode cX7_player 107 = .ok (.ireturn, 1) := by decide +kernel
theorem dX7_player_108 : decode cX7_player 108 = .ok (.bipush (-2), 2) := by decide +kernel
theorem dX7_player_110 : decode cX7_player 110 = .ok (.ireturn, 1) := by decide +kernel
theorem dX7_bite_0 : decode cX7_bite 0 = .ok (.aload_n 0, 1) := by decide +kernel
theorem dX7_bite_1 : decode cX7_bite 1 = .ok (.getfield 12, 3) := by decide +kernel
theorem dX7_bite_4 : decode cX7_bite 4 = .ok (.iload_n 1, 1) := by decide +kernel
theorem dX7_bite_5 : decode cX7_bite 5 = .ok (.iload_n 2, 1) := by decide +kernel
theorem dX7_bite_6 : decode cX7_bite 6 = .ok (.invokevirtual 171, 3) := by decide +kernel
theorem dX7_bite_9 : decode cX7_bite 9 = .ok (.astore 4, 2) := by decide +kernel
theorem dX7_bite_11 : decode cX7_bite 11 = .ok (.aload 4, 2) := by decide +kernel
theorem dX7_bite_13 : decode cX7_bite 13 = .ok (.ifnonnull 5, 3) := by decide +kernel
theorem dX7_bite_16 : decode cX7_bite 16 = .ok (.iconst (-1), 1) := by decide +kernel
theorem dX7_bite_17 : decode cX7_bite 17 = .ok (.ireturn, 1) := by decide +kernel
theorem dX7_bite_18 : decode cX7_bite 18 = .ok (.iload_n 3, 1) := by decide +kernel
theorem dX7_bite_19 : decode cX7_bite 19 = .ok (.tableswitch 53 0 3 #[29, 35, 41, 47], 29) := by decide +kernel
theorem dX7_bite_48 : decode cX7_bite 48 = .ok (.aload 4, 2) := by decide +kernel
theorem dX7_bite_50 : decode cX7_bite 50 = .ok (.getfield 175, 3) := by decide +kernel
theorem dX7_bite_53 : decode cX7_bite 53 = .ok (.ireturn, 1) := by decide +kernel
theorem dX7_bite_54 : decode cX7_bite 54 = .ok (.aload 4, 2) := by decide +kernel
theorem dX7_bite_56 : decode cX7_bite 56 = .ok (.getfield 180, 3) := by decide +kernel
theorem dX7_bite_59 : decode cX7_bite 59 = .ok (.ireturn, 1) := by decide +kernel
theorem dX7_bite_60 : decode cX7_bite 60 = .ok (.aload 4, 2) := by decide +kernel
theorem dX7_bite_62 : decode cX7_bite 62 = .ok (.getfield 183, 3) := by decide +kernel
theorem dX7_bite_65 : decode cX7_bite 65 = .ok (.ireturn, 1) := by decide +kernel
theorem dX7_bite_66 : decode cX7_bite 66 = .ok (.aload 4, 2) := by decide +kernel
theorem dX7_bite_68 : decode cX7_bite 68 = .ok (.getfield 186, 3) := by decide +kernel
theorem dX7_bite_71 : decode cX7_bite 71 = .ok (.ireturn, 1) := by decide +kernel
theorem dX7_bite_72 : decode cX7_bite 72 = .ok (.bipush (-2), 2) := by decide +kernel
theorem dX7_bite_74 : decode cX7_bite 74 = .ok (.ireturn, 1) := by decide +kernel
theorem dX7_snakeOf_0 : decode cX7_snakeOf 0 = .ok (.aload_n 0, 1) := by decide +kernel
theorem dX7_snakeOf_1 : decode cX7_snakeOf 1 = .ok (.getfield 12, 3) := by decide +kernel
theorem dX7_snakeOf_4 : decode cX7_snakeOf 4 = .ok (.iload_n 1, 1) := by decide +kernel
theorem dX7_snakeOf_5 : decode cX7_snakeOf 5 = .ok (.invokevirtual 73, 3) := by decide +kernel
theorem dX7_snakeOf_8 : decode cX7_snakeOf 8 = .ok (.astore_n 3, 1) := by decide +kernel
theorem dX7_snakeOf_9 : decode cX7_snakeOf 9 = .ok (.aload_n 3, 1) := by decide +kernel
theorem dX7_snakeOf_10 : decode cX7_snakeOf 10 = .ok (.ifnonnull 5, 3) := by decide +kernel
theorem dX7_snakeOf_13 : decode cX7_snakeOf 13 = .ok (.iconst (-1), 1) := by decide +kernel
theorem dX7_snakeOf_14 : decode cX7_snakeOf 14 = .ok (.ireturn, 1) := by decide +kernel
theorem dX7_snakeOf_15 : decode cX7_snakeOf 15 = .ok (.iload_n 2, 1) := by decide +kernel
theorem dX7_snakeOf_16 : decode cX7_snakeOf 16 = .ok (.tableswitch 52 0 3 #[32, 37, 42, 47], 32) := by decide +kernel
theorem dX7_snakeOf_48 : decode cX7_snakeOf 48 = .ok (.aload_n 3, 1) := by decide +kernel
theorem dX7_snakeOf_49 : decode cX7_snakeOf 49 = .ok (.getfield 189, 3) := by decide +kernel
theorem dX7_snakeOf_52 : decode cX7_snakeOf 52 = .ok (.ireturn, 1) := by decide +kernel
theorem dX7_snakeOf_53 : decode cX7_snakeOf 53 = .ok (.aload_n 3, 1) := by decide +kernel
theorem dX7_snakeOf_54 : decode cX7_snakeOf 54 = .ok (.getfield 192, 3) := by decide +kernel
theorem dX7_snakeOf_57 : decode cX7_snakeOf 57 = .ok (.ireturn, 1) := by decide +kernel
theorem dX7_snakeOf_58 : decode cX7_snakeOf 58 = .ok (.aload_n 3, 1) := by decide +kernel
theorem dX7_snakeOf_59 : decode cX7_snakeOf 59 = .ok (.getfield 76, 3) := by decide +kernel
theorem dX7_snakeOf_62 : decode cX7_snakeOf 62 = .ok (.ireturn, 1) := by decide +kernel
theorem dX7_snakeOf_63 : decode cX7_snakeOf 63 = .ok (.aload_n 3, 1) := by decide +kernel
theorem dX7_snakeOf_64 : decode cX7_snakeOf 64 = .ok (.getfield 195, 3) := by decide +kernel
theorem dX7_snakeOf_67 : decode cX7_snakeOf 67 = .ok (.ireturn, 1) := by decide +kernel
theorem dX7_snakeOf_68 : decode cX7_snakeOf 68 = .ok (.bipush (-2), 2) := by decide +kernel
theorem dX7_snakeOf_70 : decode cX7_snakeOf 70 = .ok (.ireturn, 1) := by decide +kernel
theorem dX7_square_0 : decode cX7_square 0 = .ok (.iload_n 1, 1) := by decide +kernel
theorem dX7_square_1 : decode cX7_square 1 = .ok (.ifCond .lt 9, 3) := by decide +kernel
theorem dX7_square_4 : decode cX7_square 4 = .ok (.iload_n 1, 1) := by decide +kernel
theorem dX7_square_5 : decode cX7_square 5 = .ok (.bipush 60, 2) := by decide +kernel
theorem dX7_square_7 : decode cX7_square 7 = .ok (.if_icmp .le 6, 3) := by decide +kernel
theorem dX7_square_10 : decode cX7_square 10 = .ok (.bipush (-2), 2) := by decide +kernel
theorem dX7_square_12 : decode cX7_square 12 = .ok (.ireturn, 1) := by decide +kernel
theorem dX7_square_13 : decode cX7_square 13 = .ok (.iload_n 2, 1) := by decide +kernel
theorem dX7_square_14 : decode cX7_square 14 = .ok (.tableswitch 53 0 2 #[26, 35, 44], 26) := by decide +kernel
theorem dX7_square_40 : decode cX7_square 40 = .ok (.aload_n 0, 1) := by decide +kernel
theorem dX7_square_41 : decode cX7_square 41 = .ok (.getfield 12, 3) := by decide +kernel
theorem dX7_square_44 : decode cX7_square 44 = .ok (.iload_n 1, 1) := by decide +kernel
theorem dX7_square_45 : decode cX7_square 45 = .ok (.invokevirtual 198, 3) := by decide +kernel
theorem dX7_square_48 : decode cX7_square 48 = .ok (.ireturn, 1) := by decide +kernel
theorem dX7_square_49 : decode cX7_square 49 = .ok (.aload_n 0, 1) := by decide +kernel
theorem dX7_square_50 : decode cX7_square 50 = .ok (.getfield 12, 3) := by decide +kernel
theorem dX7_square_53 : decode cX7_square 53 = .ok (.iload_n 1, 1) := by decide +kernel
theorem dX7_square_54 : decode cX7_square 54 = .ok (.invokevirtual 51, 3) := by decide +kernel
theorem dX7_square_57 : decode cX7_square 57 = .ok (.ireturn, 1) := by decide +kernel
theorem dX7_square_58 : decode cX7_square 58 = .ok (.aload_n 0, 1) := by decide +kernel
theorem dX7_square_59 : decode cX7_square 59 = .ok (.getfield 12, 3) := by decide +kernel
theorem dX7_square_62 : decode cX7_square 62 = .ok (.iload_n 1, 1) := by decide +kernel
theorem dX7_square_63 : decode cX7_square 63 = .ok (.invokevirtual 201, 3) := by decide +kernel
theorem dX7_square_66 : decode cX7_square 66 = .ok (.ireturn, 1) := by decide +kernel
theorem dX7_square_67 : decode cX7_square 67 = .ok (.bipush (-2), 2) := by decide +kernel
theorem dX7_square_69 : decode cX7_square 69 = .ok (.ireturn, 1) := by decide +kernel
theorem dX7_count_0 : decode cX7_count 0 = .ok (.iload_n 1, 1) := by decide +kernel
theorem dX7_count_1 : decode cX7_count 1 = .ok (.tableswitch 174 0 12 #[67, 75, 83, 91, 99, 107, 115, 123, 131, 140, 149, 158, 166], 67) := by decide +kernel
theorem dX7_count_68 : decode cX7_count 68 = .ok (.aload_n 0, 1) := by decide +kernel
