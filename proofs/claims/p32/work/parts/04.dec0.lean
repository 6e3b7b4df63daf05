theorem dX0_init_0 : decode cX0_init 0 = .ok (.aload_n 0, 1) := by decide +kernel
theorem dX0_init_1 : decode cX0_init 1 = .ok (.invokespecial 3, 3) := by decide +kernel
theorem dX0_init_4 : decode cX0_init 4 = .ok (.aload_n 0, 1) := by decide +kernel
theorem dX0_init_5 : decode cX0_init 5 = .ok (.iconst 4, 1) := by decide +kernel
theorem dX0_init_6 : decode cX0_init 6 = .ok (.newarray .int, 2) := by decide +kernel
theorem dX0_init_8 : decode cX0_init 8 = .ok (.putfield 9, 3) := by decide +kernel
theorem dX0_init_11 : decode cX0_init 11 = .ok (.aload_n 0, 1) := by decide +kernel
theorem dX0_init_12 : decode cX0_init 12 = .ok (.iconst 4, 1) := by decide +kernel
theorem dX0_init_13 : decode cX0_init 13 = .ok (.newarray .int, 2) := by decide +kernel
theorem dX0_init_15 : decode cX0_init 15 = .ok (.putfield 15, 3) := by decide +kernel
theorem dX0_init_18 : decode cX0_init 18 = .ok (.aload_n 0, 1) := by decide +kernel
theorem dX0_init_19 : decode cX0_init 19 = .ok (.iconst 4, 1) := by decide +kernel
theorem dX0_init_20 : decode cX0_init 20 = .ok (.newarray .int, 2) := by decide +kernel
theorem dX0_init_22 : decode cX0_init 22 = .ok (.putfield 18, 3) := by decide +kernel
theorem dX0_init_25 : decode cX0_init 25 = .ok (.aload_n 0, 1) := by decide +kernel
theorem dX0_init_26 : decode cX0_init 26 = .ok (.iconst 0, 1) := by decide +kernel
theorem dX0_init_27 : decode cX0_init 27 = .ok (.putfield 21, 3) := by decide +kernel
theorem dX0_init_30 : decode cX0_init 30 = .ok (.return_, 1) := by decide +kernel
theorem dX0_install_0 : decode cX0_install 0 = .ok (.aload_n 0, 1) := by decide +kernel
theorem dX0_install_1 : decode cX0_install 1 = .ok (.getfield 21, 3) := by decide +kernel
theorem dX0_install_4 : decode cX0_install 4 = .ok (.istore 4, 2) := by decide +kernel
theorem dX0_install_6 : decode cX0_install 6 = .ok (.iload 4, 2) := by decide +kernel
theorem dX0_install_8 : decode cX0_install 8 = .ok (.iconst 4, 1) := by decide +kernel
theorem dX0_install_9 : decode cX0_install 9 = .ok (.if_icmp .lt 5, 3) := by decide +kernel
theorem dX0_install_12 : decode cX0_install 12 = .ok (.iconst (-1), 1) := by decide +kernel
theorem dX0_install_13 : decode cX0_install 13 = .ok (.ireturn, 1) := by decide +kernel
theorem dX0_install_14 : decode cX0_install 14 = .ok (.aload_n 0, 1) := by decide +kernel
theorem dX0_install_15 : decode cX0_install 15 = .ok (.getfield 9, 3) := by decide +kernel
theorem dX0_install_18 : decode cX0_install 18 = .ok (.iload 4, 2) := by decide +kernel
theorem dX0_install_20 : decode cX0_install 20 = .ok (.iload_n 1, 1) := by decide +kernel
theorem dX0_install_21 : decode cX0_install 21 = .ok (.iastore, 1) := by decide +kernel
theorem dX0_install_22 : decode cX0_install 22 = .ok (.aload_n 0, 1) := by decide +kernel
theorem dX0_install_23 : decode cX0_install 23 = .ok (.getfield 15, 3) := by decide +kernel
theorem dX0_install_26 : decode cX0_install 26 = .ok (.iload 4, 2) := by decide +kernel
theorem dX0_install_28 : decode cX0_install 28 = .ok (.iload_n 2, 1) := by decide +kernel
theorem dX0_install_29 : decode cX0_install 29 = .ok (.iastore, 1) := by decide +kernel
theorem dX0_install_30 : decode cX0_install 30 = .ok (.aload_n 0, 1) := by decide +kernel
theorem dX0_install_31 : decode cX0_install 31 = .ok (.getfield 18, 3) := by decide +kernel
theorem dX0_install_34 : decode cX0_install 34 = .ok (.iload 4, 2) := by decide +kernel
theorem dX0_install_36 : decode cX0_install 36 = .ok (.iload_n 3, 1) := by decide +kernel
theorem dX0_install_37 : decode cX0_install 37 = .ok (.iastore, 1) := by decide +kernel
theorem dX0_install_38 : decode cX0_install 38 = .ok (.aload_n 0, 1) := by decide +kernel
theorem dX0_install_39 : decode cX0_install 39 = .ok (.iload 4, 2) := by decide +kernel
theorem dX0_install_41 : decode cX0_install 41 = .ok (.iconst 1, 1) := by decide +kernel
theorem dX0_install_42 : decode cX0_install 42 = .ok (.iadd, 1) := by decide +kernel
theorem dX0_install_43 : decode cX0_install 43 = .ok (.putfield 21, 3) := by decide +kernel
theorem dX0_install_46 : decode cX0_install 46 = .ok (.iload 4, 2) := by decide +kernel
theorem dX0_install_48 : decode cX0_install 48 = .ok (.ireturn, 1) := by decide +kernel
theorem dX0_copyFrom_0 : decode cX0_copyFrom 0 = .ok (.aload_n 1, 1) := by decide +kernel
theorem dX0_copyFrom_1 : decode cX0_copyFrom 1 = .ok (.getfield 9, 3) := by decide +kernel
theorem dX0_copyFrom_4 : decode cX0_copyFrom 4 = .ok (.aload_n 0, 1) := by decide +kernel
theorem dX0_copyFrom_5 : decode cX0_copyFrom 5 = .ok (.getfield 9, 3) := by decide +kernel
theorem dX0_copyFrom_8 : decode cX0_copyFrom 8 = .ok (.invokestatic 25, 3) := by decide +kernel
theorem dX0_copyFrom_11 : decode cX0_copyFrom 11 = .ok (.aload_n 1, 1) := by decide +kernel
theorem dX0_copyFrom_12 : decode cX0_copyFrom 12 = .ok (.getfield 15, 3) := by decide +kernel
theorem dX0_copyFrom_15 : decode cX0_copyFrom 15 = .ok (.aload_n 0, 1) := by decide +kernel
theorem dX0_copyFrom_16 : decode cX0_copyFrom 16 = .ok (.getfield 15, 3) := by decide +kernel
theorem dX0_copyFrom_19 : decode cX0_copyFrom 19 = .ok (.invokestatic 25, 3) := by decide +kernel
theorem dX0_copyFrom_22 : decode cX0_copyFrom 22 = .ok (.aload_n 1, 1) := by decide +kernel
theorem dX0_copyFrom_23 : decode cX0_copyFrom 23 = .ok (.getfield 18, 3) := by decide +kernel
theorem dX0_copyFrom_26 : decode cX0_copyFrom 26 = .ok (.aload_n 0, 1) := by decide +kernel
theorem dX0_copyFrom_27 : decode cX0_copyFrom 27 = .ok (.getfield 18, 3) := by decide +kernel
theorem dX0_copyFrom_30 : decode cX0_copyFrom 30 = .ok (.invokestatic 25, 3) := by decide +kernel
theorem dX0_copyFrom_33 : decode cX0_copyFrom 33 = .ok (.aload_n 0, 1) := by decide +kernel
theorem dX0_copyFrom_34 : decode cX0_copyFrom 34 = .ok (.aload_n 1, 1) := by decide +kernel
theorem dX0_copyFrom_35 : decode cX0_copyFrom 35 = .ok (.getfield 21, 3) := by decide +kernel
theorem dX0_copyFrom_38 : decode cX0_copyFrom 38 = .ok (.putfield 21, 3) := by decide +kernel
theorem dX0_copyFrom_41 : decode cX0_copyFrom 41 = .ok (.return_, 1) := by decide +kernel
theorem dX0_placeOf_0 : decode cX0_placeOf 0 = .ok (.iconst 0, 1) := by decide +kernel
theorem dX0_placeOf_1 : decode cX0_placeOf 1 = .ok (.istore_n 2, 1) := by decide +kernel
theorem dX0_placeOf_2 : decode cX0_placeOf 2 = .ok (.iconst 0, 1) := by decide +kernel
theorem dX0_placeOf_3 : decode cX0_placeOf 3 = .ok (.istore_n 3, 1) := by decide +kernel
theorem dX0_placeOf_4 : decode cX0_placeOf 4 = .ok (.iload_n 3, 1) := by decide +kernel
theorem dX0_placeOf_5 : decode cX0_placeOf 5 = .ok (.aload_n 0, 1) := by decide +kernel
theorem dX0_placeOf_6 : decode cX0_placeOf 6 = .ok (.getfield 21, 3) := by decide +kernel
theorem dX0_placeOf_9 : decode cX0_placeOf 9 = .ok (.if_icmp .ge 47, 3) := by decide +kernel
theorem dX0_placeOf_12 : decode cX0_placeOf 12 = .ok (.aload_n 0, 1) := by decide +kernel
theorem dX0_placeOf_13 : decode cX0_placeOf 13 = .ok (.getfield 18, 3) := by decide +kernel
theorem dX0_placeOf_16 : decode cX0_placeOf 16 = .ok (.iload_n 3, 1) := by decide +kernel
theorem dX0_placeOf_17 : decode cX0_placeOf 17 = .ok (.iaload, 1) := by decide +kernel
theorem dX0_placeOf_18 : decode cX0_placeOf 18 = .ok (.aload_n 0, 1) := by decide +kernel
theorem dX0_placeOf_19 : decode cX0_placeOf 19 = .ok (.getfield 18, 3) := by decide +kernel
theorem dX0_placeOf_22 : decode cX0_placeOf 22 = .ok (.iload_n 1, 1) := by decide +kernel
theorem dX0_placeOf_23 : decode cX0_placeOf 23 = .ok (.iaload, 1) := by decide +kernel
theorem dX0_placeOf_24 : decode cX0_placeOf 24 = .ok (.if_icmp .lt 23, 3) := by decide +kernel
theorem dX0_placeOf_27 : decode cX0_placeOf 27 = .ok (.aload_n 0, 1) := by decide +kernel
theorem dX0_placeOf_28 : decode cX0_placeOf 28 = .ok (.getfield 18, 3) := by decide +kernel
theorem dX0_placeOf_31 : decode cX0_placeOf 31 = .ok (.iload_n 3, 1) := by decide +kernel
theorem dX0_placeOf_32 : decode cX0_placeOf 32 = .ok (.iaload, 1) := by decide +kernel
theorem dX0_placeOf_33 : decode cX0_placeOf 33 = .ok (.aload_n 0, 1) := by decide +kernel
theorem dX0_placeOf_34 : decode cX0_placeOf 34 = .ok (.getfield 18, 3) := by decide +kernel
theorem dX0_placeOf_37 : decode cX0_placeOf 37 = .ok (.iload_n 1, 1) := by decide +kernel
theorem dX0_placeOf_38 : decode cX0_placeOf 38 = .ok (.iaload, 1) := by decide +kernel
theorem dX0_placeOf_39 : decode cX0_placeOf 39 = .ok (.if_icmp .ne 11, 3) := by decide +kernel
theorem dX0_placeOf_42 : decode cX0_placeOf 42 = .ok (.iload_n 3, 1) := by decide +kernel
theorem dX0_placeOf_43 : decode cX0_placeOf 43 = .ok (.iload_n 1, 1) := by decide +kernel
theorem dX0_placeOf_44 : decode cX0_placeOf 44 = .ok (.if_icmp .ge 6, 3) := by decide +kernel
theorem dX0_placeOf_47 : decode cX0_placeOf 47 = .ok (.iinc 2 1, 3) := by decide +kernel
theorem dX0_placeOf_50 : decode cX0_placeOf 50 = .ok (.iinc 3 1, 3) := by decide +kernel
theorem dX0_placeOf_53 : decode cX0_placeOf 53 = .ok (.goto (-49), 3) := by decide +kernel
theorem dX0_placeOf_56 : decode cX0_placeOf 56 = .ok (.iload_n 2, 1) := by decide +kernel
theorem dX0_placeOf_57 : decode cX0_placeOf 57 = .ok (.ireturn, 1) := by decide +kernel
theorem dX0_atPlace_0 : decode cX0_atPlace 0 = .ok (.iconst 0, 1) := by decide +kernel
theorem dX0_atPlace_1 : decode cX0_atPlace 1 = .ok (.istore_n 2, 1) := by decide +kernel
theorem dX0_atPlace_2 : decode cX0_atPlace 2 = .ok (.iload_n 2, 1) := by decide +kernel
theorem dX0_atPlace_3 : decode cX0_atPlace 3 = .ok (.aload_n 0, 1) := by decide +kernel
theorem dX0_atPlace_4 : decode cX0_atPlace 4 = .ok (.getfield 21, 3) := by decide +kernel
theorem dX0_atPlace_7 : decode cX0_atPlace 7 = .ok (.if_icmp .ge 20, 3) := by decide +kernel
theorem dX0_atPlace_10 : decode cX0_atPlace 10 = .ok (.aload_n 0, 1) := by decide +kernel
theorem dX0_atPlace_11 : decode cX0_atPlace 11 = .ok (.iload_n 2, 1) := by decide +kernel
theorem dX0_atPlace_12 : decode cX0_atPlace 12 = .ok (.invokevirtual 29, 3) := by decide +kernel
theorem dX0_atPlace_15 : decode cX0_atPlace 15 = .ok (.iload_n 1, 1) := by decide +kernel
theorem dX0_atPlace_16 : decode cX0_atPlace 16 = .ok (.if_icmp .ne 5, 3) := by decide +kernel
theorem dX0_atPlace_19 : decode cX0_atPlace 19 = .ok (.iload_n 2, 1) := by decide +kernel
theorem dX0_atPlace_20 : decode cX0_atPlace 20 = .ok (.ireturn, 1) := by decide +kernel
theorem dX0_atPlace_21 : decode cX0_atPlace 21 = .ok (.iinc 2 1, 3) := by decide +kernel
theorem dX0_atPlace_24 : decode cX0_atPlace 24 = .ok (.goto (-22), 3) := by decide +kernel
theorem dX0_atPlace_27 : decode cX0_atPlace 27 = .ok (.iconst (-1), 1) := by decide +kernel
theorem dX0_atPlace_28 : decode cX0_atPlace 28 = .ok (.ireturn, 1) := by decide +kernel
theorem dX1_init_0 : decode cX1_init 0 = .ok (.aload_n 0, 1) := by decide +kernel
theorem dX1_init_1 : decode cX1_init 1 = .ok (.invokespecial 3, 3) := by decide +kernel
theorem dX1_init_4 : decode cX1_init 4 = .ok (.aload_n 0, 1) := by decide +kernel
theorem dX1_init_5 : decode cX1_init 5 = .ok (.iconst 4, 1) := by decide +kernel
theorem dX1_init_6 : decode cX1_init 6 = .ok (.anewarray 9, 3) := by decide +kernel
theorem dX1_init_9 : decode cX1_init 9 = .ok (.putfield 11, 3) := by decide +kernel
theorem dX1_init_12 : decode cX1_init 12 = .ok (.aload_n 0, 1) := by decide +kernel
theorem dX1_init_13 : decode cX1_init 13 = .ok (.iconst 0, 1) := by decide +kernel
theorem dX1_init_14 : decode cX1_init 14 = .ok (.putfield 17, 3) := by decide +kernel
theorem dX1_init_17 : decode cX1_init 17 = .ok (.aload_n 0, 1) := by decide +kernel
theorem dX1_init_18 : decode cX1_init 18 = .ok (.iconst 0, 1) := by decide +kernel
theorem dX1_init_19 : decode cX1_init 19 = .ok (.putfield 21, 3) := by decide +kernel
theorem dX1_init_22 : decode cX1_init 22 = .ok (.iconst 0, 1) := by decide +kernel
theorem dX1_init_23 : decode cX1_init 23 = .ok (.istore_n 1, 1) := by decide +kernel
theorem dX1_init_24 : decode cX1_init 24 = .ok (.iload_n 1, 1) := by decide +kernel
theorem dX1_init_25 : decode cX1_init 25 = .ok (.iconst 4, 1) := by decide +kernel
theorem dX1_init_26 : decode cX1_init 26 = .ok (.if_icmp .ge 22, 3) := by decide +kernel
theorem dX1_init_29 : decode cX1_init 29 = .ok (.aload_n 0, 1) := by decide +kernel
theorem dX1_init_30 : decode cX1_init 30 = .ok (.getfield 11, 3) := by decide +kernel
theorem dX1_init_33 : decode cX1_init 33 = .ok (.iload_n 1, 1) := by decide +kernel
theorem dX1_init_34 : decode cX1_init 34 = .ok (.new 9, 3) := by decide +kernel
theorem dX1_init_37 : decode cX1_init 37 = .ok (.dup, 1) := by decide +kernel
theorem dX1_init_38 : decode cX1_init 38 = .ok (.invokespecial 24, 3) := by decide +kernel
theorem dX1_init_41 : decode cX1_init 41 = .ok (.aastore, 1) := by decide +kernel
theorem dX1_init_42 : decode cX1_init 42 = .ok (.iinc 1 1, 3) := by decide +kernel
theorem dX1_init_45 : decode cX1_init 45 = .ok (.goto (-21), 3) := by decide +kernel
theorem dX1_init_48 : decode cX1_init 48 = .ok (.return_, 1) := by decide +kernel
theorem dX1_slot_0 : decode cX1_slot 0 = .ok (.aload_n 0, 1) := by decide +kernel
theorem dX1_slot_1 : decode cX1_slot 1 = .ok (.getfield 17, 3) := by decide +kernel
theorem dX1_slot_4 : decode cX1_slot 4 = .ok (.iload_n 1, 1) := by decide +kernel
theorem dX1_slot_5 : decode cX1_slot 5 = .ok (.iadd, 1) := by decide +kernel
theorem dX1_slot_6 : decode cX1_slot 6 = .ok (.iconst 4, 1) := by decide +kernel
theorem dX1_slot_7 : decode cX1_slot 7 = .ok (.irem, 1) := by decide +kernel
theorem dX1_slot_8 : decode cX1_slot 8 = .ok (.istore_n 2, 1) := by decide +kernel
theorem dX1_slot_9 : decode cX1_slot 9 = .ok (.iload_n 2, 1) := by decide +kernel
theorem dX1_slot_10 : decode cX1_slot 10 = .ok (.ifCond .lt 12, 3) := by decide +kernel
theorem dX1_slot_13 : decode cX1_slot 13 = .ok (.aload_n 0, 1) := by decide +kernel
theorem dX1_slot_14 : decode cX1_slot 14 = .ok (.getfield 11, 3) := by decide +kernel
theorem dX1_slot_17 : decode cX1_slot 17 = .ok (.iload_n 2, 1) := by decide +kernel
theorem dX1_slot_18 : decode cX1_slot 18 = .ok (.aaload, 1) := by decide +kernel
theorem dX1_slot_19 : decode cX1_slot 19 = .ok (.goto 4, 3) := by decide +kernel
theorem dX1_slot_22 : decode cX1_slot 22 = .ok (.aconst_null, 1) := by decide +kernel
theorem dX1_slot_23 : decode cX1_slot 23 = .ok (.areturn, 1) := by decide +kernel
theorem dX1_keep_0 : decode cX1_keep 0 = .ok (.aload_n 0, 1) := by decide +kernel
theorem dX1_keep_1 : decode cX1_keep 1 = .ok (.aload_n 0, 1) := by decide +kernel
theorem dX1_keep_2 : decode cX1_keep 2 = .ok (.getfield 21, 3) := by decide +kernel
theorem dX1_keep_5 : decode cX1_keep 5 = .ok (.invokevirtual 25, 3) := by decide +kernel
theorem dX1_keep_8 : decode cX1_keep 8 = .ok (.astore_n 2, 1) := by decide +kernel
theorem dX1_keep_9 : decode cX1_keep 9 = .ok (.aload_n 2, 1) := by decide +kernel
theorem dX1_keep_10 : decode cX1_keep 10 = .ok (.ifnonnull 4, 3) := by decide +kernel
theorem dX1_keep_13 : decode cX1_keep 13 = .ok (.return_, 1) := by decide +kernel
theorem dX1_keep_14 : decode cX1_keep 14 = .ok (.aload_n 2, 1) := by decide +kernel
theorem dX1_keep_15 : decode cX1_keep 15 = .ok (.aload_n 1, 1) := by decide +kernel
theorem dX1_keep_16 : decode cX1_keep 16 = .ok (.invokevirtual 29, 3) := by decide +kernel
theorem dX1_keep_19 : decode cX1_keep 19 = .ok (.aload_n 0, 1) := by decide +kernel
theorem dX1_keep_20 : decode cX1_keep 20 = .ok (.getfield 21, 3) := by decide +kernel
theorem dX1_keep_23 : decode cX1_keep 23 = .ok (.iconst 4, 1) := by decide +kernel
theorem dX1_keep_24 : decode cX1_keep 24 = .ok (.if_icmp .ge 16, 3) := by decide +kernel
theorem dX1_keep_27 : decode cX1_keep 27 = .ok (.aload_n 0, 1) := by decide +kernel
theorem dX1_keep_28 : decode cX1_keep 28 = .ok (.dup, 1) := by decide +kernel
theorem dX1_keep_29 : decode cX1_keep 29 = .ok (.getfield 21, 3) := by decide +kernel
theorem dX1_keep_32 : decode cX1_keep 32 = .ok (.iconst 1, 1) := by decide +kernel
theorem dX1_keep_33 : decode cX1_keep 33 = .ok (.iadd, 1) := by decide +kernel
theorem dX1_keep_34 : decode cX1_keep 34 = .ok (.putfield 21, 3) := by decide +kernel
theorem dX1_keep_37 : decode cX1_keep 37 = .ok (.goto 15, 3) := by decide +kernel
theorem dX1_keep_40 : decode cX1_keep 40 = .ok (.aload_n 0, 1) := by decide +kernel
theorem dX1_keep_41 : decode cX1_keep 41 = .ok (.aload_n 0, 1) := by decide +kernel
theorem dX1_keep_42 : decode cX1_keep 42 = .ok (.getfield 17, 3) := by decide +kernel
theorem dX1_keep_45 : decode cX1_keep 45 = .ok (.iconst 1, 1) := by decide +kernel
theorem dX1_keep_46 : decode cX1_keep 46 = .ok (.iadd, 1) := by decide +kernel
theorem dX1_keep_47 : decode cX1_keep 47 = .ok (.iconst 4, 1) := by decide +kernel
theorem dX1_keep_48 : decode cX1_keep 48 = .ok (.irem, 1) := by decide +kernel
theorem dX1_keep_49 : decode cX1_keep 49 = .ok (.putfield 17, 3) := by decide +kernel
theorem dX1_keep_52 : decode cX1_keep 52 = .ok (.return_, 1) := by decide +kernel
theorem dX2_init_0 : decode cX2_init 0 = .ok (.aload_n 0, 1) := by decide +kernel
theorem dX2_init_1 : decode cX2_init 1 = .ok (.invokespecial 3, 3) := by decide +kernel
theorem dX2_init_4 : decode cX2_init 4 = .ok (.aload_n 0, 1) := by decide +kernel
theorem dX2_init_5 : decode cX2_init 5 = .ok (.bipush 16, 2) := by decide +kernel
theorem dX2_init_7 : decode cX2_init 7 = .ok (.newarray .int, 2) := by decide +kernel
theorem dX2_init_9 : decode cX2_init 9 = .ok (.putfield 9, 3) := by decide +kernel
theorem dX2_init_12 : decode cX2_init 12 = .ok (.aload_n 0, 1) := by decide +kernel
theorem dX2_init_13 : decode cX2_init 13 = .ok (.bipush 16, 2) := by decide +kernel
theorem dX2_init_15 : decode cX2_init 15 = .ok (.newarray .int, 2) := by decide +kernel
theorem dX2_init_17 : decode cX2_init 17 = .ok (.putfield 15, 3) := by decide +kernel
theorem dX2_init_20 : decode cX2_init 20 = .ok (.aload_n 0, 1) := by decide +kernel
theorem dX2_init_21 : decode cX2_init 21 = .ok (.bipush 16, 2) := by decide +kernel
theorem dX2_init_23 : decode cX2_init 23 = .ok (.newarray .int, 2) := by decide +kernel
theorem dX2_init_25 : decode cX2_init 25 = .ok (.putfield 18, 3) := by decide +kernel
theorem dX2_init_28 : decode cX2_init 28 = .ok (.aload_n 0, 1) := by decide +kernel
theorem dX2_init_29 : decode cX2_init 29 = .ok (.iconst 4, 1) := by decide +kernel
theorem dX2_init_30 : decode cX2_init 30 = .ok (.newarray .int, 2) := by decide +kernel
theorem dX2_init_32 : decode cX2_init 32 = .ok (.putfield 21, 3) := by decide +kernel
theorem dX2_init_35 : decode cX2_init 35 = .ok (.aload_n 0, 1) := by decide +kernel
theorem dX2_init_36 : decode cX2_init 36 = .ok (.iconst 0, 1) := by decide +kernel
theorem dX2_init_37 : decode cX2_init 37 = .ok (.putfield 24, 3) := by decide +kernel
theorem dX2_init_40 : decode cX2_init 40 = .ok (.aload_n 0, 1) := by decide +kernel
theorem dX2_init_41 : decode cX2_init 41 = .ok (.iconst 0, 1) := by decide +kernel
theorem dX2_init_42 : decode cX2_init 42 = .ok (.putfield 28, 3) := by decide +kernel
theorem dX2_init_45 : decode cX2_init 45 = .ok (.aload_n 0, 1) := by decide +kernel
theorem dX2_init_46 : decode cX2_init 46 = .ok (.iconst 0, 1) := by decide +kernel
theorem dX2_init_47 : decode cX2_init 47 = .ok (.putfield 31, 3) := by decide +kernel
theorem dX2_init_50 : decode cX2_init 50 = .ok (.return_, 1) := by decide +kernel
theorem dX2_settle_0 : decode cX2_settle 0 = .ok (.aload_n 0, 1) := by decide +kernel
theorem dX2_settle_1 : decode cX2_settle 1 = .ok (.aload_n 1, 1) := by decide +kernel
theorem dX2_settle_2 : decode cX2_settle 2 = .ok (.getfield 34, 3) := by decide +kernel
theorem dX2_settle_5 : decode cX2_settle 5 = .ok (.invokevirtual 40, 3) := by decide +kernel
theorem dX2_settle_8 : decode cX2_settle 8 = .ok (.aload_n 0, 1) := by decide +kernel
theorem dX2_settle_9 : decode cX2_settle 9 = .ok (.aload_n 1, 1) := by decide +kernel
theorem dX2_settle_10 : decode cX2_settle 10 = .ok (.iload_n 2, 1) := by decide +kernel
theorem dX2_settle_11 : decode cX2_settle 11 = .ok (.invokevirtual 44, 3) := by decide +kernel
theorem dX2_settle_14 : decode cX2_settle 14 = .ok (.aload_n 0, 1) := by decide +kernel
theorem dX2_settle_15 : decode cX2_settle 15 = .ok (.aload_n 1, 1) := by decide +kernel
theorem dX2_settle_16 : decode cX2_settle 16 = .ok (.getfield 34, 3) := by decide +kernel
theorem dX2_settle_19 : decode cX2_settle 19 = .ok (.invokevirtual 48, 3) := by decide +kernel
theorem dX2_settle_22 : decode cX2_settle 22 = .ok (.aload_n 0, 1) := by decide +kernel
theorem dX2_settle_23 : decode cX2_settle 23 = .ok (.iconst 0, 1) := by decide +kernel
theorem dX2_settle_24 : decode cX2_settle 24 = .ok (.aload_n 0, 1) := by decide +kernel
theorem dX2_settle_25 : decode cX2_settle 25 = .ok (.getfield 9, 3) := by decide +kernel
theorem dX2_settle_28 : decode cX2_settle 28 = .ok (.iconst 0, 1) := by decide +kernel
theorem dX2_settle_29 : decode cX2_settle 29 = .ok (.iaload, 1) := by decide +kernel
theorem dX2_settle_30 : decode cX2_settle 30 = .ok (.iload_n 2, 1) := by decide +kernel
theorem dX2_settle_31 : decode cX2_settle 31 = .ok (.imul, 1) := by decide +kernel
theorem dX2_settle_32 : decode cX2_settle 32 = .ok (.aload_n 0, 1) := by decide +kernel
theorem dX2_settle_33 : decode cX2_settle 33 = .ok (.getfield 18, 3) := by decide +kernel
theorem dX2_settle_36 : decode cX2_settle 36 = .ok (.iconst 0, 1) := by decide +kernel
theorem dX2_settle_37 : decode cX2_settle 37 = .ok (.iaload, 1) := by decide +kernel
theorem dX2_settle_38 : decode cX2_settle 38 = .ok (.isub, 1) := by decide +kernel
theorem dX2_settle_39 : decode cX2_settle 39 = .ok (.invokestatic 51, 3) := by decide +kernel
theorem dX2_settle_42 : decode cX2_settle 42 = .ok (.putfield 24, 3) := by decide +kernel
theorem dX2_settle_45 : decode cX2_settle 45 = .ok (.aload_n 0, 1) := by decide +kernel
theorem dX2_settle_46 : decode cX2_settle 46 = .ok (.aload_n 1, 1) := by decide +kernel
theorem dX2_settle_47 : decode cX2_settle 47 = .ok (.getfield 57, 3) := by decide +kernel
theorem dX2_settle_50 : decode cX2_settle 50 = .ok (.invokevirtual 61, 3) := by decide +kernel
theorem dX2_settle_53 : decode cX2_settle 53 = .ok (.return_, 1) := by decide +kernel
theorem dX2_settleFlows_0 : decode cX2_settleFlows 0 = .ok (.iconst 0, 1) := by decide +kernel
theorem dX2_settleFlows_1 : decode cX2_settleFlows 1 = .ok (.istore_n 2, 1) := by decide +kernel
theorem dX2_settleFlows_2 : decode cX2_settleFlows 2 = .ok (.iload_n 2, 1) := by decide +kernel
theorem dX2_settleFlows_3 : decode cX2_settleFlows 3 = .ok (.aload_n 1, 1) := by decide +kernel
theorem dX2_settleFlows_4 : decode cX2_settleFlows 4 = .ok (.getfield 65, 3) := by decide +kernel
theorem dX2_settleFlows_7 : decode cX2_settleFlows 7 = .ok (.if_icmp .ge 28, 3) := by decide +kernel
theorem dX2_settleFlows_10 : decode cX2_settleFlows 10 = .ok (.aload_n 0, 1) := by decide +kernel
theorem dX2_settleFlows_11 : decode cX2_settleFlows 11 = .ok (.getfield 9, 3) := by decide +kernel
theorem dX2_settleFlows_14 : decode cX2_settleFlows 14 = .ok (.iload_n 2, 1) := by decide +kernel
theorem dX2_settleFlows_15 : decode cX2_settleFlows 15 = .ok (.aload_n 1, 1) := by decide +kernel
theorem dX2_settleFlows_16 : decode cX2_settleFlows 16 = .ok (.getfield 70, 3) := by decide +kernel
theorem dX2_settleFlows_19 : decode cX2_settleFlows 19 = .ok (.iload_n 2, 1) := by decide +kernel
theorem dX2_settleFlows_20 : decode cX2_settleFlows 20 = .ok (.iaload, 1) := by decide +kernel
theorem dX2_settleFlows_21 : decode cX2_settleFlows 21 = .ok (.aload_n 1, 1) := by decide +kernel
theorem dX2_settleFlows_22 : decode cX2_settleFlows 22 = .ok (.getfield 73, 3) := by decide +kernel
theorem dX2_settleFlows_25 : decode cX2_settleFlows 25 = .ok (.iload_n 2, 1) := by decide +kernel
theorem dX2_settleFlows_26 : decode cX2_settleFlows 26 = .ok (.iaload, 1) := by decide +kernel
theorem dX2_settleFlows_27 : decode cX2_settleFlows 27 = .ok (.iadd, 1) := by decide +kernel
theorem dX2_settleFlows_28 : decode cX2_settleFlows 28 = .ok (.iastore, 1) := by decide +kernel
theorem dX2_settleFlows_29 : decode cX2_settleFlows 29 = .ok (.iinc 2 1, 3) := by decide +kernel
theorem dX2_settleFlows_32 : decode cX2_settleFlows 32 = .ok (.goto (-30), 3) := by decide +kernel
theorem dX2_settleFlows_35 : decode cX2_settleFlows 35 = .ok (.aload_n 1, 1) := by decide +kernel
theorem dX2_settleFlows_36 : decode cX2_settleFlows 36 = .ok (.aload_n 0, 1) := by decide +kernel
theorem dX2_settleFlows_37 : decode cX2_settleFlows 37 = .ok (.getfield 9, 3) := by decide +kernel
theorem dX2_settleFlows_40 : decode cX2_settleFlows 40 = .ok (.invokestatic 76, 3) := by decide +kernel
theorem dX2_settleFlows_43 : decode cX2_settleFlows 43 = .ok (.return_, 1) := by decide +kernel
theorem dX2_settleWarmth_0 : decode cX2_settleWarmth 0 = .ok (.aload_n 1, 1) := by decide +kernel
theorem dX2_settleWarmth_1 : decode cX2_settleWarmth 1 = .ok (.getfield 34, 3) := by decide +kernel
theorem dX2_settleWarmth_4 : decode cX2_settleWarmth 4 = .ok (.astore_n 3, 1) := by decide +kernel
theorem dX2_settleWarmth_5 : decode cX2_settleWarmth 5 = .ok (.aload_n 0, 1) := by decide +kernel
theorem dX2_settleWarmth_6 : decode cX2_settleWarmth 6 = .ok (.getfield 15, 3) := by decide +kernel
theorem dX2_settleWarmth_9 : decode cX2_settleWarmth 9 = .ok (.iconst 0, 1) := by decide +kernel
theorem dX2_settleWarmth_10 : decode cX2_settleWarmth 10 = .ok (.iload_n 2, 1) := by decide +kernel
theorem dX2_settleWarmth_11 : decode cX2_settleWarmth 11 = .ok (.iastore, 1) := by decide +kernel
theorem dX2_settleWarmth_12 : decode cX2_settleWarmth 12 = .ok (.iconst 1, 1) := by decide +kernel
theorem dX2_settleWarmth_13 : decode cX2_settleWarmth 13 = .ok (.istore 4, 2) := by decide +kernel
theorem dX2_settleWarmth_15 : decode cX2_settleWarmth 15 = .ok (.iload 4, 2) := by decide +kernel
theorem dX2_settleWarmth_17 : decode cX2_settleWarmth 17 = .ok (.aload_n 3, 1) := by decide +kernel
theorem dX2_settleWarmth_18 : decode cX2_settleWarmth 18 = .ok (.getfield 65, 3) := by decide +kernel
theorem dX2_settleWarmth_21 : decode cX2_settleWarmth 21 = .ok (.if_icmp .ge 56, 3) := by decide +kernel
theorem dX2_settleWarmth_24 : decode cX2_settleWarmth 24 = .ok (.aload_n 3, 1) := by decide +kernel
theorem dX2_settleWarmth_25 : decode cX2_settleWarmth 25 = .ok (.getfield 80, 3) := by decide +kernel
theorem dX2_settleWarmth_28 : decode cX2_settleWarmth 28 = .ok (.iload 4, 2) := by decide +kernel
theorem dX2_settleWarmth_30 : decode cX2_settleWarmth 30 = .ok (.iaload, 1) := by decide +kernel
theorem dX2_settleWarmth_31 : decode cX2_settleWarmth 31 = .ok (.aload_n 3, 1) := by decide +kernel
theorem dX2_settleWarmth_32 : decode cX2_settleWarmth 32 = .ok (.getfield 83, 3) := by decide +kernel
theorem dX2_settleWarmth_35 : decode cX2_settleWarmth 35 = .ok (.iload 4, 2) := by decide +kernel
theorem dX2_settleWarmth_37 : decode cX2_settleWarmth 37 = .ok (.iaload, 1) := by decide +kernel
theorem dX2_settleWarmth_38 : decode cX2_settleWarmth 38 = .ok (.imul, 1) := by decide +kernel
theorem dX2_settleWarmth_39 : decode cX2_settleWarmth 39 = .ok (.istore 5, 2) := by decide +kernel
theorem dX2_settleWarmth_41 : decode cX2_settleWarmth 41 = .ok (.aload_n 0, 1) := by decide +kernel
theorem dX2_settleWarmth_42 : decode cX2_settleWarmth 42 = .ok (.getfield 15, 3) := by decide +kernel
theorem dX2_settleWarmth_45 : decode cX2_settleWarmth 45 = .ok (.iload 4, 2) := by decide +kernel
theorem dX2_settleWarmth_47 : decode cX2_settleWarmth 47 = .ok (.aload_n 0, 1) := by decide +kernel
theorem dX2_settleWarmth_48 : decode cX2_settleWarmth 48 = .ok (.aload_n 3, 1) := by decide +kernel
theorem dX2_settleWarmth_49 : decode cX2_settleWarmth 49 = .ok (.iload 4, 2) := by decide +kernel
theorem dX2_settleWarmth_51 : decode cX2_settleWarmth 51 = .ok (.invokevirtual 86, 3) := by decide +kernel
theorem dX2_settleWarmth_54 : decode cX2_settleWarmth 54 = .ok (.aload_n 1, 1) := by decide +kernel
theorem dX2_settleWarmth_55 : decode cX2_settleWarmth 55 = .ok (.getfield 90, 3) := by decide +kernel
theorem dX2_settleWarmth_58 : decode cX2_settleWarmth 58 = .ok (.iload 5, 2) := by decide +kernel
theorem dX2_settleWarmth_60 : decode cX2_settleWarmth 60 = .ok (.aload_n 0, 1) := by decide +kernel
theorem dX2_settleWarmth_61 : decode cX2_settleWarmth 61 = .ok (.getfield 9, 3) := by decide +kernel
theorem dX2_settleWarmth_64 : decode cX2_settleWarmth 64 = .ok (.iload 4, 2) := by decide +kernel
theorem dX2_settleWarmth_66 : decode cX2_settleWarmth 66 = .ok (.iaload, 1) := by decide +kernel
theorem dX2_settleWarmth_67 : decode cX2_settleWarmth 67 = .ok (.invokestatic 93, 3) := by decide +kernel
theorem dX2_settleWarmth_70 : decode cX2_settleWarmth 70 = .ok (.iastore, 1) := by decide +kernel
theorem dX2_settleWarmth_71 : decode cX2_settleWarmth 71 = .ok (.iinc 4 1, 3) := by decide +kernel
theorem dX2_settleWarmth_74 : decode cX2_settleWarmth 74 = .ok (.goto (-59), 3) := by decide +kernel
theorem dX2_settleWarmth_77 : decode cX2_settleWarmth 77 = .ok (.return_, 1) := by decide +kernel
theorem dX2_settleReturns_0 : decode cX2_settleReturns 0 = .ok (.iconst 0, 1) := by decide +kernel
theorem dX2_settleReturns_1 : decode cX2_settleReturns 1 = .ok (.istore_n 2, 1) := by decide +kernel
theorem dX2_settleReturns_2 : decode cX2_settleReturns 2 = .ok (.iload_n 2, 1) := by decide +kernel
theorem dX2_settleReturns_3 : decode cX2_settleReturns 3 = .ok (.aload_n 1, 1) := by decide +kernel
theorem dX2_settleReturns_4 : decode cX2_settleReturns 4 = .ok (.getfield 65, 3) := by decide +kernel
theorem dX2_settleReturns_7 : decode cX2_settleReturns 7 = .ok (.if_icmp .ge 28, 3) := by decide +kernel
theorem dX2_settleReturns_10 : decode cX2_settleReturns 10 = .ok (.aload_n 0, 1) := by decide +kernel
theorem dX2_settleReturns_11 : decode cX2_settleReturns 11 = .ok (.getfield 18, 3) := by decide +kernel
theorem dX2_settleReturns_14 : decode cX2_settleReturns 14 = .ok (.iload_n 2, 1) := by decide +kernel
theorem dX2_settleReturns_15 : decode cX2_settleReturns 15 = .ok (.aload_n 1, 1) := by decide +kernel
theorem dX2_settleReturns_16 : decode cX2_settleReturns 16 = .ok (.getfield 70, 3) := by decide +kernel
theorem dX2_settleReturns_19 : decode cX2_settleReturns 19 = .ok (.iload_n 2, 1) := by decide +kernel
theorem dX2_settleReturns_20 : decode cX2_settleReturns 20 = .ok (.iaload, 1) := by decide +kernel
theorem dX2_settleReturns_21 : decode cX2_settleReturns 21 = .ok (.aload_n 0, 1) := by decide +kernel
theorem dX2_settleReturns_22 : decode cX2_settleReturns 22 = .ok (.aload_n 1, 1) := by decide +kernel
theorem dX2_settleReturns_23 : decode cX2_settleReturns 23 = .ok (.iload_n 2, 1) := by decide +kernel
theorem dX2_settleReturns_24 : decode cX2_settleReturns 24 = .ok (.invokevirtual 97, 3) := by decide +kernel
theorem dX2_settleReturns_27 : decode cX2_settleReturns 27 = .ok (.imul, 1) := by decide +kernel
theorem dX2_settleReturns_28 : decode cX2_settleReturns 28 = .ok (.iastore, 1) := by decide +kernel
theorem dX2_settleReturns_29 : decode cX2_settleReturns 29 = .ok (.iinc 2 1, 3) := by decide +kernel
theorem dX2_settleReturns_32 : decode cX2_settleReturns 32 = .ok (.goto (-30), 3) := by decide +kernel
theorem dX2_settleReturns_35 : decode cX2_settleReturns 35 = .ok (.aload_n 1, 1) := by decide +kernel
theorem dX2_settleReturns_36 : decode cX2_settleReturns 36 = .ok (.aload_n 0, 1) := by decide +kernel
theorem dX2_settleReturns_37 : decode cX2_settleReturns 37 = .ok (.getfield 18, 3) := by decide +kernel
theorem dX2_settleReturns_40 : decode cX2_settleReturns 40 = .ok (.invokestatic 76, 3) := by decide +kernel
theorem dX2_settleReturns_43 : decode cX2_settleReturns 43 = .ok (.return_, 1) := by decide +kernel
theorem dX2_settleLoads_0 : decode cX2_settleLoads 0 = .ok (.aload_n 0, 1) := by decide +kernel
theorem dX2_settleLoads_1 : decode cX2_settleLoads 1 = .ok (.getfield 24, 3) := by decide +kernel
theorem dX2_settleLoads_4 : decode cX2_settleLoads 4 = .ok (.istore_n 2, 1) := by decide +kernel
theorem dX2_settleLoads_5 : decode cX2_settleLoads 5 = .ok (.aload_n 0, 1) := by decide +kernel
theorem dX2_settleLoads_6 : decode cX2_settleLoads 6 = .ok (.iconst 0, 1) := by decide +kernel
theorem dX2_settleLoads_7 : decode cX2_settleLoads 7 = .ok (.putfield 31, 3) := by decide +kernel
theorem dX2_settleLoads_10 : decode cX2_settleLoads 10 = .ok (.iconst 0, 1) := by decide +kernel
theorem dX2_settleLoads_11 : decode cX2_settleLoads 11 = .ok (.istore_n 3, 1) := by decide +kernel
theorem dX2_settleLoads_12 : decode cX2_settleLoads 12 = .ok (.iload_n 3, 1) := by decide +kernel
theorem dX2_settleLoads_13 : decode cX2_settleLoads 13 = .ok (.aload_n 1, 1) := by decide +kernel
theorem dX2_settleLoads_14 : decode cX2_settleLoads 14 = .ok (.getfield 100, 3) := by decide +kernel
theorem dX2_settleLoads_17 : decode cX2_settleLoads 17 = .ok (.if_icmp .ge 127, 3) := by decide +kernel
theorem dX2_settleLoads_20 : decode cX2_settleLoads 20 = .ok (.aload_n 1, 1) := by decide +kernel
theorem dX2_settleLoads_21 : decode cX2_settleLoads 21 = .ok (.iload_n 3, 1) := by decide +kernel
theorem dX2_settleLoads_22 : decode cX2_settleLoads 22 = .ok (.invokevirtual 103, 3) := by decide +kernel
theorem dX2_settleLoads_25 : decode cX2_settleLoads 25 = .ok (.istore 4, 2) := by decide +kernel
theorem dX2_settleLoads_27 : decode cX2_settleLoads 27 = .ok (.iload 4, 2) := by decide +kernel
theorem dX2_settleLoads_29 : decode cX2_settleLoads 29 = .ok (.iconst (-1), 1) := by decide +kernel
theorem dX2_settleLoads_30 : decode cX2_settleLoads 30 = .ok (.if_icmp .ne 6, 3) := by decide +kernel
theorem dX2_settleLoads_33 : decode cX2_settleLoads 33 = .ok (.goto 105, 3) := by decide +kernel
theorem dX2_settleLoads_36 : decode cX2_settleLoads 36 = .ok (.aload_n 0, 1) := by decide +kernel
theorem dX2_settleLoads_37 : decode cX2_settleLoads 37 = .ok (.getfield 21, 3) := by decide +kernel
theorem dX2_settleLoads_40 : decode cX2_settleLoads 40 = .ok (.iload 4, 2) := by decide +kernel
theorem dX2_settleLoads_42 : decode cX2_settleLoads 42 = .ok (.aload_n 1, 1) := by decide +kernel
theorem dX2_settleLoads_43 : decode cX2_settleLoads 43 = .ok (.getfield 107, 3) := by decide +kernel
theorem dX2_settleLoads_46 : decode cX2_settleLoads 46 = .ok (.iload 4, 2) := by decide +kernel
theorem dX2_settleLoads_48 : decode cX2_settleLoads 48 = .ok (.iaload, 1) := by decide +kernel
theorem dX2_settleLoads_49 : decode cX2_settleLoads 49 = .ok (.iload_n 2, 1) := by decide +kernel
theorem dX2_settleLoads_50 : decode cX2_settleLoads 50 = .ok (.invokestatic 110, 3) := by decide +kernel
theorem dX2_settleLoads_53 : decode cX2_settleLoads 53 = .ok (.iastore, 1) := by decide +kernel
theorem dX2_settleLoads_54 : decode cX2_settleLoads 54 = .ok (.aload_n 0, 1) := by decide +kernel
theorem dX2_settleLoads_55 : decode cX2_settleLoads 55 = .ok (.getfield 21, 3) := by decide +kernel
theorem dX2_settleLoads_58 : decode cX2_settleLoads 58 = .ok (.iload 4, 2) := by decide +kernel
theorem dX2_settleLoads_60 : decode cX2_settleLoads 60 = .ok (.iaload, 1) := by decide +kernel
theorem dX2_settleLoads_61 : decode cX2_settleLoads 61 = .ok (.ifCond .le 39, 3) := by decide +kernel
theorem dX2_settleLoads_64 : decode cX2_settleLoads 64 = .ok (.aload_n 0, 1) := by decide +kernel
theorem dX2_settleLoads_65 : decode cX2_settleLoads 65 = .ok (.getfield 21, 3) := by decide +kernel
theorem dX2_settleLoads_68 : decode cX2_settleLoads 68 = .ok (.iload 4, 2) := by decide +kernel
theorem dX2_settleLoads_70 : decode cX2_settleLoads 70 = .ok (.iaload, 1) := by decide +kernel
theorem dX2_settleLoads_71 : decode cX2_settleLoads 71 = .ok (.aload_n 1, 1) := by decide +kernel
theorem dX2_settleLoads_72 : decode cX2_settleLoads 72 = .ok (.getfield 113, 3) := by decide +kernel
theorem dX2_settleLoads_75 : decode cX2_settleLoads 75 = .ok (.iload 4, 2) := by decide +kernel
theorem dX2_settleLoads_77 : decode cX2_settleLoads 77 = .ok (.iaload, 1) := by decide +kernel
theorem dX2_settleLoads_78 : decode cX2_settleLoads 78 = .ok (.if_icmp .ge 22, 3) := by decide +kernel
theorem dX2_settleLoads_81 : decode cX2_settleLoads 81 = .ok (.aload_n 0, 1) := by decide +kernel
theorem dX2_settleLoads_82 : decode cX2_settleLoads 82 = .ok (.getfield 21, 3) := by decide +kernel
theorem dX2_settleLoads_85 : decode cX2_settleLoads 85 = .ok (.iload 4, 2) := by decide +kernel
theorem dX2_settleLoads_87 : decode cX2_settleLoads 87 = .ok (.aload_n 1, 1) := by decide +kernel
theorem dX2_settleLoads_88 : decode cX2_settleLoads 88 = .ok (.getfield 113, 3) := by decide +kernel
theorem dX2_settleLoads_91 : decode cX2_settleLoads 91 = .ok (.iload 4, 2) := by decide +kernel
theorem dX2_settleLoads_93 : decode cX2_settleLoads 93 = .ok (.iaload, 1) := by decide +kernel
theorem dX2_settleLoads_94 : decode cX2_settleLoads 94 = .ok (.iastore, 1) := by decide +kernel
theorem dX2_settleLoads_95 : decode cX2_settleLoads 95 = .ok (.iconst 0, 1) := by decide +kernel
theorem dX2_settleLoads_96 : decode cX2_settleLoads 96 = .ok (.istore_n 2, 1) := by decide +kernel
theorem dX2_settleLoads_97 : decode cX2_settleLoads 97 = .ok (.goto 13, 3) := by decide +kernel
theorem dX2_settleLoads_100 : decode cX2_settleLoads 100 = .ok (.iload_n 2, 1) := by decide +kernel
theorem dX2_settleLoads_101 : decode cX2_settleLoads 101 = .ok (.aload_n 0, 1) := by decide +kernel
theorem dX2_settleLoads_102 : decode cX2_settleLoads 102 = .ok (.getfield 21, 3) := by decide +kernel
theorem dX2_settleLoads_105 : decode cX2_settleLoads 105 = .ok (.iload 4, 2) := by decide +kernel
theorem dX2_settleLoads_107 : decode cX2_settleLoads 107 = .ok (.iaload, 1) := by decide +kernel
theorem dX2_settleLoads_108 : decode cX2_settleLoads 108 = .ok (.isub, 1) := by decide +kernel
theorem dX2_settleLoads_109 : decode cX2_settleLoads 109 = .ok (.istore_n 2, 1) := by decide +kernel
theorem dX2_settleLoads_110 : decode cX2_settleLoads 110 = .ok (.aload_n 0, 1) := by decide +kernel
theorem dX2_settleLoads_111 : decode cX2_settleLoads 111 = .ok (.dup, 1) := by decide +kernel
theorem dX2_settleLoads_112 : decode cX2_settleLoads 112 = .ok (.getfield 31, 3) := by decide +kernel
theorem dX2_settleLoads_115 : decode cX2_settleLoads 115 = .ok (.aload_n 0, 1) := by decide +kernel
theorem dX2_settleLoads_116 : decode cX2_settleLoads 116 = .ok (.getfield 21, 3) := by decide +kernel
theorem dX2_settleLoads_119 : decode cX2_settleLoads 119 = .ok (.iload 4, 2) := by decide +kernel
theorem dX2_settleLoads_121 : decode cX2_settleLoads 121 = .ok (.iaload, 1) := by decide +kernel
theorem dX2_settleLoads_122 : decode cX2_settleLoads 122 = .ok (.aload_n 1, 1) := by decide +kernel
theorem dX2_settleLoads_123 : decode cX2_settleLoads 123 = .ok (.getfield 116, 3) := by decide +kernel
theorem dX2_settleLoads_126 : decode cX2_settleLoads 126 = .ok (.iload 4, 2) := by decide +kernel
theorem dX2_settleLoads_128 : decode cX2_settleLoads 128 = .ok (.iaload, 1) := by decide +kernel
theorem dX2_settleLoads_129 : decode cX2_settleLoads 129 = .ok (.imul, 1) := by decide +kernel
theorem dX2_settleLoads_130 : decode cX2_settleLoads 130 = .ok (.sipush 1000, 3) := by decide +kernel
theorem dX2_settleLoads_133 : decode cX2_settleLoads 133 = .ok (.idiv, 1) := by decide +kernel
theorem dX2_settleLoads_134 : decode cX2_settleLoads 134 = .ok (.iadd, 1) := by decide +kernel
theorem dX2_settleLoads_135 : decode cX2_settleLoads 135 = .ok (.putfield 31, 3) := by decide +kernel
theorem dX2_settleLoads_138 : decode cX2_settleLoads 138 = .ok (.iinc 3 1, 3) := by decide +kernel
theorem dX2_settleLoads_141 : decode cX2_settleLoads 141 = .ok (.goto (-129), 3) := by decide +kernel
theorem dX2_settleLoads_144 : decode cX2_settleLoads 144 = .ok (.aload_n 0, 1) := by decide +kernel
theorem dX2_settleLoads_145 : decode cX2_settleLoads 145 = .ok (.iload_n 2, 1) := by decide +kernel
theorem dX2_settleLoads_146 : decode cX2_settleLoads 146 = .ok (.putfield 28, 3) := by decide +kernel
theorem dX2_settleLoads_149 : decode cX2_settleLoads 149 = .ok (.return_, 1) := by decide +kernel
theorem dX2_returnOf_0 : decode cX2_returnOf 0 = .ok (.aload_n 1, 1) := by decide +kernel
theorem dX2_returnOf_1 : decode cX2_returnOf 1 = .ok (.getfield 119, 3) := by decide +kernel
theorem dX2_returnOf_4 : decode cX2_returnOf 4 = .ok (.iload_n 2, 1) := by decide +kernel
theorem dX2_returnOf_5 : decode cX2_returnOf 5 = .ok (.iaload, 1) := by decide +kernel
theorem dX2_returnOf_6 : decode cX2_returnOf 6 = .ok (.aload_n 0, 1) := by decide +kernel
theorem dX2_returnOf_7 : decode cX2_returnOf 7 = .ok (.getfield 15, 3) := by decide +kernel
theorem dX2_returnOf_10 : decode cX2_returnOf 10 = .ok (.iload_n 2, 1) := by decide +kernel
theorem dX2_returnOf_11 : decode cX2_returnOf 11 = .ok (.iaload, 1) := by decide +kernel
theorem dX2_returnOf_12 : decode cX2_returnOf 12 = .ok (.invokestatic 110, 3) := by decide +kernel
theorem dX2_returnOf_15 : decode cX2_returnOf 15 = .ok (.ireturn, 1) := by decide +kernel
theorem dX2_warmthAbove_0 : decode cX2_warmthAbove 0 = .ok (.aload_n 1, 1) := by decide +kernel
theorem dX2_warmthAbove_1 : decode cX2_warmthAbove 1 = .ok (.iload_n 2, 1) := by decide +kernel
theorem dX2_warmthAbove_2 : decode cX2_warmthAbove 2 = .ok (.invokevirtual 122, 3) := by decide +kernel
theorem dX2_warmthAbove_5 : decode cX2_warmthAbove 5 = .ok (.ifCond .eq 17, 3) := by decide +kernel
theorem dX2_warmthAbove_8 : decode cX2_warmthAbove 8 = .ok (.aload_n 0, 1) := by decide +kernel
theorem dX2_warmthAbove_9 : decode cX2_warmthAbove 9 = .ok (.getfield 15, 3) := by decide +kernel
theorem dX2_warmthAbove_12 : decode cX2_warmthAbove 12 = .ok (.aload_n 1, 1) := by decide +kernel
theorem dX2_warmthAbove_13 : decode cX2_warmthAbove 13 = .ok (.getfield 126, 3) := by decide +kernel
theorem dX2_warmthAbove_16 : decode cX2_warmthAbove 16 = .ok (.iload_n 2, 1) := by decide +kernel
theorem dX2_warmthAbove_17 : decode cX2_warmthAbove 17 = .ok (.iaload, 1) := by decide +kernel
theorem dX2_warmthAbove_18 : decode cX2_warmthAbove 18 = .ok (.iaload, 1) := by decide +kernel
theorem dX2_warmthAbove_19 : decode cX2_warmthAbove 19 = .ok (.goto 4, 3) := by decide +kernel
theorem dX2_warmthAbove_22 : decode cX2_warmthAbove 22 = .ok (.iconst 0, 1) := by decide +kernel
theorem dX2_warmthAbove_23 : decode cX2_warmthAbove 23 = .ok (.ireturn, 1) := by decide +kernel
theorem dX2_warmthBehind_0 : decode cX2_warmthBehind 0 = .ok (.iload_n 3, 1) := by decide +kernel
theorem dX2_warmthBehind_1 : decode cX2_warmthBehind 1 = .ok (.ifCond .gt 9, 3) := by decide +kernel
theorem dX2_warmthBehind_4 : decode cX2_warmthBehind 4 = .ok (.iload_n 0, 1) := by decide +kernel
theorem dX2_warmthBehind_5 : decode cX2_warmthBehind 5 = .ok (.iload_n 1, 1) := by decide +kernel
theorem dX2_warmthBehind_6 : decode cX2_warmthBehind 6 = .ok (.invokestatic 110, 3) := by decide +kernel
theorem dX2_warmthBehind_9 : decode cX2_warmthBehind 9 = .ok (.ireturn, 1) := by decide +kernel
theorem dX2_warmthBehind_10 : decode cX2_warmthBehind 10 = .ok (.iload_n 0, 1) := by decide +kernel
theorem dX2_warmthBehind_11 : decode cX2_warmthBehind 11 = .ok (.iload_n 1, 1) := by decide +kernel
theorem dX2_warmthBehind_12 : decode cX2_warmthBehind 12 = .ok (.if_icmp .gt 5, 3) := by decide +kernel
theorem dX2_warmthBehind_15 : decode cX2_warmthBehind 15 = .ok (.iload_n 0, 1) := by decide +kernel
theorem dX2_warmthBehind_16 : decode cX2_warmthBehind 16 = .ok (.ireturn, 1) := by decide +kernel
theorem dX2_warmthBehind_17 : decode cX2_warmthBehind 17 = .ok (.iload_n 0, 1) := by decide +kernel
theorem dX2_warmthBehind_18 : decode cX2_warmthBehind 18 = .ok (.iload_n 1, 1) := by decide +kernel
theorem dX2_warmthBehind_19 : decode cX2_warmthBehind 19 = .ok (.isub, 1) := by decide +kernel
theorem dX2_warmthBehind_20 : decode cX2_warmthBehind 20 = .ok (.istore 4, 2) := by decide +kernel
theorem dX2_warmthBehind_22 : decode cX2_warmthBehind 22 = .ok (.iload_n 0, 1) := by decide +kernel
theorem dX2_warmthBehind_23 : decode cX2_warmthBehind 23 = .ok (.iload 4, 2) := by decide +kernel
theorem dX2_warmthBehind_25 : decode cX2_warmthBehind 25 = .ok (.iload 4, 2) := by decide +kernel
theorem dX2_warmthBehind_27 : decode cX2_warmthBehind 27 = .ok (.iload_n 2, 1) := by decide +kernel
theorem dX2_warmthBehind_28 : decode cX2_warmthBehind 28 = .ok (.imul, 1) := by decide +kernel
theorem dX2_warmthBehind_29 : decode cX2_warmthBehind 29 = .ok (.sipush 1000, 3) := by decide +kernel
theorem dX2_warmthBehind_32 : decode cX2_warmthBehind 32 = .ok (.iload_n 3, 1) := by decide +kernel
theorem dX2_warmthBehind_33 : decode cX2_warmthBehind 33 = .ok (.imul, 1) := by decide +kernel
theorem dX2_warmthBehind_34 : decode cX2_warmthBehind 34 = .ok (.idiv, 1) := by decide +kernel
theorem dX2_warmthBehind_35 : decode cX2_warmthBehind 35 = .ok (.invokestatic 110, 3) := by decide +kernel
theorem dX2_warmthBehind_38 : decode cX2_warmthBehind 38 = .ok (.isub, 1) := by decide +kernel
theorem dX2_warmthBehind_39 : decode cX2_warmthBehind 39 = .ok (.ireturn, 1) := by decide +kernel
theorem dX2_addUpTheTree_0 : decode cX2_addUpTheTree 0 = .ok (.aload_n 0, 1) := by decide +kernel
theorem dX2_addUpTheTree_1 : decode cX2_addUpTheTree 1 = .ok (.getfield 65, 3) := by decide +kernel
theorem dX2_addUpTheTree_4 : decode cX2_addUpTheTree 4 = .ok (.iconst 1, 1) := by decide +kernel
theorem dX2_addUpTheTree_5 : decode cX2_addUpTheTree 5 = .ok (.isub, 1) := by decide +kernel
theorem dX2_addUpTheTree_6 : decode cX2_addUpTheTree 6 = .ok (.istore_n 2, 1) := by decide +kernel
theorem dX2_addUpTheTree_7 : decode cX2_addUpTheTree 7 = .ok (.iload_n 2, 1) := by decide +kernel
theorem dX2_addUpTheTree_8 : decode cX2_addUpTheTree 8 = .ok (.ifCond .le 31, 3) := by decide +kernel
theorem dX2_addUpTheTree_11 : decode cX2_addUpTheTree 11 = .ok (.aload_n 0, 1) := by decide +kernel
theorem dX2_addUpTheTree_12 : decode cX2_addUpTheTree 12 = .ok (.iload_n 2, 1) := by decide +kernel
theorem dX2_addUpTheTree_13 : decode cX2_addUpTheTree 13 = .ok (.invokevirtual 122, 3) := by decide +kernel
theorem dX2_addUpTheTree_16 : decode cX2_addUpTheTree 16 = .ok (.ifCond .eq 17, 3) := by decide +kernel
theorem dX2_addUpTheTree_19 : decode cX2_addUpTheTree 19 = .ok (.aload_n 1, 1) := by decide +kernel
theorem dX2_addUpTheTree_20 : decode cX2_addUpTheTree 20 = .ok (.aload_n 0, 1) := by decide +kernel
theorem dX2_addUpTheTree_21 : decode cX2_addUpTheTree 21 = .ok (.getfield 126, 3) := by decide +kernel
theorem dX2_addUpTheTree_24 : decode cX2_addUpTheTree 24 = .ok (.iload_n 2, 1) := by decide +kernel
theorem dX2_addUpTheTree_25 : decode cX2_addUpTheTree 25 = .ok (.iaload, 1) := by decide +kernel
theorem dX2_addUpTheTree_26 : decode cX2_addUpTheTree 26 = .ok (.dup2, 1) := by decide +kernel
theorem dX2_addUpTheTree_27 : decode cX2_addUpTheTree 27 = .ok (.iaload, 1) := by decide +kernel
theorem dX2_addUpTheTree_28 : decode cX2_addUpTheTree 28 = .ok (.aload_n 1, 1) := by decide +kernel
theorem dX2_addUpTheTree_29 : decode cX2_addUpTheTree 29 = .ok (.iload_n 2, 1) := by decide +kernel
theorem dX2_addUpTheTree_30 : decode cX2_addUpTheTree 30 = .ok (.iaload, 1) := by decide +kernel
theorem dX2_addUpTheTree_31 : decode cX2_addUpTheTree 31 = .ok (.iadd, 1) := by decide +kernel
theorem dX2_addUpTheTree_32 : decode cX2_addUpTheTree 32 = .ok (.iastore, 1) := by decide +kernel
theorem dX2_addUpTheTree_33 : decode cX2_addUpTheTree 33 = .ok (.iinc 2 (-1), 3) := by decide +kernel
theorem dX2_addUpTheTree_36 : decode cX2_addUpTheTree 36 = .ok (.goto (-29), 3) := by decide +kernel
theorem dX2_addUpTheTree_39 : decode cX2_addUpTheTree 39 = .ok (.return_, 1) := by decide +kernel
theorem dX3_init_0 : decode cX3_init 0 = .ok (.aload_n 0, 1) := by decide +kernel
theorem dX3_init_1 : decode cX3_init 1 = .ok (.invokespecial 3, 3) := by decide +kernel
theorem dX3_init_4 : decode cX3_init 4 = .ok (.aload_n 0, 1) := by decide +kernel
theorem dX3_init_5 : decode cX3_init 5 = .ok (.bipush 16, 2) := by decide +kernel
theorem dX3_init_7 : decode cX3_init 7 = .ok (.newarray .int, 2) := by decide +kernel
theorem dX3_init_9 : decode cX3_init 9 = .ok (.putfield 9, 3) := by decide +kernel
theorem dX3_init_12 : decode cX3_init 12 = .ok (.aload_n 0, 1) := by decide +kernel
theorem dX3_init_13 : decode cX3_init 13 = .ok (.bipush 16, 2) := by decide +kernel
theorem dX3_init_15 : decode cX3_init 15 = .ok (.newarray .int, 2) := by decide +kernel
theorem dX3_init_17 : decode cX3_init 17 = .ok (.putfield 15, 3) := by decide +kernel
theorem dX3_init_20 : decode cX3_init 20 = .ok (.aload_n 0, 1) := by decide +kernel
theorem dX3_init_21 : decode cX3_init 21 = .ok (.bipush 16, 2) := by decide +kernel
theorem dX3_init_23 : decode cX3_init 23 = .ok (.newarray .int, 2) := by decide +kernel
theorem dX3_init_25 : decode cX3_init 25 = .ok (.putfield 18, 3) := by decide +kernel
theorem dX3_init_28 : decode cX3_init 28 = .ok (.aload_n 0, 1) := by decide +kernel
theorem dX3_init_29 : decode cX3_init 29 = .ok (.bipush 16, 2) := by decide +kernel
theorem dX3_init_31 : decode cX3_init 31 = .ok (.newarray .int, 2) := by decide +kernel
theorem dX3_init_33 : decode cX3_init 33 = .ok (.putfield 21, 3) := by decide +kernel
theorem dX3_init_36 : decode cX3_init 36 = .ok (.aload_n 0, 1) := by decide +kernel
theorem dX3_init_37 : decode cX3_init 37 = .ok (.bipush 16, 2) := by decide +kernel
theorem dX3_init_39 : decode cX3_init 39 = .ok (.newarray .int, 2) := by decide +kernel
theorem dX3_init_41 : decode cX3_init 41 = .ok (.putfield 24, 3) := by decide +kernel
theorem dX3_init_44 : decode cX3_init 44 = .ok (.aload_n 0, 1) := by decide +kernel
theorem dX3_init_45 : decode cX3_init 45 = .ok (.bipush 16, 2) := by decide +kernel
theorem dX3_init_47 : decode cX3_init 47 = .ok (.newarray .int, 2) := by decide +kernel
theorem dX3_init_49 : decode cX3_init 49 = .ok (.putfield 27, 3) := by decide +kernel
theorem dX3_init_52 : decode cX3_init 52 = .ok (.aload_n 0, 1) := by decide +kernel
theorem dX3_init_53 : decode cX3_init 53 = .ok (.bipush 16, 2) := by decide +kernel
theorem dX3_init_55 : decode cX3_init 55 = .ok (.newarray .int, 2) := by decide +kernel
theorem dX3_init_57 : decode cX3_init 57 = .ok (.putfield 30, 3) := by decide +kernel
theorem dX3_init_60 : decode cX3_init 60 = .ok (.aload_n 0, 1) := by decide +kernel
theorem dX3_init_61 : decode cX3_init 61 = .ok (.bipush 16, 2) := by decide +kernel
theorem dX3_init_63 : decode cX3_init 63 = .ok (.newarray .int, 2) := by decide +kernel
theorem dX3_init_65 : decode cX3_init 65 = .ok (.putfield 33, 3) := by decide +kernel
theorem dX3_init_68 : decode cX3_init 68 = .ok (.aload_n 0, 1) := by decide +kernel
theorem dX3_init_69 : decode cX3_init 69 = .ok (.iconst 1, 1) := by decide +kernel
theorem dX3_init_70 : decode cX3_init 70 = .ok (.putfield 36, 3) := by decide +kernel
theorem dX3_init_73 : decode cX3_init 73 = .ok (.aload_n 0, 1) := by decide +kernel
theorem dX3_init_74 : decode cX3_init 74 = .ok (.getfield 9, 3) := by decide +kernel
theorem dX3_init_77 : decode cX3_init 77 = .ok (.iconst 0, 1) := by decide +kernel
theorem dX3_init_78 : decode cX3_init 78 = .ok (.iconst (-1), 1) := by decide +kernel
theorem dX3_init_79 : decode cX3_init 79 = .ok (.iastore, 1) := by decide +kernel
theorem dX3_init_80 : decode cX3_init 80 = .ok (.return_, 1) := by decide +kernel
theorem dX3_attach_0 : decode cX3_attach 0 = .ok (.aload_n 0, 1) := by decide +kernel
theorem dX3_attach_1 : decode cX3_attach 1 = .ok (.getfield 36, 3) := by decide +kernel
theorem dX3_attach_4 : decode cX3_attach 4 = .ok (.istore 6, 2) := by decide +kernel
theorem dX3_attach_6 : decode cX3_attach 6 = .ok (.iload 6, 2) := by decide +kernel
theorem dX3_attach_8 : decode cX3_attach 8 = .ok (.bipush 16, 2) := by decide +kernel
theorem dX3_attach_10 : decode cX3_attach 10 = .ok (.if_icmp .lt 5, 3) := by decide +kernel
theorem dX3_attach_13 : decode cX3_attach 13 = .ok (.iconst (-1), 1) := by decide +kernel
theorem dX3_attach_14 : decode cX3_attach 14 = .ok (.ireturn, 1) := by decide +kernel
theorem dX3_attach_15 : decode cX3_attach 15 = .ok (.aload_n 0, 1) := by decide +kernel
theorem dX3_attach_16 : decode cX3_attach 16 = .ok (.getfield 9, 3) := by decide +kernel
theorem dX3_attach_19 : decode cX3_attach 19 = .ok (.iload 6, 2) := by decide +kernel
theorem dX3_attach_21 : decode cX3_attach 21 = .ok (.iload_n 1, 1) := by decide +kernel
theorem dX3_attach_22 : decode cX3_attach 22 = .ok (.iastore, 1) := by decide +kernel
theorem dX3_attach_23 : decode cX3_attach 23 = .ok (.aload_n 0, 1) := by decide +kernel
theorem dX3_attach_24 : decode cX3_attach 24 = .ok (.getfield 15, 3) := by decide +kernel
theorem dX3_attach_27 : decode cX3_attach 27 = .ok (.iload 6, 2) := by decide +kernel
theorem dX3_attach_29 : decode cX3_attach 29 = .ok (.iload_n 2, 1) := by decide +kernel
theorem dX3_attach_30 : decode cX3_attach 30 = .ok (.iastore, 1) := by decide +kernel
theorem dX3_attach_31 : decode cX3_attach 31 = .ok (.aload_n 0, 1) := by decide +kernel
theorem dX3_attach_32 : decode cX3_attach 32 = .ok (.getfield 18, 3) := by decide +kernel
theorem dX3_attach_35 : decode cX3_attach 35 = .ok (.iload 6, 2) := by decide +kernel
theorem dX3_attach_37 : decode cX3_attach 37 = .ok (.iload_n 3, 1) := by decide +kernel
theorem dX3_attach_38 : decode cX3_attach 38 = .ok (.iastore, 1) := by decide +kernel
theorem dX3_attach_39 : decode cX3_attach 39 = .ok (.aload_n 0, 1) := by decide +kernel
theorem dX3_attach_40 : decode cX3_attach 40 = .ok (.getfield 21, 3) := by decide +kernel
theorem dX3_attach_43 : decode cX3_attach 43 = .ok (.iload 6, 2) := by decide +kernel
theorem dX3_attach_45 : decode cX3_attach 45 = .ok (.iload 4, 2) := by decide +kernel
theorem dX3_attach_47 : decode cX3_attach 47 = .ok (.iastore, 1) := by decide +kernel
theorem dX3_attach_48 : decode cX3_attach 48 = .ok (.aload_n 0, 1) := by decide +kernel
theorem dX3_attach_49 : decode cX3_attach 49 = .ok (.getfield 24, 3) := by decide +kernel
theorem dX3_attach_52 : decode cX3_attach 52 = .ok (.iload 6, 2) := by decide +kernel
theorem dX3_attach_54 : decode cX3_attach 54 = .ok (.iload 5, 2) := by decide +kernel
theorem dX3_attach_56 : decode cX3_attach 56 = .ok (.iastore, 1) := by decide +kernel
theorem dX3_attach_57 : decode cX3_attach 57 = .ok (.aload_n 0, 1) := by decide +kernel
theorem dX3_attach_58 : decode cX3_attach 58 = .ok (.getfield 27, 3) := by decide +kernel
theorem dX3_attach_61 : decode cX3_attach 61 = .ok (.iload 6, 2) := by decide +kernel
theorem dX3_attach_63 : decode cX3_attach 63 = .ok (.iconst 0, 1) := by decide +kernel
theorem dX3_attach_64 : decode cX3_attach 64 = .ok (.iastore, 1) := by decide +kernel
theorem dX3_attach_65 : decode cX3_attach 65 = .ok (.aload_n 0, 1) := by decide +kernel
theorem dX3_attach_66 : decode cX3_attach 66 = .ok (.getfield 30, 3) := by decide +kernel
theorem dX3_attach_69 : decode cX3_attach 69 = .ok (.iload 6, 2) := by decide +kernel
theorem dX3_attach_71 : decode cX3_attach 71 = .ok (.iconst 0, 1) := by decide +kernel
theorem dX3_attach_72 : decode cX3_attach 72 = .ok (.iastore, 1) := by decide +kernel
theorem dX3_attach_73 : decode cX3_attach 73 = .ok (.aload_n 0, 1) := by decide +kernel
theorem dX3_attach_74 : decode cX3_attach 74 = .ok (.getfield 33, 3) := by decide +kernel
theorem dX3_attach_77 : decode cX3_attach 77 = .ok (.iload 6, 2) := by decide +kernel
theorem dX3_attach_79 : decode cX3_attach 79 = .ok (.iconst 0, 1) := by decide +kernel
theorem dX3_attach_80 : decode cX3_attach 80 = .ok (.iastore, 1) := by decide +kernel
theorem dX3_attach_81 : decode cX3_attach 81 = .ok (.aload_n 0, 1) := by decide +kernel
theorem dX3_attach_82 : decode cX3_attach 82 = .ok (.iload 6, 2) := by decide +kernel
theorem dX3_attach_84 : decode cX3_attach 84 = .ok (.iconst 1, 1) := by decide +kernel
theorem dX3_attach_85 : decode cX3_attach 85 = .ok (.iadd, 1) := by decide +kernel
theorem dX3_attach_86 : decode cX3_attach 86 = .ok (.putfield 36, 3) := by decide +kernel
theorem dX3_attach_89 : decode cX3_attach 89 = .ok (.iload 6, 2) := by decide +kernel
theorem dX3_attach_91 : decode cX3_attach 91 = .ok (.ireturn, 1) := by decide +kernel
theorem dX3_copyFrom_0 : decode cX3_copyFrom 0 = .ok (.aload_n 1, 1) := by decide +kernel
theorem dX3_copyFrom_1 : decode cX3_copyFrom 1 = .ok (.getfield 9, 3) := by decide +kernel
theorem dX3_copyFrom_4 : decode cX3_copyFrom 4 = .ok (.aload_n 0, 1) := by decide +kernel
theorem dX3_copyFrom_5 : decode cX3_copyFrom 5 = .ok (.getfield 9, 3) := by decide +kernel
theorem dX3_copyFrom_8 : decode cX3_copyFrom 8 = .ok (.invokestatic 40, 3) := by decide +kernel
theorem dX3_copyFrom_11 : decode cX3_copyFrom 11 = .ok (.aload_n 1, 1) := by decide +kernel
theorem dX3_copyFrom_12 : decode cX3_copyFrom 12 = .ok (.getfield 15, 3) := by decide +kernel
theorem dX3_copyFrom_15 : decode cX3_copyFrom 15 = .ok (.aload_n 0, 1) := by decide +kernel
theorem dX3_copyFrom_16 : decode cX3_copyFrom 16 = .ok (.getfield 15, 3) := by decide +kernel
theorem dX3_copyFrom_19 : decode cX3_copyFrom 19 = .ok (.invokestatic 40, 3) := by decide +kernel
theorem dX3_copyFrom_22 : decode cX3_copyFrom 22 = .ok (.aload_n 1, 1) := by decide +kernel
theorem dX3_copyFrom_23 : decode cX3_copyFrom 23 = .ok (.getfield 18, 3) := by decide +kernel
theorem dX3_copyFrom_26 : decode cX3_copyFrom 26 = .ok (.aload_n 0, 1) := by decide +kernel
theorem dX3_copyFrom_27 : decode cX3_copyFrom 27 = .ok (.getfield 18, 3) := by decide +kernel
theorem dX3_copyFrom_30 : decode cX3_copyFrom 30 = .ok (.invokestatic 40, 3) := by decide +kernel
theorem dX3_copyFrom_33 : decode cX3_copyFrom 33 = .ok (.aload_n 1, 1) := by decide +kernel
theorem dX3_copyFrom_34 : decode cX3_copyFrom 34 = .ok (.getfield 21, 3) := by decide +kernel
theorem dX3_copyFrom_37 : decode cX3_copyFrom 37 = .ok (.aload_n 0, 1) := by decide +kernel
theorem dX3_copyFrom_38 : decode cX3_copyFrom 38 = .ok (.getfield 21, 3) := by decide +kernel
theorem dX3_copyFrom_41 : decode cX3_copyFrom 41 = .ok (.invokestatic 40, 3) := by decide +kernel
theorem dX3_copyFrom_44 : decode cX3_copyFrom 44 = .ok (.aload_n 1, 1) := by decide +kernel
theorem dX3_copyFrom_45 : decode cX3_copyFrom 45 = .ok (.getfield 24, 3) := by decide +kernel
theorem dX3_copyFrom_48 : decode cX3_copyFrom 48 = .ok (.aload_n 0, 1) := by decide +kernel
theorem dX3_copyFrom_49 : decode cX3_copyFrom 49 = .ok (.getfield 24, 3) := by decide +kernel
theorem dX3_copyFrom_52 : decode cX3_copyFrom 52 = .ok (.invokestatic 40, 3) := by decide +kernel
theorem dX3_copyFrom_55 : decode cX3_copyFrom 55 = .ok (.aload_n 1, 1) := by decide +kernel
theorem dX3_copyFrom_56 : decode cX3_copyFrom 56 = .ok (.getfield 27, 3) := by decide +kernel
theorem dX3_copyFrom_59 : decode cX3_copyFrom 59 = .ok (.aload_n 0, 1) := by decide +kernel
theorem dX3_copyFrom_60 : decode cX3_copyFrom 60 = .ok (.getfield 27, 3) := by decide +kernel
theorem dX3_copyFrom_63 : decode cX3_copyFrom 63 = .ok (.invokestatic 40, 3) := by decide +kernel
theorem dX3_copyFrom_66 : decode cX3_copyFrom 66 = .ok (.aload_n 1, 1) := by decide +kernel
theorem dX3_copyFrom_67 : decode cX3_copyFrom 67 = .ok (.getfield 30, 3) := by decide +kernel
theorem dX3_copyFrom_70 : decode cX3_copyFrom 70 = .ok (.aload_n 0, 1) := by decide +kernel
theorem dX3_copyFrom_71 : decode cX3_copyFrom 71 = .ok (.getfield 30, 3) := by decide +kernel
theorem dX3_copyFrom_74 : decode cX3_copyFrom 74 = .ok (.invokestatic 40, 3) := by decide +kernel
theorem dX3_copyFrom_77 : decode cX3_copyFrom 77 = .ok (.aload_n 1, 1) := by decide +kernel
theorem dX3_copyFrom_78 : decode cX3_copyFrom 78 = .ok (.getfield 33, 3) := by decide +kernel
theorem dX3_copyFrom_81 : decode cX3_copyFrom 81 = .ok (.aload_n 0, 1) := by decide +kernel
theorem dX3_copyFrom_82 : decode cX3_copyFrom 82 = .ok (.getfield 33, 3) := by decide +kernel
theorem dX3_copyFrom_85 : decode cX3_copyFrom 85 = .ok (.invokestatic 40, 3) := by decide +kernel
theorem dX3_copyFrom_88 : decode cX3_copyFrom 88 = .ok (.aload_n 0, 1) := by decide +kernel
theorem dX3_copyFrom_89 : decode cX3_copyFrom 89 = .ok (.aload_n 1, 1) := by decide +kernel
theorem dX3_copyFrom_90 : decode cX3_copyFrom 90 = .ok (.getfield 36, 3) := by decide +kernel
theorem dX3_copyFrom_93 : decode cX3_copyFrom 93 = .ok (.putfield 36, 3) := by decide +kernel
theorem dX3_copyFrom_96 : decode cX3_copyFrom 96 = .ok (.return_, 1) := by decide +kernel
theorem dX3_hasParent_0 : decode cX3_hasParent 0 = .ok (.aload_n 0, 1) := by decide +kernel
theorem dX3_hasParent_1 : decode cX3_hasParent 1 = .ok (.getfield 9, 3) := by decide +kernel
theorem dX3_hasParent_4 : decode cX3_hasParent 4 = .ok (.iload_n 1, 1) := by decide +kernel
theorem dX3_hasParent_5 : decode cX3_hasParent 5 = .ok (.iaload, 1) := by decide +kernel
theorem dX3_hasParent_6 : decode cX3_hasParent 6 = .ok (.ifCond .lt 17, 3) := by decide +kernel
theorem dX3_hasParent_9 : decode cX3_hasParent 9 = .ok (.aload_n 0, 1) := by decide +kernel
theorem dX3_hasParent_10 : decode cX3_hasParent 10 = .ok (.getfield 9, 3) := by decide +kernel
theorem dX3_hasParent_13 : decode cX3_hasParent 13 = .ok (.iload_n 1, 1) := by decide +kernel
theorem dX3_hasParent_14 : decode cX3_hasParent 14 = .ok (.iaload, 1) := by decide +kernel
theorem dX3_hasParent_15 : decode cX3_hasParent 15 = .ok (.iload_n 1, 1) := by decide +kernel
theorem dX3_hasParent_16 : decode cX3_hasParent 16 = .ok (.if_icmp .ge 7, 3) := by decide +kernel
theorem dX3_hasParent_19 : decode cX3_hasParent 19 = .ok (.iconst 1, 1) := by decide +kernel
theorem dX3_hasParent_20 : decode cX3_hasParent 20 = .ok (.goto 4, 3) := by decide +kernel
theorem dX3_hasParent_23 : decode cX3_hasParent 23 = .ok (.iconst 0, 1) := by decide +kernel
theorem dX3_hasParent_24 : decode cX3_hasParent 24 = .ok (.ireturn, 1) := by decide +kernel
theorem dX3_childrenOf_0 : decode cX3_childrenOf 0 = .ok (.iconst 0, 1) := by decide +kernel
theorem dX3_childrenOf_1 : decode cX3_childrenOf 1 = .ok (.istore_n 2, 1) := by decide +kernel
theorem dX3_childrenOf_2 : decode cX3_childrenOf 2 = .ok (.iload_n 1, 1) := by decide +kernel
theorem dX3_childrenOf_3 : decode cX3_childrenOf 3 = .ok (.iconst 1, 1) := by decide +kernel
theorem dX3_childrenOf_4 : decode cX3_childrenOf 4 = .ok (.iadd, 1) := by decide +kernel
theorem dX3_childrenOf_5 : decode cX3_childrenOf 5 = .ok (.istore_n 3, 1) := by decide +kernel
theorem dX3_childrenOf_6 : decode cX3_childrenOf 6 = .ok (.iload_n 3, 1) := by decide +kernel
theorem dX3_childrenOf_7 : decode cX3_childrenOf 7 = .ok (.aload_n 0, 1) := by decide +kernel
theorem dX3_childrenOf_8 : decode cX3_childrenOf 8 = .ok (.getfield 36, 3) := by decide +kernel
theorem dX3_childrenOf_11 : decode cX3_childrenOf 11 = .ok (.if_icmp .ge 22, 3) := by decide +kernel
theorem dX3_childrenOf_14 : decode cX3_childrenOf 14 = .ok (.aload_n 0, 1) := by decide +kernel
theorem dX3_childrenOf_15 : decode cX3_childrenOf 15 = .ok (.getfield 9, 3) := by decide +kernel
theorem dX3_childrenOf_18 : decode cX3_childrenOf 18 = .ok (.iload_n 3, 1) := by decide +kernel
theorem dX3_childrenOf_19 : decode cX3_childrenOf 19 = .ok (.iaload, 1) := by decide +kernel
theorem dX3_childrenOf_20 : decode cX3_childrenOf 20 = .ok (.iload_n 1, 1) := by decide +kernel
theorem dX3_childrenOf_21 : decode cX3_childrenOf 21 = .ok (.if_icmp .ne 6, 3) := by decide +kernel
theorem dX3_childrenOf_24 : decode cX3_childrenOf 24 = .ok (.iinc 2 1, 3) := by decide +kernel
theorem dX3_childrenOf_27 : decode cX3_childrenOf 27 = .ok (.iinc 3 1, 3) := by decide +kernel
theorem dX3_childrenOf_30 : decode cX3_childrenOf 30 = .ok (.goto (-24), 3) := by decide +kernel
theorem dX3_childrenOf_33 : decode cX3_childrenOf 33 = .ok (.iload_n 2, 1) := by decide +kernel
theorem dX3_childrenOf_34 : decode cX3_childrenOf 34 = .ok (.ireturn, 1) := by decide +kernel
theorem dX3_branchOf_0 : decode cX3_branchOf 0 = .ok (.iconst 1, 1) := by decide +kernel
theorem dX3_branchOf_1 : decode cX3_branchOf 1 = .ok (.iload_n 1, 1) := by decide +kernel
theorem dX3_branchOf_2 : decode cX3_branchOf 2 = .ok (.ishl, 1) := by decide +kernel
theorem dX3_branchOf_3 : decode cX3_branchOf 3 = .ok (.istore_n 2, 1) := by decide +kernel
theorem dX3_branchOf_4 : decode cX3_branchOf 4 = .ok (.iload_n 1, 1) := by decide +kernel
theorem dX3_branchOf_5 : decode cX3_branchOf 5 = .ok (.iconst 1, 1) := by decide +kernel
theorem dX3_branchOf_6 : decode cX3_branchOf 6 = .ok (.iadd, 1) := by decide +kernel
theorem dX3_branchOf_7 : decode cX3_branchOf 7 = .ok (.istore_n 3, 1) := by decide +kernel
theorem dX3_branchOf_8 : decode cX3_branchOf 8 = .ok (.iload_n 3, 1) := by decide +kernel
theorem dX3_branchOf_9 : decode cX3_branchOf 9 = .ok (.aload_n 0, 1) := by decide +kernel
theorem dX3_branchOf_10 : decode cX3_branchOf 10 = .ok (.getfield 36, 3) := by decide +kernel
theorem dX3_branchOf_13 : decode cX3_branchOf 13 = .ok (.if_icmp .ge 36, 3) := by decide +kernel
theorem dX3_branchOf_16 : decode cX3_branchOf 16 = .ok (.aload_n 0, 1) := by decide +kernel
theorem dX3_branchOf_17 : decode cX3_branchOf 17 = .ok (.iload_n 3, 1) := by decide +kernel
theorem dX3_branchOf_18 : decode cX3_branchOf 18 = .ok (.invokevirtual 44, 3) := by decide +kernel
theorem dX3_branchOf_21 : decode cX3_branchOf 21 = .ok (.ifCond .eq 22, 3) := by decide +kernel
theorem dX3_branchOf_24 : decode cX3_branchOf 24 = .ok (.iload_n 2, 1) := by decide +kernel
theorem dX3_branchOf_25 : decode cX3_branchOf 25 = .ok (.aload_n 0, 1) := by decide +kernel
theorem dX3_branchOf_26 : decode cX3_branchOf 26 = .ok (.getfield 9, 3) := by decide +kernel
theorem dX3_branchOf_29 : decode cX3_branchOf 29 = .ok (.iload_n 3, 1) := by decide +kernel
theorem dX3_branchOf_30 : decode cX3_branchOf 30 = .ok (.iaload, 1) := by decide +kernel
theorem dX3_branchOf_31 : decode cX3_branchOf 31 = .ok (.ishr, 1) := by decide +kernel
theorem dX3_branchOf_32 : decode cX3_branchOf 32 = .ok (.iconst 1, 1) := by decide +kernel
theorem dX3_branchOf_33 : decode cX3_branchOf 33 = .ok (.iand, 1) := by decide +kernel
theorem dX3_branchOf_34 : decode cX3_branchOf 34 = .ok (.ifCond .eq 9, 3) := by decide +kernel
theorem dX3_branchOf_37 : decode cX3_branchOf 37 = .ok (.iload_n 2, 1) := by decide +kernel
theorem dX3_branchOf_38 : decode cX3_branchOf 38 = .ok (.iconst 1, 1) := by decide +kernel
theorem dX3_branchOf_39 : decode cX3_branchOf 39 = .ok (.iload_n 3, 1) := by decide +kernel
theorem dX3_branchOf_40 : decode cX3_branchOf 40 = .ok (.ishl, 1) := by decide +kernel
theorem dX3_branchOf_41 : decode cX3_branchOf 41 = .ok (.ior, 1) := by decide +kernel
theorem dX3_branchOf_42 : decode cX3_branchOf 42 = .ok (.istore_n 2, 1) := by decide +kernel
theorem dX3_branchOf_43 : decode cX3_branchOf 43 = .ok (.iinc 3 1, 3) := by decide +kernel
theorem dX3_branchOf_46 : decode cX3_branchOf 46 = .ok (.goto (-38), 3) := by decide +kernel
theorem dX3_branchOf_49 : decode cX3_branchOf 49 = .ok (.iload_n 2, 1) := by decide +kernel
theorem dX3_branchOf_50 : decode cX3_branchOf 50 = .ok (.invokestatic 48, 3) := by decide +kernel
theorem dX3_branchOf_53 : decode cX3_branchOf 53 = .ok (.ireturn, 1) := by decide +kernel
theorem dX3_meters_0 : decode cX3_meters 0 = .ok (.iconst 0, 1) := by decide +kernel
theorem dX3_meters_1 : decode cX3_meters 1 = .ok (.istore_n 1, 1) := by decide +kernel
theorem dX3_meters_2 : decode cX3_meters 2 = .ok (.iconst 1, 1) := by decide +kernel
theorem dX3_meters_3 : decode cX3_meters 3 = .ok (.istore_n 2, 1) := by decide +kernel
theorem dX3_meters_4 : decode cX3_meters 4 = .ok (.iload_n 2, 1) := by decide +kernel
theorem dX3_meters_5 : decode cX3_meters 5 = .ok (.aload_n 0, 1) := by decide +kernel
theorem dX3_meters_6 : decode cX3_meters 6 = .ok (.getfield 36, 3) := by decide +kernel
theorem dX3_meters_9 : decode cX3_meters 9 = .ok (.if_icmp .ge 18, 3) := by decide +kernel
theorem dX3_meters_12 : decode cX3_meters 12 = .ok (.iload_n 1, 1) := by decide +kernel
theorem dX3_meters_13 : decode cX3_meters 13 = .ok (.aload_n 0, 1) := by decide +kernel
theorem dX3_meters_14 : decode cX3_meters 14 = .ok (.getfield 30, 3) := by decide +kernel
theorem dX3_meters_17 : decode cX3_meters 17 = .ok (.iload_n 2, 1) := by decide +kernel
theorem dX3_meters_18 : decode cX3_meters 18 = .ok (.iaload, 1) := by decide +kernel
theorem dX3_meters_19 : decode cX3_meters 19 = .ok (.iadd, 1) := by decide +kernel
theorem dX3_meters_20 : decode cX3_meters 20 = .ok (.istore_n 1, 1) := by decide +kernel
theorem dX3_meters_21 : decode cX3_meters 21 = .ok (.iinc 2 1, 3) := by decide +kernel
theorem dX3_meters_24 : decode cX3_meters 24 = .ok (.goto (-20), 3) := by decide +kernel
theorem dX3_meters_27 : decode cX3_meters 27 = .ok (.iload_n 1, 1) := by decide +kernel
theorem dX3_meters_28 : decode cX3_meters 28 = .ok (.ireturn, 1) := by decide +kernel
theorem dX3_accounts_0 : decode cX3_accounts 0 = .ok (.iconst 0, 1) := by decide +kernel
theorem dX3_accounts_1 : decode cX3_accounts 1 = .ok (.istore_n 1, 1) := by decide +kernel
theorem dX3_accounts_2 : decode cX3_accounts 2 = .ok (.iconst 1, 1) := by decide +kernel
theorem dX3_accounts_3 : decode cX3_accounts 3 = .ok (.istore_n 2, 1) := by decide +kernel
theorem dX3_accounts_4 : decode cX3_accounts 4 = .ok (.iload_n 2, 1) := by decide +kernel
theorem dX3_accounts_5 : decode cX3_accounts 5 = .ok (.aload_n 0, 1) := by decide +kernel
theorem dX3_accounts_6 : decode cX3_accounts 6 = .ok (.getfield 36, 3) := by decide +kernel
theorem dX3_accounts_9 : decode cX3_accounts 9 = .ok (.if_icmp .ge 18, 3) := by decide +kernel
theorem dX3_accounts_12 : decode cX3_accounts 12 = .ok (.iload_n 1, 1) := by decide +kernel
theorem dX3_accounts_13 : decode cX3_accounts 13 = .ok (.aload_n 0, 1) := by decide +kernel
theorem dX3_accounts_14 : decode cX3_accounts 14 = .ok (.getfield 33, 3) := by decide +kernel
theorem dX3_accounts_17 : decode cX3_accounts 17 = .ok (.iload_n 2, 1) := by decide +kernel
theorem dX3_accounts_18 : decode cX3_accounts 18 = .ok (.iaload, 1) := by decide +kernel
theorem dX3_accounts_19 : decode cX3_accounts 19 = .ok (.iadd, 1) := by decide +kernel
theorem dX3_accounts_20 : decode cX3_accounts 20 = .ok (.istore_n 1, 1) := by decide +kernel
theorem dX3_accounts_21 : decode cX3_accounts 21 = .ok (.iinc 2 1, 3) := by decide +kernel
theorem dX3_accounts_24 : decode cX3_accounts 24 = .ok (.goto (-20), 3) := by decide +kernel
theorem dX3_accounts_27 : decode cX3_accounts 27 = .ok (.iload_n 1, 1) := by decide +kernel
theorem dX3_accounts_28 : decode cX3_accounts 28 = .ok (.ireturn, 1) := by decide +kernel
theorem dX4_init_0 : decode cX4_init 0 = .ok (.aload_n 0, 1) := by decide +kernel
theorem dX4_init_1 : decode cX4_init 1 = .ok (.invokespecial 3, 3) := by decide +kernel
theorem dX4_init_4 : decode cX4_init 4 = .ok (.aload_n 0, 1) := by decide +kernel
theorem dX4_init_5 : decode cX4_init 5 = .ok (.sipush 180, 3) := by decide +kernel
theorem dX4_init_8 : decode cX4_init 8 = .ok (.newarray .int, 2) := by decide +kernel
theorem dX4_init_10 : decode cX4_init 10 = .ok (.putfield 9, 3) := by decide +kernel
theorem dX4_init_13 : decode cX4_init 13 = .ok (.aload_n 0, 1) := by decide +kernel
theorem dX4_init_14 : decode cX4_init 14 = .ok (.iconst 0, 1) := by decide +kernel
theorem dX4_init_15 : decode cX4_init 15 = .ok (.putfield 15, 3) := by decide +kernel
theorem dX4_init_18 : decode cX4_init 18 = .ok (.aload_n 0, 1) := by decide +kernel
theorem dX4_init_19 : decode cX4_init 19 = .ok (.iconst 0, 1) := by decide +kernel
theorem dX4_init_20 : decode cX4_init 20 = .ok (.putfield 19, 3) := by decide +kernel
theorem dX4_init_23 : decode cX4_init 23 = .ok (.aload_n 0, 1) := by decide +kernel
theorem dX4_init_24 : decode cX4_init 24 = .ok (.iconst (-1), 1) := by decide +kernel
theorem dX4_init_25 : decode cX4_init 25 = .ok (.putfield 22, 3) := by decide +kernel
theorem dX4_init_28 : decode cX4_init 28 = .ok (.return_, 1) := by decide +kernel
theorem dX5_init_0 : decode cX5_init 0 = .ok (.aload_n 0, 1) := by decide +kernel
theorem dX5_init_1 : decode cX5_init 1 = .ok (.invokespecial 3, 3) := by decide +kernel
theorem dX5_init_4 : decode cX5_init 4 = .ok (.aload_n 0, 1) := by decide +kernel
theorem dX5_init_5 : decode cX5_init 5 = .ok (.bipush 16, 2) := by decide +kernel
theorem dX5_init_7 : decode cX5_init 7 = .ok (.newarray .int, 2) := by decide +kernel
theorem dX5_init_9 : decode cX5_init 9 = .ok (.putfield 9, 3) := by decide +kernel
theorem dX5_init_12 : decode cX5_init 12 = .ok (.aload_n 0, 1) := by decide +kernel
theorem dX5_init_13 : decode cX5_init 13 = .ok (.bipush 16, 2) := by decide +kernel
theorem dX5_init_15 : decode cX5_init 15 = .ok (.newarray .int, 2) := by decide +kernel
theorem dX5_init_17 : decode cX5_init 17 = .ok (.putfield 15, 3) := by decide +kernel
theorem dX5_init_20 : decode cX5_init 20 = .ok (.aload_n 0, 1) := by decide +kernel
theorem dX5_init_21 : decode cX5_init 21 = .ok (.bipush 16, 2) := by decide +kernel
theorem dX5_init_23 : decode cX5_init 23 = .ok (.newarray .int, 2) := by decide +kernel
theorem dX5_init_25 : decode cX5_init 25 = .ok (.putfield 18, 3) := by decide +kernel
theorem dX5_init_28 : decode cX5_init 28 = .ok (.aload_n 0, 1) := by decide +kernel
theorem dX5_init_29 : decode cX5_init 29 = .ok (.bipush 16, 2) := by decide +kernel
theorem dX5_init_31 : decode cX5_init 31 = .ok (.newarray .int, 2) := by decide +kernel
theorem dX5_init_33 : decode cX5_init 33 = .ok (.putfield 21, 3) := by decide +kernel
theorem dX5_init_36 : decode cX5_init 36 = .ok (.aload_n 0, 1) := by decide +kernel
theorem dX5_init_37 : decode cX5_init 37 = .ok (.bipush 16, 2) := by decide +kernel
theorem dX5_init_39 : decode cX5_init 39 = .ok (.newarray .int, 2) := by decide +kernel
theorem dX5_init_41 : decode cX5_init 41 = .ok (.putfield 24, 3) := by decide +kernel
theorem dX5_init_44 : decode cX5_init 44 = .ok (.aload_n 0, 1) := by decide +kernel
theorem dX5_init_45 : decode cX5_init 45 = .ok (.iconst 1, 1) := by decide +kernel
theorem dX5_init_46 : decode cX5_init 46 = .ok (.putfield 27, 3) := by decide +kernel
theorem dX5_init_49 : decode cX5_init 49 = .ok (.return_, 1) := by decide +kernel
theorem dX5_takeMeters_0 : decode cX5_takeMeters 0 = .ok (.aload_n 1, 1) := by decide +kernel
theorem dX5_takeMeters_1 : decode cX5_takeMeters 1 = .ok (.getfield 31, 3) := by decide +kernel
theorem dX5_takeMeters_4 : decode cX5_takeMeters 4 = .ok (.aload_n 0, 1) := by decide +kernel
theorem dX5_takeMeters_5 : decode cX5_takeMeters 5 = .ok (.getfield 9, 3) := by decide +kernel
theorem dX5_takeMeters_8 : decode cX5_takeMeters 8 = .ok (.invokestatic 34, 3) := by decide +kernel
theorem dX5_takeMeters_11 : decode cX5_takeMeters 11 = .ok (.return_, 1) := by decide +kernel
theorem dX5_settle_0 : decode cX5_settle 0 = .ok (.aload_n 0, 1) := by decide +kernel
theorem dX5_settle_1 : decode cX5_settle 1 = .ok (.aload_n 1, 1) := by decide +kernel
theorem dX5_settle_2 : decode cX5_settle 2 = .ok (.getfield 38, 3) := by decide +kernel
theorem dX5_settle_5 : decode cX5_settle 5 = .ok (.putfield 27, 3) := by decide +kernel
theorem dX5_settle_8 : decode cX5_settle 8 = .ok (.aload_n 0, 1) := by decide +kernel
theorem dX5_settle_9 : decode cX5_settle 9 = .ok (.invokevirtual 39, 3) := by decide +kernel
theorem dX5_settle_12 : decode cX5_settle 12 = .ok (.iconst 1, 1) := by decide +kernel
theorem dX5_settle_13 : decode cX5_settle 13 = .ok (.istore_n 2, 1) := by decide +kernel
theorem dX5_settle_14 : decode cX5_settle 14 = .ok (.iload_n 2, 1) := by decide +kernel
theorem dX5_settle_15 : decode cX5_settle 15 = .ok (.aload_n 0, 1) := by decide +kernel
theorem dX5_settle_16 : decode cX5_settle 16 = .ok (.getfield 27, 3) := by decide +kernel
theorem dX5_settle_19 : decode cX5_settle 19 = .ok (.if_icmp .ge 60, 3) := by decide +kernel
theorem dX5_settle_22 : decode cX5_settle 22 = .ok (.aload_n 0, 1) := by decide +kernel
theorem dX5_settle_23 : decode cX5_settle 23 = .ok (.iload_n 2, 1) := by decide +kernel
theorem dX5_settle_24 : decode cX5_settle 24 = .ok (.invokevirtual 42, 3) := by decide +kernel
theorem dX5_settle_27 : decode cX5_settle 27 = .ok (.ifCond .eq 7, 3) := by decide +kernel
theorem dX5_settle_30 : decode cX5_settle 30 = .ok (.iload_n 2, 1) := by decide +kernel
theorem dX5_settle_31 : decode cX5_settle 31 = .ok (.goto 9, 3) := by decide +kernel
theorem dX5_settle_34 : decode cX5_settle 34 = .ok (.aload_n 0, 1) := by decide +kernel
theorem dX5_settle_35 : decode cX5_settle 35 = .ok (.aload_n 1, 1) := by decide +kernel
theorem dX5_settle_36 : decode cX5_settle 36 = .ok (.iload_n 2, 1) := by decide +kernel
theorem dX5_settle_37 : decode cX5_settle 37 = .ok (.invokevirtual 46, 3) := by decide +kernel
theorem dX5_settle_40 : decode cX5_settle 40 = .ok (.istore_n 3, 1) := by decide +kernel
theorem dX5_settle_41 : decode cX5_settle 41 = .ok (.aload_n 0, 1) := by decide +kernel
theorem dX5_settle_42 : decode cX5_settle 42 = .ok (.getfield 15, 3) := by decide +kernel
theorem dX5_settle_45 : decode cX5_settle 45 = .ok (.iload_n 2, 1) := by decide +kernel
theorem dX5_settle_46 : decode cX5_settle 46 = .ok (.iload_n 3, 1) := by decide +kernel
theorem dX5_settle_47 : decode cX5_settle 47 = .ok (.iastore, 1) := by decide +kernel
theorem dX5_settle_48 : decode cX5_settle 48 = .ok (.aload_n 0, 1) := by decide +kernel
theorem dX5_settle_49 : decode cX5_settle 49 = .ok (.getfield 21, 3) := by decide +kernel
theorem dX5_settle_52 : decode cX5_settle 52 = .ok (.iload_n 3, 1) := by decide +kernel
theorem dX5_settle_53 : decode cX5_settle 53 = .ok (.dup2, 1) := by decide +kernel
theorem dX5_settle_54 : decode cX5_settle 54 = .ok (.iaload, 1) := by decide +kernel
theorem dX5_settle_55 : decode cX5_settle 55 = .ok (.iconst 1, 1) := by decide +kernel
theorem dX5_settle_56 : decode cX5_settle 56 = .ok (.iadd, 1) := by decide +kernel
theorem dX5_settle_57 : decode cX5_settle 57 = .ok (.iastore, 1) := by decide +kernel
theorem dX5_settle_58 : decode cX5_settle 58 = .ok (.aload_n 0, 1) := by decide +kernel
theorem dX5_settle_59 : decode cX5_settle 59 = .ok (.getfield 24, 3) := by decide +kernel
theorem dX5_settle_62 : decode cX5_settle 62 = .ok (.iload_n 3, 1) := by decide +kernel
theorem dX5_settle_63 : decode cX5_settle 63 = .ok (.dup2, 1) := by decide +kernel
theorem dX5_settle_64 : decode cX5_settle 64 = .ok (.iaload, 1) := by decide +kernel
theorem dX5_settle_65 : decode cX5_settle 65 = .ok (.aload_n 1, 1) := by decide +kernel
theorem dX5_settle_66 : decode cX5_settle 66 = .ok (.getfield 50, 3) := by decide +kernel
theorem dX5_settle_69 : decode cX5_settle 69 = .ok (.iload_n 2, 1) := by decide +kernel
theorem dX5_settle_70 : decode cX5_settle 70 = .ok (.iaload, 1) := by decide +kernel
theorem dX5_settle_71 : decode cX5_settle 71 = .ok (.iadd, 1) := by decide +kernel
theorem dX5_settle_72 : decode cX5_settle 72 = .ok (.iastore, 1) := by decide +kernel
theorem dX5_settle_73 : decode cX5_settle 73 = .ok (.iinc 2 1, 3) := by decide +kernel
theorem dX5_settle_76 : decode cX5_settle 76 = .ok (.goto (-62), 3) := by decide +kernel
theorem dX5_settle_79 : decode cX5_settle 79 = .ok (.aload_n 0, 1) := by decide +kernel
theorem dX5_settle_80 : decode cX5_settle 80 = .ok (.aload_n 1, 1) := by decide +kernel
theorem dX5_settle_81 : decode cX5_settle 81 = .ok (.invokevirtual 53, 3) := by decide +kernel
theorem dX5_settle_84 : decode cX5_settle 84 = .ok (.return_, 1) := by decide +kernel
theorem dX5_clearCounts_0 : decode cX5_clearCounts 0 = .ok (.aload_n 0, 1) := by decide +kernel
theorem dX5_clearCounts_1 : decode cX5_clearCounts 1 = .ok (.getfield 15, 3) := by decide +kernel
theorem dX5_clearCounts_4 : decode cX5_clearCounts 4 = .ok (.iconst 0, 1) := by decide +kernel
theorem dX5_clearCounts_5 : decode cX5_clearCounts 5 = .ok (.iconst 0, 1) := by decide +kernel
theorem dX5_clearCounts_6 : decode cX5_clearCounts 6 = .ok (.iastore, 1) := by decide +kernel
theorem dX5_clearCounts_7 : decode cX5_clearCounts 7 = .ok (.iconst 0, 1) := by decide +kernel
theorem dX5_clearCounts_8 : decode cX5_clearCounts 8 = .ok (.istore_n 1, 1) := by decide +kernel
theorem dX5_clearCounts_9 : decode cX5_clearCounts 9 = .ok (.iload_n 1, 1) := by decide +kernel
theorem dX5_clearCounts_10 : decode cX5_clearCounts 10 = .ok (.aload_n 0, 1) := by decide +kernel
theorem dX5_clearCounts_11 : decode cX5_clearCounts 11 = .ok (.getfield 27, 3) := by decide +kernel
theorem dX5_clearCounts_14 : decode cX5_clearCounts 14 = .ok (.if_icmp .ge 38, 3) := by decide +kernel
theorem dX5_clearCounts_17 : decode cX5_clearCounts 17 = .ok (.aload_n 0, 1) := by decide +kernel
theorem dX5_clearCounts_18 : decode cX5_clearCounts 18 = .ok (.getfield 21, 3) := by decide +kernel
theorem dX5_clearCounts_21 : decode cX5_clearCounts 21 = .ok (.iload_n 1, 1) := by decide +kernel
theorem dX5_clearCounts_22 : decode cX5_clearCounts 22 = .ok (.iconst 0, 1) := by decide +kernel
theorem dX5_clearCounts_23 : decode cX5_clearCounts 23 = .ok (.iastore, 1) := by decide +kernel
theorem dX5_clearCounts_24 : decode cX5_clearCounts 24 = .ok (.aload_n 0, 1) := by decide +kernel
theorem dX5_clearCounts_25 : decode cX5_clearCounts 25 = .ok (.getfield 24, 3) := by decide +kernel
theorem dX5_clearCounts_28 : decode cX5_clearCounts 28 = .ok (.iload_n 1, 1) := by decide +kernel
theorem dX5_clearCounts_29 : decode cX5_clearCounts 29 = .ok (.iconst 0, 1) := by decide +kernel
theorem dX5_clearCounts_30 : decode cX5_clearCounts 30 = .ok (.iastore, 1) := by decide +kernel
theorem dX5_clearCounts_31 : decode cX5_clearCounts 31 = .ok (.aload_n 0, 1) := by decide +kernel
theorem dX5_clearCounts_32 : decode cX5_clearCounts 32 = .ok (.getfield 18, 3) := by decide +kernel
theorem dX5_clearCounts_35 : decode cX5_clearCounts 35 = .ok (.iload_n 1, 1) := by decide +kernel
theorem dX5_clearCounts_36 : decode cX5_clearCounts 36 = .ok (.iload_n 1, 1) := by decide +kernel
theorem dX5_clearCounts_37 : decode cX5_clearCounts 37 = .ok (.ifCond .ne 7, 3) := by decide +kernel
theorem dX5_clearCounts_40 : decode cX5_clearCounts 40 = .ok (.iconst 0, 1) := by decide +kernel
theorem dX5_clearCounts_41 : decode cX5_clearCounts 41 = .ok (.goto 4, 3) := by decide +kernel
theorem dX5_clearCounts_44 : decode cX5_clearCounts 44 = .ok (.iconst 1, 1) := by decide +kernel
theorem dX5_clearCounts_45 : decode cX5_clearCounts 45 = .ok (.iastore, 1) := by decide +kernel
theorem dX5_clearCounts_46 : decode cX5_clearCounts 46 = .ok (.iinc 1 1, 3) := by decide +kernel
theorem dX5_clearCounts_49 : decode cX5_clearCounts 49 = .ok (.goto (-40), 3) := by decide +kernel
theorem dX5_clearCounts_52 : decode cX5_clearCounts 52 = .ok (.return_, 1) := by decide +kernel
theorem dX5_headAbove_0 : decode cX5_headAbove 0 = .ok (.aload_n 1, 1) := by decide +kernel
theorem dX5_headAbove_1 : decode cX5_headAbove 1 = .ok (.iload_n 2, 1) := by decide +kernel
theorem dX5_headAbove_2 : decode cX5_headAbove 2 = .ok (.invokevirtual 57, 3) := by decide +kernel
theorem dX5_headAbove_5 : decode cX5_headAbove 5 = .ok (.ifCond .eq 17, 3) := by decide +kernel
theorem dX5_headAbove_8 : decode cX5_headAbove 8 = .ok (.aload_n 0, 1) := by decide +kernel
theorem dX5_headAbove_9 : decode cX5_headAbove 9 = .ok (.getfield 15, 3) := by decide +kernel
theorem dX5_headAbove_12 : decode cX5_headAbove 12 = .ok (.aload_n 1, 1) := by decide +kernel
theorem dX5_headAbove_13 : decode cX5_headAbove 13 = .ok (.getfield 60, 3) := by decide +kernel
theorem dX5_headAbove_16 : decode cX5_headAbove 16 = .ok (.iload_n 2, 1) := by decide +kernel
theorem dX5_headAbove_17 : decode cX5_headAbove 17 = .ok (.iaload, 1) := by decide +kernel
theorem dX5_headAbove_18 : decode cX5_headAbove 18 = .ok (.iaload, 1) := by decide +kernel
theorem dX5_headAbove_19 : decode cX5_headAbove 19 = .ok (.goto 4, 3) := by decide +kernel
theorem dX5_headAbove_22 : decode cX5_headAbove 22 = .ok (.iconst 0, 1) := by decide +kernel
theorem dX5_headAbove_23 : decode cX5_headAbove 23 = .ok (.istore_n 3, 1) := by decide +kernel
theorem dX5_headAbove_24 : decode cX5_headAbove 24 = .ok (.iload_n 3, 1) := by decide +kernel
theorem dX5_headAbove_25 : decode cX5_headAbove 25 = .ok (.ifCond .lt 12, 3) := by decide +kernel
theorem dX5_headAbove_28 : decode cX5_headAbove 28 = .ok (.iload_n 3, 1) := by decide +kernel
theorem dX5_headAbove_29 : decode cX5_headAbove 29 = .ok (.iload_n 2, 1) := by decide +kernel
theorem dX5_headAbove_30 : decode cX5_headAbove 30 = .ok (.if_icmp .ge 7, 3) := by decide +kernel
theorem dX5_headAbove_33 : decode cX5_headAbove 33 = .ok (.iload_n 3, 1) := by decide +kernel
theorem dX5_headAbove_34 : decode cX5_headAbove 34 = .ok (.goto 4, 3) := by decide +kernel
theorem dX5_headAbove_37 : decode cX5_headAbove 37 = .ok (.iconst 0, 1) := by decide +kernel
theorem dX5_headAbove_38 : decode cX5_headAbove 38 = .ok (.ireturn, 1) := by decide +kernel
theorem dX5_countBranches_0 : decode cX5_countBranches 0 = .ok (.aload_n 0, 1) := by decide +kernel
theorem dX5_countBranches_1 : decode cX5_countBranches 1 = .ok (.getfield 27, 3) := by decide +kernel
theorem dX5_countBranches_4 : decode cX5_countBranches 4 = .ok (.iconst 1, 1) := by decide +kernel
theorem dX5_countBranches_5 : decode cX5_countBranches 5 = .ok (.isub, 1) := by decide +kernel
theorem dX5_countBranches_6 : decode cX5_countBranches 6 = .ok (.istore_n 2, 1) := by decide +kernel
theorem dX5_countBranches_7 : decode cX5_countBranches 7 = .ok (.iload_n 2, 1) := by decide +kernel
theorem dX5_countBranches_8 : decode cX5_countBranches 8 = .ok (.ifCond .le 45, 3) := by decide +kernel
theorem dX5_countBranches_11 : decode cX5_countBranches 11 = .ok (.aload_n 0, 1) := by decide +kernel
theorem dX5_countBranches_12 : decode cX5_countBranches 12 = .ok (.iload_n 2, 1) := by decide +kernel
theorem dX5_countBranches_13 : decode cX5_countBranches 13 = .ok (.invokevirtual 42, 3) := by decide +kernel
theorem dX5_countBranches_16 : decode cX5_countBranches 16 = .ok (.ifCond .ne 31, 3) := by decide +kernel
theorem dX5_countBranches_19 : decode cX5_countBranches 19 = .ok (.aload_n 1, 1) := by decide +kernel
theorem dX5_countBranches_20 : decode cX5_countBranches 20 = .ok (.iload_n 2, 1) := by decide +kernel
theorem dX5_countBranches_21 : decode cX5_countBranches 21 = .ok (.invokevirtual 57, 3) := by decide +kernel
theorem dX5_countBranches_24 : decode cX5_countBranches 24 = .ok (.ifCond .eq 23, 3) := by decide +kernel
theorem dX5_countBranches_27 : decode cX5_countBranches 27 = .ok (.aload_n 0, 1) := by decide +kernel
theorem dX5_countBranches_28 : decode cX5_countBranches 28 = .ok (.getfield 18, 3) := by decide +kernel
theorem dX5_countBranches_31 : decode cX5_countBranches 31 = .ok (.aload_n 1, 1) := by decide +kernel
theorem dX5_countBranches_32 : decode cX5_countBranches 32 = .ok (.getfield 60, 3) := by decide +kernel
theorem dX5_countBranches_35 : decode cX5_countBranches 35 = .ok (.iload_n 2, 1) := by decide +kernel
theorem dX5_countBranches_36 : decode cX5_countBranches 36 = .ok (.iaload, 1) := by decide +kernel
theorem dX5_countBranches_37 : decode cX5_countBranches 37 = .ok (.dup2, 1) := by decide +kernel
theorem dX5_countBranches_38 : decode cX5_countBranches 38 = .ok (.iaload, 1) := by decide +kernel
theorem dX5_countBranches_39 : decode cX5_countBranches 39 = .ok (.aload_n 0, 1) := by decide +kernel
theorem dX5_countBranches_40 : decode cX5_countBranches 40 = .ok (.getfield 18, 3) := by decide +kernel
theorem dX5_countBranches_43 : decode cX5_countBranches 43 = .ok (.iload_n 2, 1) := by decide +kernel
theorem dX5_countBranches_44 : decode cX5_countBranches 44 = .ok (.iaload, 1) := by decide +kernel
theorem dX5_countBranches_45 : decode cX5_countBranches 45 = .ok (.iadd, 1) := by decide +kernel
theorem dX5_countBranches_46 : decode cX5_countBranches 46 = .ok (.iastore, 1) := by decide +kernel
theorem dX5_countBranches_47 : decode cX5_countBranches 47 = .ok (.iinc 2 (-1), 3) := by decide +kernel
theorem dX5_countBranches_50 : decode cX5_countBranches 50 = .ok (.goto (-43), 3) := by decide +kernel
theorem dX5_countBranches_53 : decode cX5_countBranches 53 = .ok (.return_, 1) := by decide +kernel
theorem dX5_hasMeter_0 : decode cX5_hasMeter 0 = .ok (.iload_n 1, 1) := by decide +kernel
theorem dX5_hasMeter_1 : decode cX5_hasMeter 1 = .ok (.ifCond .eq 12, 3) := by decide +kernel
theorem dX5_hasMeter_4 : decode cX5_hasMeter 4 = .ok (.aload_n 0, 1) := by decide +kernel
theorem dX5_hasMeter_5 : decode cX5_hasMeter 5 = .ok (.getfield 9, 3) := by decide +kernel
theorem dX5_hasMeter_8 : decode cX5_hasMeter 8 = .ok (.iload_n 1, 1) := by decide +kernel
theorem dX5_hasMeter_9 : decode cX5_hasMeter 9 = .ok (.iaload, 1) := by decide +kernel
theorem dX5_hasMeter_10 : decode cX5_hasMeter 10 = .ok (.ifCond .eq 7, 3) := by decide +kernel
theorem dX5_hasMeter_13 : decode cX5_hasMeter 13 = .ok (.iconst 1, 1) := by decide +kernel
theorem dX5_hasMeter_14 : decode cX5_hasMeter 14 = .ok (.goto 4, 3) := by decide +kernel
theorem dX5_hasMeter_17 : decode cX5_hasMeter 17 = .ok (.iconst 0, 1) := by decide +kernel
theorem dX5_hasMeter_18 : decode cX5_hasMeter 18 = .ok (.ireturn, 1) := by decide +kernel
theorem dX6_init_0 : decode cX6_init 0 = .ok (.aload_n 0, 1) := by decide +kernel
theorem dX6_init_1 : decode cX6_init 1 = .ok (.invokespecial 1, 3) := by decide +kernel
theorem dX6_init_4 : decode cX6_init 4 = .ok (.aload_n 0, 1) := by decide +kernel
theorem dX6_init_5 : decode cX6_init 5 = .ok (.new 7, 3) := by decide +kernel
theorem dX6_init_8 : decode cX6_init 8 = .ok (.dup, 1) := by decide +kernel
theorem dX6_init_9 : decode cX6_init 9 = .ok (.invokespecial 9, 3) := by decide +kernel
theorem dX6_init_12 : decode cX6_init 12 = .ok (.putfield 10, 3) := by decide +kernel
theorem dX6_init_15 : decode cX6_init 15 = .ok (.aload_n 0, 1) := by decide +kernel
theorem dX6_init_16 : decode cX6_init 16 = .ok (.new 16, 3) := by decide +kernel
theorem dX6_init_19 : decode cX6_init 19 = .ok (.dup, 1) := by decide +kernel
theorem dX6_init_20 : decode cX6_init 20 = .ok (.invokespecial 18, 3) := by decide +kernel
theorem dX6_init_23 : decode cX6_init 23 = .ok (.putfield 19, 3) := by decide +kernel
theorem dX6_init_26 : decode cX6_init 26 = .ok (.aload_n 0, 1) := by decide +kernel
theorem dX6_init_27 : decode cX6_init 27 = .ok (.sipush 800, 3) := by decide +kernel
theorem dX6_init_30 : decode cX6_init 30 = .ok (.putfield 23, 3) := by decide +kernel
theorem dX6_init_33 : decode cX6_init 33 = .ok (.aload_n 0, 1) := by decide +kernel
theorem dX6_init_34 : decode cX6_init 34 = .ok (.bipush 80, 2) := by decide +kernel
theorem dX6_init_36 : decode cX6_init 36 = .ok (.putfield 27, 3) := by decide +kernel
theorem dX6_init_39 : decode cX6_init 39 = .ok (.aload_n 0, 1) := by decide +kernel
theorem dX6_init_40 : decode cX6_init 40 = .ok (.bipush 50, 2) := by decide +kernel
theorem dX6_init_42 : decode cX6_init 42 = .ok (.putfield 30, 3) := by decide +kernel
