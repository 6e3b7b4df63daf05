theorem dX0_init_0 : decode cX0_init 0 = .ok (.aload_n 0, 1) := by decide +kernel
theorem dX0_init_1 : decode cX0_init 1 = .ok (.invokespecial 3, 3) := by decide +kernel
theorem dX0_init_4 : decode cX0_init 4 = .ok (.aload_n 0, 1) := by decide +kernel
theorem dX0_init_5 : decode cX0_init 5 = .ok (.iconst 4, 1) := by decide +kernel
theorem dX0_init_6 : decode cX0_init 6 = .ok (.newarray .int, 2) := by decide +kernel
theorem dX0_init_8 : decode cX0_init 8 = .ok (.putfield 9, 3) := by decide +kernel
theorem dX0_init_11 : decode cX0_init 11 = .ok (.aload_n 0, 1) := by decide +kernel
theorem dX0_init_12 : decode cX0_init 12 = .ok (.iconst 4, 1) := by decide +kernel
theorem dX0_init_13 : decode cX0_init 13 = .ok (.newarray .int, 2) := by decide +kernel
theorem dX0_init_15 : decode cX0_init 15 = .ok (.putfield 15, 3) := by decide +kernel
theorem dX0_init_18 : decode cX0_init 18 = .ok (.aload_n 0, 1) := by decide +kernel
theorem dX0_init_19 : decode cX0_init 19 = .ok (.iconst 4, 1) := by decide +kernel
theorem dX0_init_20 : decode cX0_init 20 = .ok (.newarray .int, 2) := by decide +kernel
theorem dX0_init_22 : decode cX0_init 22 = .ok (.putfield 18, 3) := by decide +kernel
theorem dX0_init_25 : decode cX0_init 25 = .ok (.aload_n 0, 1) := by decide +kernel
theorem dX0_init_26 : decode cX0_init 26 = .ok (.iconst 0, 1) := by decide +kernel
theorem dX0_init_27 : decode cX0_init 27 = .ok (.putfield 21, 3) := by decide +kernel
theorem dX0_init_30 : decode cX0_init 30 = .ok (.return_, 1) := by decide +kernel
theorem dX0_install_0 : decode cX0_install 0 = .ok (.aload_n 0, 1) := by decide +kernel
theorem dX0_install_1 : decode cX0_install 1 = .ok (.getfield 21, 3) := by decide +kernel
theorem dX0_install_4 : decode cX0_install 4 = .ok (.istore 4, 2) := by decide +kernel
theorem dX0_install_6 : decode cX0_install 6 = .ok (.iload 4, 2) := by decide +kernel
theorem dX0_install_8 : decode cX0_install 8 = .ok (.iconst 4, 1) := by decide +kernel
theorem dX0_install_9 : decode cX0_install 9 = .ok (.if_icmp .lt 5, 3) := by decide +kernel
theorem dX0_install_12 : decode cX0_install 12 = .ok (.iconst (-1), 1) := by decide +kernel
theorem dX0_install_13 : decode cX0_install 13 = .ok (.ireturn, 1) := by decide +kernel
theorem dX0_install_14 : decode cX0_install 14 = .ok (.aload_n 0, 1) := by decide +kernel
theorem dX0_install_15 : decode cX0_install 15 = .ok (.getfield 9, 3) := by decide +kernel
theorem dX0_install_18 : decode cX0_install 18 = .ok (.iload 4, 2) := by decide +kernel
theorem dX0_install_20 : decode cX0_install 20 = .ok (.iload_n 1, 1) := by decide +kernel
theorem dX0_install_21 : decode cX0_install 21 = .ok (.iastore, 1) := by decide +kernel
theorem dX0_install_22 : decode cX0_install 22 = .ok (.aload_n 0, 1) := by decide +kernel
theorem dX0_install_23 : decode cX0_install 23 = .ok (.getfield 15, 3) := by decide +kernel
theorem dX0_install_26 : decode cX0_install 26 = .ok (.iload 4, 2) := by decide +kernel
theorem dX0_install_28 : decode cX0_install 28 = .ok (.iload_n 2, 1) := by decide +kernel
theorem dX0_install_29 : decode cX0_install 29 = .ok (.iastore, 1) := by decide +kernel
theorem dX0_install_30 : decode cX0_install 30 = .ok (.aload_n 0, 1) := by decide +kernel
theorem dX0_install_31 : decode cX0_install 31 = .ok (.getfield 18, 3) := by decide +kernel
theorem dX0_install_34 : decode cX0_install 34 = .ok (.iload 4, 2) := by decide +kernel
theorem dX0_install_36 : decode cX0_install 36 = .ok (.iload_n 3, 1) := by decide +kernel
theorem dX0_install_37 : decode cX0_install 37 = .ok (.iastore, 1) := by decide +kernel
theorem dX0_install_38 : decode cX0_install 38 = .ok (.aload_n 0, 1) := by decide +kernel
theorem dX0_install_39 : decode cX0_install 39 = .ok (.iload 4, 2) := by decide +kernel
theorem dX0_install_41 : decode cX0_install 41 = .ok (.iconst 1, 1) := by decide +kernel
theorem dX0_install_42 : decode cX0_install 42 = .ok (.iadd, 1) := by decide +kernel
theorem dX0_install_43 : decode cX0_install 43 = .ok (.putfield 21, 3) := by decide +kernel
theorem dX0_install_46 : decode cX0_install 46 = .ok (.iload 4, 2) := by decide +kernel
theorem dX0_install_48 : decode cX0_install 48 = .ok (.ireturn, 1) := by decide +kernel
theorem dX0_copyFrom_0 : decode cX0_copyFrom 0 = .ok (.aload_n 1, 1) := by decide +kernel
theorem dX0_copyFrom_1 : decode cX0_copyFrom 1 = .ok (.getfield 9, 3) := by decide +kernel
theorem dX0_copyFrom_4 : decode cX0_copyFrom 4 = .ok (.aload_n 0, 1) := by decide +kernel
theorem dX0_copyFrom_5 : decode cX0_copyFrom 5 = .ok (.getfield 9, 3) := by decide +kernel
theorem dX0_copyFrom_8 : decode cX0_copyFrom 8 = .ok (.invokestatic 25, 3) := by decide +kernel
theorem dX0_copyFrom_11 : decode cX0_copyFrom 11 = .ok (.aload_n 1, 1) := by decide +kernel
theorem dX0_copyFrom_12 : decode cX0_copyFrom 12 = .ok (.getfield 15, 3) := by decide +kernel
theorem dX0_copyFrom_15 : decode cX0_copyFrom 15 = .ok (.aload_n 0, 1) := by decide +kernel
theorem dX0_copyFrom_16 : decode cX0_copyFrom 16 = .ok (.getfield 15, 3) := by decide +kernel
theorem dX0_copyFrom_19 : decode cX0_copyFrom 19 = .ok (.invokestatic 25, 3) := by decide +kernel
theorem dX0_copyFrom_22 : decode cX0_copyFrom 22 = .ok (.aload_n 1, 1) := by decide +kernel
theorem dX0_copyFrom_23 : decode cX0_copyFrom 23 = .ok (.getfield 18, 3) := by decide +kernel
theorem dX0_copyFrom_26 : decode cX0_copyFrom 26 = .ok (.aload_n 0, 1) := by decide +kernel
theorem dX0_copyFrom_27 : decode cX0_copyFrom 27 = .ok (.getfield 18, 3) := by decide +kernel
theorem dX0_copyFrom_30 : decode cX0_copyFrom 30 = .ok (.invokestatic 25, 3) := by decide +kernel
theorem dX0_copyFrom_33 : decode cX0_copyFrom 33 = .ok (.aload_n 0, 1) := by decide +kernel
theorem dX0_copyFrom_34 : decode cX0_copyFrom 34 = .ok (.aload_n 1, 1) := by decide +kernel
theorem dX0_copyFrom_35 : decode cX0_copyFrom 35 = .ok (.getfield 21, 3) := by decide +kernel
theorem dX0_copyFrom_38 : decode cX0_copyFrom 38 = .ok (.putfield 21, 3) := by decide +kernel
theorem dX0_copyFrom_41 : decode cX0_copyFrom 41 = .ok (.return_, 1) := by decide +kernel
theorem dX0_placeOf_0 : decode cX0_placeOf 0 = .ok (.iconst 0, 1) := by decide +kernel
theorem dX0_placeOf_1 : decode cX0_placeOf 1 = .ok (.istore_n 2, 1) := by decide +kernel
theorem dX0_placeOf_2 : decode cX0_placeOf 2 = .ok (.iconst 0, 1) := by decide +kernel
theorem dX0_placeOf_3 : decode cX0_placeOf 3 = .ok (.istore_n 3, 1) := by decide +kernel
theorem dX0_placeOf_4 : decode cX0_placeOf 4 = .ok (.iload_n 3, 1) := by decide +kernel
theorem dX0_placeOf_5 : decode cX0_placeOf 5 = .ok (.aload_n 0, 1) := by decide +kernel
theorem dX0_placeOf_6 : decode cX0_placeOf 6 = .ok (.getfield 21, 3) := by decide +kernel
theorem dX0_placeOf_9 : decode cX0_placeOf 9 = .ok (.if_icmp .ge 47, 3) := by decide +kernel
theorem dX0_placeOf_12 : decode cX0_placeOf 12 = .ok (.aload_n 0, 1) := by decide +kernel
theorem dX0_placeOf_13 : decode cX0_placeOf 13 = .ok (.getfield 18, 3) := by decide +kernel
theorem dX0_placeOf_16 : decode cX0_placeOf 16 = .ok (.iload_n 3, 1) := by decide +kernel
theorem dX0_placeOf_17 : decode cX0_placeOf 17 = .ok (.iaload, 1) := by decide +kernel
theorem dX0_placeOf_18 : decode cX0_placeOf 18 = .ok (.aload_n 0, 1) := by decide +kernel
theorem dX0_placeOf_19 : decode cX0_placeOf 19 = .ok (.getfield 18, 3) := by decide +kernel
theorem dX0_placeOf_22 : decode cX0_placeOf 22 = .ok (.iload_n 1, 1) := by decide +kernel
theorem dX0_placeOf_23 : decode cX0_placeOf 23 = .ok (.iaload, 1) := by decide +kernel
theorem dX0_placeOf_24 : decode cX0_placeOf 24 = .ok (.if_icmp .lt 23, 3) := by decide +kernel
theorem dX0_placeOf_27 : decode cX0_placeOf 27 = .ok (.aload_n 0, 1) := by decide +kernel
theorem dX0_placeOf_28 : decode cX0_placeOf 28 = .ok (.getfield 18, 3) := by decide +kernel
theorem dX0_placeOf_31 : decode cX0_placeOf 31 = .ok (.iload_n 3, 1) := by decide +kernel
theorem dX0_placeOf_32 : decode cX0_placeOf 32 = .ok (.iaload, 1) := by decide +kernel
theorem dX0_placeOf_33 : decode cX0_placeOf 33 = .ok (.aload_n 0, 1) := by decide +kernel
theorem dX0_placeOf_34 : decode cX0_placeOf 34 = .ok (.getfield 18, 3) := by decide +kernel
theorem dX0_placeOf_37 : decode cX0_placeOf 37 = .ok (.iload_n 1, 1) := by decide +kernel
theorem dX0_placeOf_38 : decode cX0_placeOf 38 = .ok (.iaload, 1) := by decide +kernel
theorem dX0_placeOf_39 : decode cX0_placeOf 39 = .ok (.if_icmp .ne 11, 3) := by decide +kernel
theorem dX0_placeOf_42 : decode cX0_placeOf 42 = .ok (.iload_n 3, 1) := by decide +kernel
theorem dX0_placeOf_43 : decode cX0_placeOf 43 = .ok (.iload_n 1, 1) := by decide +kernel
theorem dX0_placeOf_44 : decode cX0_placeOf 44 = .ok (.if_icmp .ge 6, 3) := by decide +kernel
theorem dX0_placeOf_47 : decode cX0_placeOf 47 = .ok (.iinc 2 1, 3) := by decide +kernel
theorem dX0_placeOf_50 : decode cX0_placeOf 50 = .ok (.iinc 3 1, 3) := by decide +kernel
theorem dX0_placeOf_53 : decode cX0_placeOf 53 = .ok (.goto (-49), 3) := by decide +kernel
theorem dX0_placeOf_56 : decode cX0_placeOf 56 = .ok (.iload_n 2, 1) := by decide +kernel
theorem dX0_placeOf_57 : decode cX0_placeOf 57 = .ok (.ireturn, 1) := by decide +kernel
theorem dX0_atPlace_0 : decode cX0_atPlace 0 = .ok (.iconst 0, 1) := by decide +kernel
theorem dX0_atPlace_1 : decode cX0_atPlace 1 = .ok (.istore_n 2, 1) := by decide +kernel
theorem dX0_atPlace_2 : decode cX0_atPlace 2 = .ok (.iload_n 2, 1) := by decide +kernel
theorem dX0_atPlace_3 : decode cX0_atPlace 3 = .ok (.aload_n 0, 1) := by decide +kernel
theorem dX0_atPlace_4 : decode cX0_atPlace 4 = .ok (.getfield 21, 3) := by decide +kernel
theorem dX0_atPlace_7 : decode cX0_atPlace 7 = .ok (.if_icmp .ge 20, 3) := by decide +kernel
theorem dX0_atPlace_10 : decode cX0_atPlace 10 = .ok (.aload_n 0, 1) := by decide +kernel
theorem dX0_atPlace_11 : decode cX0_atPlace 11 = .ok (.iload_n 2, 1) := by decide +kernel
theorem dX0_atPlace_12 : decode cX0_atPlace 12 = .ok (.invokevirtual 29, 3) := by decide +kernel
theorem dX0_atPlace_15 : decode cX0_atPlace 15 = .ok (.iload_n 1, 1) := by decide +kernel
theorem dX0_atPlace_16 : decode cX0_atPlace 16 = .ok (.if_icmp .ne 5, 3) := by decide +kernel
theorem dX0_atPlace_19 : decode cX0_atPlace 19 = .ok (.iload_n 2, 1) := by decide +kernel
theorem dX0_atPlace_20 : decode cX0_atPlace 20 = .ok (.ireturn, 1) := by decide +kernel
theorem dX0_atPlace_21 : decode cX0_atPlace 21 = .ok (.iinc 2 1, 3) := by decide +kernel
theorem dX0_atPlace_24 : decode cX0_atPlace 24 = .ok (.goto (-22), 3) := by decide +kernel
theorem dX0_atPlace_27 : decode cX0_atPlace 27 = .ok (.iconst (-1), 1) := by decide +kernel
theorem dX0_atPlace_28 : decode cX0_atPlace 28 = .ok (.ireturn, 1) := by decide +kernel
theorem dX1_init_0 : decode cX1_init 0 = .ok (.aload_n 0, 1) := by decide +kernel
theorem dX1_init_1 : decode cX1_init 1 = .ok (.invokespecial 3, 3) := by decide +kernel
theorem dX1_init_4 : decode cX1_init 4 = .ok (.aload_n 0, 1) := by decide +kernel
theorem dX1_init_5 : decode cX1_init 5 = .ok (.iconst 4, 1) := by decide +kernel
theorem dX1_init_6 : decode cX1_init 6 = .ok (.anewarray 9, 3) := by decide +kernel
theorem dX1_init_9 : decode cX1_init 9 = .ok (.putfield 11, 3) := by decide +kernel
theorem dX1_init_12 : decode cX1_init 12 = .ok (.aload_n 0, 1) := by decide +kernel
theorem dX1_init_13 : decode cX1_init 13 = .ok (.iconst 0, 1) := by decide +kernel
theorem dX1_init_14 : decode cX1_init 14 = .ok (.putfield 17, 3) := by decide +kernel
theorem dX1_init_17 : decode cX1_init 17 = .ok (.aload_n 0, 1) := by decide +kernel
theorem dX1_init_18 : decode cX1_init 18 = .ok (.iconst 0, 1) := by decide +kernel
theorem dX1_init_19 : decode cX1_init 19 = .ok (.putfield 21, 3) := by decide +kernel
theorem dX1_init_22 : decode cX1_init 22 = .ok (.iconst 0, 1) := by decide +kernel
theorem dX1_init_23 : decode cX1_init 23 = .ok (.istore_n 1, 1) := by decide +kernel
theorem dX1_init_24 : decode cX1_init 24 = .ok (.iload_n 1, 1) := by decide +kernel
theorem dX1_init_25 : decode cX1_init 25 = .ok (.iconst 4, 1) := by decide +kernel
theorem dX1_init_26 : decode cX1_init 26 = .ok (.if_icmp .ge 22, 3) := by decide +kernel
theorem dX1_init_29 : decode cX1_init 29 = .ok (.aload_n 0, 1) := by decide +kernel
theorem dX1_init_30 : decode cX1_init 30 = .ok (.getfield 11, 3) := by decide +kernel
theorem dX1_init_33 : decode cX1_init 33 = .ok (.iload_n 1, 1) := by decide +kernel
theorem dX1_init_34 : decode cX1_init 34 = .ok (.new 9, 3) := by decide +kernel
theorem dX1_init_37 : decode cX1_init 37 = .ok (.dup, 1) := by decide +kernel
theorem dX1_init_38 : decode cX1_init 38 = .ok (.invokespecial 24, 3) := by decide +kernel
theorem dX1_init_41 : decode cX1_init 41 = .ok (.aastore, 1) := by decide +kernel
theorem dX1_init_42 : decode cX1_init 42 = .ok (.iinc 1 1, 3) := by decide +kernel
theorem dX1_init_45 : decode cX1_init 45 = .ok (.goto (-21), 3) := by decide +kernel
theorem dX1_init_48 : decode cX1_init 48 = .ok (.return_, 1) := by decide +kernel
theorem dX1_slot_0 : decode cX1_slot 0 = .ok (.aload_n 0, 1) := by decide +kernel
theorem dX1_slot_1 : decode cX1_slot 1 = .ok (.getfield 17, 3) := by decide +kernel
theorem dX1_slot_4 : decode cX1_slot 4 = .ok (.iload_n 1, 1) := by decide +kernel
theorem dX1_slot_5 : decode cX1_slot 5 = .ok (.iadd, 1) := by decide +kernel
theorem dX1_slot_6 : decode cX1_slot 6 = .ok (.iconst 4, 1) := by decide +kernel
theorem dX1_slot_7 : decode cX1_slot 7 = .ok (.irem, 1) := by decide +kernel
theorem dX1_slot_8 : decode cX1_slot 8 = .ok (.istore_n 2, 1) := by decide +kernel
theorem dX1_slot_9 : decode cX1_slot 9 = .ok (.iload_n 2, 1) := by decide +kernel
theorem dX1_slot_10 : decode cX1_slot 10 = .ok (.ifCond .lt 12, 3) := by decide +kernel
theorem dX1_slot_13 : decode cX1_slot 13 = .ok (.aload_n 0, 1) := by decide +kernel
theorem dX1_slot_14 : decode cX1_slot 14 = .ok (.getfield 11, 3) := by decide +kernel
theorem dX1_slot_17 : decode cX1_slot 17 = .ok (.iload_n 2, 1) := by decide +kernel
theorem dX1_slot_18 : decode cX1_slot 18 = .ok (.aaload, 1) := by decide +kernel
theorem dX1_slot_19 : decode cX1_slot 19 = .ok (.goto 4, 3) := by decide +kernel
theorem dX1_slot_22 : decode cX1_slot 22 = .ok (.aconst_null, 1) := by decide +kernel
theorem dX1_slot_23 : decode cX1_slot 23 = .ok (.areturn, 1) := by decide +kernel
theorem dX1_keep_0 : decode cX1_keep 0 = .ok (.aload_n 0, 1) := by decide +kernel
theorem dX1_keep_1 : decode cX1_keep 1 = .ok (.aload_n 0, 1) := by decide +kernel
theorem dX1_keep_2 : decode cX1_keep 2 = .ok (.getfield 21, 3) := by decide +kernel
theorem dX1_keep_5 : decode cX1_keep 5 = .ok (.invokevirtual 25, 3) := by decide +kernel
theorem dX1_keep_8 : decode cX1_keep 8 = .ok (.astore_n 2, 1) := by decide +kernel
theorem dX1_keep_9 : decode cX1_keep 9 = .ok (.aload_n 2, 1) := by decide +kernel
theorem dX1_keep_10 : decode cX1_keep 10 = .ok (.ifnonnull 4, 3) := by decide +kernel
theorem dX1_keep_13 : decode cX1_keep 13 = .ok (.return_, 1) := by decide +kernel
theorem dX1_keep_14 : decode cX1_keep 14 = .ok (.aload_n 2, 1) := by decide +kernel
theorem dX1_keep_15 : decode cX1_keep 15 = .ok (.aload_n 1, 1) := by decide +kernel
theorem dX1_keep_16 : decode cX1_keep 16 = .ok (.invokevirtual 29, 3) := by decide +kernel
theorem dX1_keep_19 : decode cX1_keep 19 = .ok (.aload_n 0, 1) := by decide +kernel
theorem dX1_keep_20 : decode cX1_keep 20 = .ok (.getfield 21, 3) := by decide +kernel
theorem dX1_keep_23 : decode cX1_keep 23 = .ok (.iconst 4, 1) := by decide +kernel
theorem dX1_keep_24 : decode cX1_keep 24 = .ok (.if_icmp .ge 16, 3) := by decide +kernel
theorem dX1_keep_27 : decode cX1_keep 27 = .ok (.aload_n 0, 1) := by decide +kernel
theorem dX1_keep_28 : decode cX1_keep 28 = .ok (.dup, 1) := by decide +kernel
theorem dX1_keep_29 : decode cX1_keep 29 = .ok (.getfield 21, 3) := by decide +kernel
theorem dX1_keep_32 : decode cX1_keep 32 = .ok (.iconst 1, 1) := by decide +kernel
theorem dX1_keep_33 : decode cX1_keep 33 = .ok (.iadd, 1) := by decide +kernel
theorem dX1_keep_34 : decode cX1_keep 34 = .ok (.putfield 21, 3) := by decide +kernel
theorem dX1_keep_37 : decode cX1_keep 37 = .ok (.goto 15, 3) := by decide +kernel
theorem dX1_keep_40 : decode cX1_keep 40 = .ok (.aload_n 0, 1) := by decide +kernel
theorem dX1_keep_41 : decode cX1_keep 41 = .ok (.aload_n 0, 1) := by decide +kernel
theorem dX1_keep_42 : decode cX1_keep 42 = .ok (.getfield 17, 3) := by decide +kernel
theorem dX1_keep_45 : decode cX1_keep 45 = .ok (.iconst 1, 1) := by decide +kernel
theorem dX1_keep_46 : decode cX1_keep 46 = .ok (.iadd, 1) := by decide +kernel
theorem dX1_keep_47 : decode cX1_keep 47 = .ok (.iconst 4, 1) := by decide +kernel
theorem dX1_keep_48 : decode cX1_keep 48 = .ok (.irem, 1) := by decide +kernel
theorem dX1_keep_49 : decode cX1_keep 49 = .ok (.putfield 17, 3) := by decide +kernel
theorem dX1_keep_52 : decode cX1_keep 52 = .ok (.return_, 1) := by decide +kernel
theorem dX1_bringBack_0 : decode cX1_bringBack 0 = .ok (.aload_n 0, 1) := by decide +kernel
theorem dX1_bringBack_1 : decode cX1_bringBack 1 = .ok (.aload_n 0, 1) := by decide +kernel
theorem dX1_bringBack_2 : decode cX1_bringBack 2 = .ok (.getfield 21, 3) := by decide +kernel
theorem dX1_bringBack_5 : decode cX1_bringBack 5 = .ok (.iconst 1, 1) := by decide +kernel
theorem dX1_bringBack_6 : decode cX1_bringBack 6 = .ok (.isub, 1) := by decide +kernel
theorem dX1_bringBack_7 : decode cX1_bringBack 7 = .ok (.invokevirtual 25, 3) := by decide +kernel
theorem dX1_bringBack_10 : decode cX1_bringBack 10 = .ok (.astore_n 2, 1) := by decide +kernel
theorem dX1_bringBack_11 : decode cX1_bringBack 11 = .ok (.aload_n 2, 1) := by decide +kernel
theorem dX1_bringBack_12 : decode cX1_bringBack 12 = .ok (.ifnonnull 4, 3) := by decide +kernel
theorem dX1_bringBack_15 : decode cX1_bringBack 15 = .ok (.return_, 1) := by decide +kernel
theorem dX1_bringBack_16 : decode cX1_bringBack 16 = .ok (.aload_n 1, 1) := by decide +kernel
theorem dX1_bringBack_17 : decode cX1_bringBack 17 = .ok (.aload_n 2, 1) := by decide +kernel
theorem dX1_bringBack_18 : decode cX1_bringBack 18 = .ok (.invokevirtual 29, 3) := by decide +kernel
theorem dX1_bringBack_21 : decode cX1_bringBack 21 = .ok (.aload_n 0, 1) := by decide +kernel
theorem dX1_bringBack_22 : decode cX1_bringBack 22 = .ok (.dup, 1) := by decide +kernel
theorem dX1_bringBack_23 : decode cX1_bringBack 23 = .ok (.getfield 21, 3) := by decide +kernel
theorem dX1_bringBack_26 : decode cX1_bringBack 26 = .ok (.iconst 1, 1) := by decide +kernel
theorem dX1_bringBack_27 : decode cX1_bringBack 27 = .ok (.isub, 1) := by decide +kernel
theorem dX1_bringBack_28 : decode cX1_bringBack 28 = .ok (.putfield 21, 3) := by decide +kernel
theorem dX1_bringBack_31 : decode cX1_bringBack 31 = .ok (.return_, 1) := by decide +kernel
theorem dX2_init_0 : decode cX2_init 0 = .ok (.aload_n 0, 1) := by decide +kernel
theorem dX2_init_1 : decode cX2_init 1 = .ok (.invokespecial 3, 3) := by decide +kernel
theorem dX2_init_4 : decode cX2_init 4 = .ok (.aload_n 0, 1) := by decide +kernel
theorem dX2_init_5 : decode cX2_init 5 = .ok (.bipush 16, 2) := by decide +kernel
theorem dX2_init_7 : decode cX2_init 7 = .ok (.newarray .int, 2) := by decide +kernel
theorem dX2_init_9 : decode cX2_init 9 = .ok (.putfield 9, 3) := by decide +kernel
theorem dX2_init_12 : decode cX2_init 12 = .ok (.aload_n 0, 1) := by decide +kernel
theorem dX2_init_13 : decode cX2_init 13 = .ok (.bipush 16, 2) := by decide +kernel
theorem dX2_init_15 : decode cX2_init 15 = .ok (.newarray .int, 2) := by decide +kernel
theorem dX2_init_17 : decode cX2_init 17 = .ok (.putfield 15, 3) := by decide +kernel
theorem dX2_init_20 : decode cX2_init 20 = .ok (.aload_n 0, 1) := by decide +kernel
theorem dX2_init_21 : decode cX2_init 21 = .ok (.bipush 16, 2) := by decide +kernel
theorem dX2_init_23 : decode cX2_init 23 = .ok (.newarray .int, 2) := by decide +kernel
theorem dX2_init_25 : decode cX2_init 25 = .ok (.putfield 18, 3) := by decide +kernel
theorem dX2_init_28 : decode cX2_init 28 = .ok (.aload_n 0, 1) := by decide +kernel
theorem dX2_init_29 : decode cX2_init 29 = .ok (.iconst 4, 1) := by decide +kernel
theorem dX2_init_30 : decode cX2_init 30 = .ok (.newarray .int, 2) := by decide +kernel
theorem dX2_init_32 : decode cX2_init 32 = .ok (.putfield 21, 3) := by decide +kernel
theorem dX2_init_35 : decode cX2_init 35 = .ok (.aload_n 0, 1) := by decide +kernel
theorem dX2_init_36 : decode cX2_init 36 = .ok (.iconst 0, 1) := by decide +kernel
theorem dX2_init_37 : decode cX2_init 37 = .ok (.putfield 24, 3) := by decide +kernel
theorem dX2_init_40 : decode cX2_init 40 = .ok (.aload_n 0, 1) := by decide +kernel
theorem dX2_init_41 : decode cX2_init 41 = .ok (.iconst 0, 1) := by decide +kernel
theorem dX2_init_42 : decode cX2_init 42 = .ok (.putfield 28, 3) := by decide +kernel
theorem dX2_init_45 : decode cX2_init 45 = .ok (.aload_n 0, 1) := by decide +kernel
theorem dX2_init_46 : decode cX2_init 46 = .ok (.iconst 0, 1) := by decide +kernel
theorem dX2_init_47 : decode cX2_init 47 = .ok (.putfield 31, 3) := by decide +kernel
theorem dX2_init_50 : decode cX2_init 50 = .ok (.return_, 1) := by decide +kernel
theorem dX2_settle_0 : decode cX2_settle 0 = .ok (.aload_n 0, 1) := by decide +kernel
theorem dX2_settle_1 : decode cX2_settle 1 = .ok (.aload_n 1, 1) := by decide +kernel
theorem dX2_settle_2 : decode cX2_settle 2 = .ok (.getfield 34, 3) := by decide +kernel
theorem dX2_settle_5 : decode cX2_settle 5 = .ok (.invokevirtual 40, 3) := by decide +kernel
theorem dX2_settle_8 : decode cX2_settle 8 = .ok (.aload_n 0, 1) := by decide +kernel
theorem dX2_settle_9 : decode cX2_settle 9 = .ok (.aload_n 1, 1) := by decide +kernel
theorem dX2_settle_10 : decode cX2_settle 10 = .ok (.iload_n 2, 1) := by decide +kernel
theorem dX2_settle_11 : decode cX2_settle 11 = .ok (.invokevirtual 44, 3) := by decide +kernel
theorem dX2_settle_14 : decode cX2_settle 14 = .ok (.aload_n 0, 1) := by decide +kernel
theorem dX2_settle_15 : decode cX2_settle 15 = .ok (.aload_n 1, 1) := by decide +kernel
theorem dX2_settle_16 : decode cX2_settle 16 = .ok (.getfield 34, 3) := by decide +kernel
theorem dX2_settle_19 : decode cX2_settle 19 = .ok (.invokevirtual 48, 3) := by decide +kernel
theorem dX2_settle_22 : decode cX2_settle 22 = .ok (.aload_n 0, 1) := by decide +kernel
theorem dX2_settle_23 : decode cX2_settle 23 = .ok (.iconst 0, 1) := by decide +kernel
theorem dX2_settle_24 : decode cX2_settle 24 = .ok (.aload_n 0, 1) := by decide +kernel
theorem dX2_settle_25 : decode cX2_settle 25 = .ok (.getfield 9, 3) := by decide +kernel
theorem dX2_settle_28 : decode cX2_settle 28 = .ok (.iconst 0, 1) := by decide +kernel
theorem dX2_settle_29 : decode cX2_settle 29 = .ok (.iaload, 1) := by decide +kernel
theorem dX2_settle_30 : decode cX2_settle 30 = .ok (.iload_n 2, 1) := by decide +kernel
theorem dX2_settle_31 : decode cX2_settle 31 = .ok (.imul, 1) := by decide +kernel
theorem dX2_settle_32 : decode cX2_settle 32 = .ok (.aload_n 0, 1) := by decide +kernel
theorem dX2_settle_33 : decode cX2_settle 33 = .ok (.getfield 18, 3) := by decide +kernel
theorem dX2_settle_36 : decode cX2_settle 36 = .ok (.iconst 0, 1) := by decide +kernel
theorem dX2_settle_37 : decode cX2_settle 37 = .ok (.iaload, 1) := by decide +kernel
theorem dX2_settle_38 : decode cX2_settle 38 = .ok (.isub, 1) := by decide +kernel
theorem dX2_settle_39 : decode cX2_settle 39 = .ok (.invokestatic 51, 3) := by decide +kernel
theorem dX2_settle_42 : decode cX2_settle 42 = .ok (.putfield 24, 3) := by decide +kernel
theorem dX2_settle_45 : decode cX2_settle 45 = .ok (.aload_n 0, 1) := by decide +kernel
theorem dX2_settle_46 : decode cX2_settle 46 = .ok (.aload_n 1, 1) := by decide +kernel
theorem dX2_settle_47 : decode cX2_settle 47 = .ok (.getfield 57, 3) := by decide +kernel
theorem dX2_settle_50 : decode cX2_settle 50 = .ok (.invokevirtual 61, 3) := by decide +kernel
theorem dX2_settle_53 : decode cX2_settle 53 = .ok (.return_, 1) := by decide +kernel
theorem dX2_settleFlows_0 : decode cX2_settleFlows 0 = .ok (.iconst 0, 1) := by decide +kernel
theorem dX2_settleFlows_1 : decode cX2_settleFlows 1 = .ok (.istore_n 2, 1) := by decide +kernel
theorem dX2_settleFlows_2 : decode cX2_settleFlows 2 = .ok (.iload_n 2, 1) := by decide +kernel
theorem dX2_settleFlows_3 : decode cX2_settleFlows 3 = .ok (.aload_n 1, 1) := by decide +kernel
theorem dX2_settleFlows_4 : decode cX2_settleFlows 4 = .ok (.getfield 65, 3) := by decide +kernel
theorem dX2_settleFlows_7 : decode cX2_settleFlows 7 = .ok (.if_icmp .ge 28, 3) := by decide +kernel
theorem dX2_settleFlows_10 : decode cX2_settleFlows 10 = .ok (.aload_n 0, 1) := by decide +kernel
theorem dX2_settleFlows_11 : decode cX2_settleFlows 11 = .ok (.getfield 9, 3) := by decide +kernel
theorem dX2_settleFlows_14 : decode cX2_settleFlows 14 = .ok (.iload_n 2, 1) := by decide +kernel
theorem dX2_settleFlows_15 : decode cX2_settleFlows 15 = .ok (.aload_n 1, 1) := by decide +kernel
theorem dX2_settleFlows_16 : decode cX2_settleFlows 16 = .ok (.getfield 70, 3) := by decide +kernel
theorem dX2_settleFlows_19 : decode cX2_settleFlows 19 = .ok (.iload_n 2, 1) := by decide +kernel
theorem dX2_settleFlows_20 : decode cX2_settleFlows 20 = .ok (.iaload, 1) := by decide +kernel
theorem dX2_settleFlows_21 : decode cX2_settleFlows 21 = .ok (.aload_n 1, 1) := by decide +kernel
theorem dX2_settleFlows_22 : decode cX2_settleFlows 22 = .ok (.getfield 73, 3) := by decide +kernel
theorem dX2_settleFlows_25 : decode cX2_settleFlows 25 = .ok (.iload_n 2, 1) := by decide +kernel
theorem dX2_settleFlows_26 : decode cX2_settleFlows 26 = .ok (.iaload, 1) := by decide +kernel
theorem dX2_settleFlows_27 : decode cX2_settleFlows 27 = .ok (.iadd, 1) := by decide +kernel
theorem dX2_settleFlows_28 : decode cX2_settleFlows 28 = .ok (.iastore, 1) := by decide +kernel
theorem dX2_settleFlows_29 : decode cX2_settleFlows 29 = .ok (.iinc 2 1, 3) := by decide +kernel
theorem dX2_settleFlows_32 : decode cX2_settleFlows 32 = .ok (.goto (-30), 3) := by decide +kernel
theorem dX2_settleFlows_35 : decode cX2_settleFlows 35 = .ok (.aload_n 1, 1) := by decide +kernel
theorem dX2_settleFlows_36 : decode cX2_settleFlows 36 = .ok (.aload_n 0, 1) := by decide +kernel
theorem dX2_settleFlows_37 : decode cX2_settleFlows 37 = .ok (.getfield 9, 3) := by decide +kernel
theorem dX2_settleFlows_40 : decode cX2_settleFlows 40 = .ok (.invokestatic 76, 3) := by decide +kernel
theorem dX2_settleFlows_43 : decode cX2_settleFlows 43 = .ok (.return_, 1) := by decide +kernel
theorem dX2_settleWarmth_0 : decode cX2_settleWarmth 0 = .ok (.aload_n 1, 1) := by decide +kernel
theorem dX2_settleWarmth_1 : decode cX2_settleWarmth 1 = .ok (.getfield 34, 3) := by decide +kernel
theorem dX2_settleWarmth_4 : decode cX2_settleWarmth 4 = .ok (.astore_n 3, 1) := by decide +kernel
theorem dX2_settleWarmth_5 : decode cX2_settleWarmth 5 = .ok (.aload_n 0, 1) := by decide +kernel
theorem dX2_settleWarmth_6 : decode cX2_settleWarmth 6 = .ok (.getfield 15, 3) := by decide +kernel
theorem dX2_settleWarmth_9 : decode cX2_settleWarmth 9 = .ok (.iconst 0, 1) := by decide +kernel
theorem dX2_settleWarmth_10 : decode cX2_settleWarmth 10 = .ok (.iload_n 2, 1) := by decide +kernel
theorem dX2_settleWarmth_11 : decode cX2_settleWarmth 11 = .ok (.iastore, 1) := by decide +kernel
theorem dX2_settleWarmth_12 : decode cX2_settleWarmth 12 = .ok (.iconst 1, 1) := by decide +kernel
theorem dX2_settleWarmth_13 : decode cX2_settleWarmth 13 = .ok (.istore 4, 2) := by decide +kernel
theorem dX2_settleWarmth_15 : decode cX2_settleWarmth 15 = .ok (.iload 4, 2) := by decide +kernel
theorem dX2_settleWarmth_17 : decode cX2_settleWarmth 17 = .ok (.aload_n 3, 1) := by decide +kernel
theorem dX2_settleWarmth_18 : decode cX2_settleWarmth 18 = .ok (.getfield 65, 3) := by decide +kernel
theorem dX2_settleWarmth_21 : decode cX2_settleWarmth 21 = .ok (.if_icmp .ge 56, 3) := by decide +kernel
theorem dX2_settleWarmth_24 : decode cX2_settleWarmth 24 = .ok (.aload_n 3, 1) := by decide +kernel
theorem dX2_settleWarmth_25 : decode cX2_settleWarmth 25 = .ok (.getfield 80, 3) := by decide +kernel
theorem dX2_settleWarmth_28 : decode cX2_settleWarmth 28 = .ok (.iload 4, 2) := by decide +kernel
theorem dX2_settleWarmth_30 : decode cX2_settleWarmth 30 = .ok (.iaload, 1) := by decide +kernel
theorem dX2_settleWarmth_31 : decode cX2_settleWarmth 31 = .ok (.aload_n 3, 1) := by decide +kernel
theorem dX2_settleWarmth_32 : decode cX2_settleWarmth 32 = .ok (.getfield 83, 3) := by decide +kernel
theorem dX2_settleWarmth_35 : decode cX2_settleWarmth 35 = .ok (.iload 4, 2) := by decide +kernel
theorem dX2_settleWarmth_37 : decode cX2_settleWarmth 37 = .ok (.iaload, 1) := by decide +kernel
theorem dX2_settleWarmth_38 : decode cX2_settleWarmth 38 = .ok (.imul, 1) := by decide +kernel
theorem dX2_settleWarmth_39 : decode cX2_settleWarmth 39 = .ok (.istore 5, 2) := by decide +kernel
theorem dX2_settleWarmth_41 : decode cX2_settleWarmth 41 = .ok (.aload_n 0, 1) := by decide +kernel
theorem dX2_settleWarmth_42 : decode cX2_settleWarmth 42 = .ok (.getfield 15, 3) := by decide +kernel
theorem dX2_settleWarmth_45 : decode cX2_settleWarmth 45 = .ok (.iload 4, 2) := by decide +kernel
theorem dX2_settleWarmth_47 : decode cX2_settleWarmth 47 = .ok (.aload_n 0, 1) := by decide +kernel
theorem dX2_settleWarmth_48 : decode cX2_settleWarmth 48 = .ok (.aload_n 3, 1) := by decide +kernel
theorem dX2_settleWarmth_49 : decode cX2_settleWarmth 49 = .ok (.iload 4, 2) := by decide +kernel
theorem dX2_settleWarmth_51 : decode cX2_settleWarmth 51 = .ok (.invokevirtual 86, 3) := by decide +kernel
theorem dX2_settleWarmth_54 : decode cX2_settleWarmth 54 = .ok (.aload_n 1, 1) := by decide +kernel
theorem dX2_settleWarmth_55 : decode cX2_settleWarmth 55 = .ok (.getfield 90, 3) := by decide +kernel
theorem dX2_settleWarmth_58 : decode cX2_settleWarmth 58 = .ok (.iload 5, 2) := by decide +kernel
theorem dX2_settleWarmth_60 : decode cX2_settleWarmth 60 = .ok (.aload_n 0, 1) := by decide +kernel
theorem dX2_settleWarmth_61 : decode cX2_settleWarmth 61 = .ok (.getfield 9, 3) := by decide +kernel
theorem dX2_settleWarmth_64 : decode cX2_settleWarmth 64 = .ok (.iload 4, 2) := by decide +kernel
theorem dX2_settleWarmth_66 : decode cX2_settleWarmth 66 = .ok (.iaload, 1) := by decide +kernel
theorem dX2_settleWarmth_67 : decode cX2_settleWarmth 67 = .ok (.invokestatic 93, 3) := by decide +kernel
theorem dX2_settleWarmth_70 : decode cX2_settleWarmth 70 = .ok (.iastore, 1) := by decide +kernel
theorem dX2_settleWarmth_71 : decode cX2_settleWarmth 71 = .ok (.iinc 4 1, 3) := by decide +kernel
theorem dX2_settleWarmth_74 : decode cX2_settleWarmth 74 = .ok (.goto (-59), 3) := by decide +kernel
theorem dX2_settleWarmth_77 : decode cX2_settleWarmth 77 = .ok (.return_, 1) := by decide +kernel
theorem dX2_settleReturns_0 : decode cX2_settleReturns 0 = .ok (.iconst 0, 1) := by decide +kernel
theorem dX2_settleReturns_1 : decode cX2_settleReturns 1 = .ok (.istore_n 2, 1) := by decide +kernel
theorem dX2_settleReturns_2 : decode cX2_settleReturns 2 = .ok (.iload_n 2, 1) := by decide +kernel
theorem dX2_settleReturns_3 : decode cX2_settleReturns 3 = .ok (.aload_n 1, 1) := by decide +kernel
theorem dX2_settleReturns_4 : decode cX2_settleReturns 4 = .ok (.getfield 65, 3) := by decide +kernel
theorem dX2_settleReturns_7 : decode cX2_settleReturns 7 = .ok (.if_icmp .ge 28, 3) := by decide +kernel
theorem dX2_settleReturns_10 : decode cX2_settleReturns 10 = .ok (.aload_n 0, 1) := by decide +kernel
theorem dX2_settleReturns_11 : decode cX2_settleReturns 11 = .ok (.getfield 18, 3) := by decide +kernel
theorem dX2_settleReturns_14 : decode cX2_settleReturns 14 = .ok (.iload_n 2, 1) := by decide +kernel
theorem dX2_settleReturns_15 : decode cX2_settleReturns 15 = .ok (.aload_n 1, 1) := by decide +kernel
theorem dX2_settleReturns_16 : decode cX2_settleReturns 16 = .ok (.getfield 70, 3) := by decide +kernel
theorem dX2_settleReturns_19 : decode cX2_settleReturns 19 = .ok (.iload_n 2, 1) := by decide +kernel
theorem dX2_settleReturns_20 : decode cX2_settleReturns 20 = .ok (.iaload, 1) := by decide +kernel
theorem dX2_settleReturns_21 : decode cX2_settleReturns 21 = .ok (.aload_n 0, 1) := by decide +kernel
theorem dX2_settleReturns_22 : decode cX2_settleReturns 22 = .ok (.aload_n 1, 1) := by decide +kernel
theorem dX2_settleReturns_23 : decode cX2_settleReturns 23 = .ok (.iload_n 2, 1) := by decide +kernel
theorem dX2_settleReturns_24 : decode cX2_settleReturns 24 = .ok (.invokevirtual 97, 3) := by decide +kernel
theorem dX2_settleReturns_27 : decode cX2_settleReturns 27 = .ok (.imul, 1) := by decide +kernel
theorem dX2_settleReturns_28 : decode cX2_settleReturns 28 = .ok (.iastore, 1) := by decide +kernel
theorem dX2_settleReturns_29 : decode cX2_settleReturns 29 = .ok (.iinc 2 1, 3) := by decide +kernel
theorem dX2_settleReturns_32 : decode cX2_settleReturns 32 = .ok (.goto (-30), 3) := by decide +kernel
theorem dX2_settleReturns_35 : decode cX2_settleReturns 35 = .ok (.aload_n 1, 1) := by decide +kernel
theorem dX2_settleReturns_36 : decode cX2_settleReturns 36 = .ok (.aload_n 0, 1) := by decide +kernel
theorem dX2_settleReturns_37 : decode cX2_settleReturns 37 = .ok (.getfield 18, 3) := by decide +kernel
theorem dX2_settleReturns_40 : decode cX2_settleReturns 40 = .ok (.invokestatic 76, 3) := by decide +kernel
theorem dX2_settleReturns_43 : decode cX2_settleReturns 43 = .ok (.return_, 1) := by decide +kernel
theorem dX2_settleLoads_0 : decode cX2_settleLoads 0 = .ok (.aload_n 0, 1) := by decide +kernel
theorem dX2_settleLoads_1 : decode cX2_settleLoads 1 = .ok (.getfield 24, 3) := by decide +kernel
theorem dX2_settleLoads_4 : decode cX2_settleLoads 4 = .ok (.istore_n 2, 1) := by decide +kernel
theorem dX2_settleLoads_5 : decode cX2_settleLoads 5 = .ok (.aload_n 0, 1) := by decide +kernel
theorem dX2_settleLoads_6 : decode cX2_settleLoads 6 = .ok (.iconst 0, 1) := by decide +kernel
theorem dX2_settleLoads_7 : decode cX2_settleLoads 7 = .ok (.putfield 31, 3) := by decide +kernel
theorem dX2_settleLoads_10 : decode cX2_settleLoads 10 = .ok (.iconst 0, 1) := by decide +kernel
theorem dX2_settleLoads_11 : decode cX2_settleLoads 11 = .ok (.istore_n 3, 1) := by decide +kernel
theorem dX2_settleLoads_12 : decode cX2_settleLoads 12 = .ok (.iload_n 3, 1) := by decide +kernel
theorem dX2_settleLoads_13 : decode cX2_settleLoads 13 = .ok (.aload_n 1, 1) := by decide +kernel
theorem dX2_settleLoads_14 : decode cX2_settleLoads 14 = .ok (.getfield 100, 3) := by decide +kernel
theorem dX2_settleLoads_17 : decode cX2_settleLoads 17 = .ok (.if_icmp .ge 127, 3) := by decide +kernel
theorem dX2_settleLoads_20 : decode cX2_settleLoads 20 = .ok (.aload_n 1, 1) := by decide +kernel
theorem dX2_settleLoads_21 : decode cX2_settleLoads 21 = .ok (.iload_n 3, 1) := by decide +kernel
theorem dX2_settleLoads_22 : decode cX2_settleLoads 22 = .ok (.invokevirtual 103, 3) := by decide +kernel
theorem dX2_settleLoads_25 : decode cX2_settleLoads 25 = .ok (.istore 4, 2) := by decide +kernel
theorem dX2_settleLoads_27 : decode cX2_settleLoads 27 = .ok (.iload 4, 2) := by decide +kernel
theorem dX2_settleLoads_29 : decode cX2_settleLoads 29 = .ok (.iconst (-1), 1) := by decide +kernel
theorem dX2_settleLoads_30 : decode cX2_settleLoads 30 = .ok (.if_icmp .ne 6, 3) := by decide +kernel
theorem dX2_settleLoads_33 : decode cX2_settleLoads 33 = .ok (.goto 105, 3) := by decide +kernel
theorem dX2_settleLoads_36 : decode cX2_settleLoads 36 = .ok (.aload_n 0, 1) := by decide +kernel
theorem dX2_settleLoads_37 : decode cX2_settleLoads 37 = .ok (.getfield 21, 3) := by decide +kernel
theorem dX2_settleLoads_40 : decode cX2_settleLoads 40 = .ok (.iload 4, 2) := by decide +kernel
theorem dX2_settleLoads_42 : decode cX2_settleLoads 42 = .ok (.aload_n 1, 1) := by decide +kernel
theorem dX2_settleLoads_43 : decode cX2_settleLoads 43 = .ok (.getfield 107, 3) := by decide +kernel
theorem dX2_settleLoads_46 : decode cX2_settleLoads 46 = .ok (.iload 4, 2) := by decide +kernel
theorem dX2_settleLoads_48 : decode cX2_settleLoads 48 = .ok (.iaload, 1) := by decide +kernel
theorem dX2_settleLoads_49 : decode cX2_settleLoads 49 = .ok (.iload_n 2, 1) := by decide +kernel
theorem dX2_settleLoads_50 : decode cX2_settleLoads 50 = .ok (.invokestatic 110, 3) := by decide +kernel
theorem dX2_settleLoads_53 : decode cX2_settleLoads 53 = .ok (.iastore, 1) := by decide +kernel
theorem dX2_settleLoads_54 : decode cX2_settleLoads 54 = .ok (.aload_n 0, 1) := by decide +kernel
theorem dX2_settleLoads_55 : decode cX2_settleLoads 55 = .ok (.getfield 21, 3) := by decide +kernel
theorem dX2_settleLoads_58 : decode cX2_settleLoads 58 = .ok (.iload 4, 2) := by decide +kernel
theorem dX2_settleLoads_60 : decode cX2_settleLoads 60 = .ok (.iaload, 1) := by decide +kernel
theorem dX2_settleLoads_61 : decode cX2_settleLoads 61 = .ok (.ifCond .le 39, 3) := by decide +kernel
theorem dX2_settleLoads_64 : decode cX2_settleLoads 64 = .ok (.aload_n 0, 1) := by decide +kernel
theorem dX2_settleLoads_65 : decode cX2_settleLoads 65 = .ok (.getfield 21, 3) := by decide +kernel
theorem dX2_settleLoads_68 : decode cX2_settleLoads 68 = .ok (.iload 4, 2) := by decide +kernel
theorem dX2_settleLoads_70 : decode cX2_settleLoads 70 = .ok (.iaload, 1) := by decide +kernel
theorem dX2_settleLoads_71 : decode cX2_settleLoads 71 = .ok (.aload_n 1, 1) := by decide +kernel
theorem dX2_settleLoads_72 : decode cX2_settleLoads 72 = .ok (.getfield 113, 3) := by decide +kernel
theorem dX2_settleLoads_75 : decode cX2_settleLoads 75 = .ok (.iload 4, 2) := by decide +kernel
theorem dX2_settleLoads_77 : decode cX2_settleLoads 77 = .ok (.iaload, 1) := by decide +kernel
theorem dX2_settleLoads_78 : decode cX2_settleLoads 78 = .ok (.if_icmp .ge 22, 3) := by decide +kernel
theorem dX2_settleLoads_81 : decode cX2_settleLoads 81 = .ok (.aload_n 0, 1) := by decide +kernel
theorem dX2_settleLoads_82 : decode cX2_settleLoads 82 = .ok (.getfield 21, 3) := by decide +kernel
theorem dX2_settleLoads_85 : decode cX2_settleLoads 85 = .ok (.iload 4, 2) := by decide +kernel
theorem dX2_settleLoads_87 : decode cX2_settleLoads 87 = .ok (.aload_n 1, 1) := by decide +kernel
theorem dX2_settleLoads_88 : decode cX2_settleLoads 88 = .ok (.getfield 113, 3) := by decide +kernel
theorem dX2_settleLoads_91 : decode cX2_settleLoads 91 = .ok (.iload 4, 2) := by decide +kernel
theorem dX2_settleLoads_93 : decode cX2_settleLoads 93 = .ok (.iaload, 1) := by decide +kernel
theorem dX2_settleLoads_94 : decode cX2_settleLoads 94 = .ok (.iastore, 1) := by decide +kernel
theorem dX2_settleLoads_95 : decode cX2_settleLoads 95 = .ok (.iconst 0, 1) := by decide +kernel
theorem dX2_settleLoads_96 : decode cX2_settleLoads 96 = .ok (.istore_n 2, 1) := by decide +kernel
theorem dX2_settleLoads_97 : decode cX2_settleLoads 97 = .ok (.goto 13, 3) := by decide +kernel
theorem dX2_settleLoads_100 : decode cX2_settleLoads 100 = .ok (.iload_n 2, 1) := by decide +kernel
theorem dX2_settleLoads_101 : decode cX2_settleLoads 101 = .ok (.aload_n 0, 1) := by decide +kernel
theorem dX2_settleLoads_102 : decode cX2_settleLoads 102 = .ok (.getfield 21, 3) := by decide +kernel
theorem dX2_settleLoads_105 : decode cX2_settleLoads 105 = .ok (.iload 4, 2) := by decide +kernel
theorem dX2_settleLoads_107 : decode cX2_settleLoads 107 = .ok (.iaload, 1) := by decide +kernel
theorem dX2_settleLoads_108 : decode cX2_settleLoads 108 = .ok (.isub, 1) := by decide +kernel
theorem dX2_settleLoads_109 : decode cX2_settleLoads 109 = .ok (.istore_n 2, 1) := by decide +kernel
theorem dX2_settleLoads_110 : decode cX2_settleLoads 110 = .ok (.aload_n 0, 1) := by decide +kernel
theorem dX2_settleLoads_111 : decode cX2_settleLoads 111 = .ok (.dup, 1) := by decide +kernel
theorem dX2_settleLoads_112 : decode cX2_settleLoads 112 = .ok (.getfield 31, 3) := by decide +kernel
theorem dX2_settleLoads_115 : decode cX2_settleLoads 115 = .ok (.aload_n 0, 1) := by decide +kernel
theorem dX2_settleLoads_116 : decode cX2_settleLoads 116 = .ok (.getfield 21, 3) := by decide +kernel
theorem dX2_settleLoads_119 : decode cX2_settleLoads 119 = .ok (.iload 4, 2) := by decide +kernel
theorem dX2_settleLoads_121 : decode cX2_settleLoads 121 = .ok (.iaload, 1) := by decide +kernel
theorem dX2_settleLoads_122 : decode cX2_settleLoads 122 = .ok (.aload_n 1, 1) := by decide +kernel
theorem dX2_settleLoads_123 : decode cX2_settleLoads 123 = .ok (.getfield 116, 3) := by decide +kernel
theorem dX2_settleLoads_126 : decode cX2_settleLoads 126 = .ok (.iload 4, 2) := by decide +kernel
theorem dX2_settleLoads_128 : decode cX2_settleLoads 128 = .ok (.iaload, 1) := by decide +kernel
theorem dX2_settleLoads_129 : decode cX2_settleLoads 129 = .ok (.imul, 1) := by decide +kernel
theorem dX2_settleLoads_130 : decode cX2_settleLoads 130 = .ok (.sipush 1000, 3) := by decide +kernel
theorem dX2_settleLoads_133 : decode cX2_settleLoads 133 = .ok (.idiv, 1) := by decide +kernel
theorem dX2_settleLoads_134 : decode cX2_settleLoads 134 = .ok (.iadd, 1) := by decide +kernel
theorem dX2_settleLoads_135 : decode cX2_settleLoads 135 = .ok (.putfield 31, 3) := by decide +kernel
theorem dX2_settleLoads_138 : decode cX2_settleLoads 138 = .ok (.iinc 3 1, 3) := by decide +kernel
theorem dX2_settleLoads_141 : decode cX2_settleLoads 141 = .ok (.goto (-129), 3) := by decide +kernel
theorem dX2_settleLoads_144 : decode cX2_settleLoads 144 = .ok (.aload_n 0, 1) := by decide +kernel
theorem dX2_settleLoads_145 : decode cX2_settleLoads 145 = .ok (.iload_n 2, 1) := by decide +kernel
theorem dX2_settleLoads_146 : decode cX2_settleLoads 146 = .ok (.putfield 28, 3) := by decide +kernel
theorem dX2_settleLoads_149 : decode cX2_settleLoads 149 = .ok (.return_, 1) := by decide +kernel
theorem dX2_returnOf_0 : decode cX2_returnOf 0 = .ok (.aload_n 1, 1) := by decide +kernel
theorem dX2_returnOf_1 : decode cX2_returnOf 1 = .ok (.getfield 119, 3) := by decide +kernel
theorem dX2_returnOf_4 : decode cX2_returnOf 4 = .ok (.iload_n 2, 1) := by decide +kernel
theorem dX2_returnOf_5 : decode cX2_returnOf 5 = .ok (.iaload, 1) := by decide +kernel
theorem dX2_returnOf_6 : decode cX2_returnOf 6 = .ok (.aload_n 0, 1) := by decide +kernel
theorem dX2_returnOf_7 : decode cX2_returnOf 7 = .ok (.getfield 15, 3) := by decide +kernel
theorem dX2_returnOf_10 : decode cX2_returnOf 10 = .ok (.iload_n 2, 1) := by decide +kernel
theorem dX2_returnOf_11 : decode cX2_returnOf 11 = .ok (.iaload, 1) := by decide +kernel
theorem dX2_returnOf_12 : decode cX2_returnOf 12 = .ok (.invokestatic 110, 3) := by decide +kernel
theorem dX2_returnOf_15 : decode cX2_returnOf 15 = .ok (.ireturn, 1) := by decide +kernel
theorem dX2_warmthAbove_0 : decode cX2_warmthAbove 0 = .ok (.aload_n 1, 1) := by decide +kernel
theorem dX2_warmthAbove_1 : decode cX2_warmthAbove 1 = .ok (.iload_n 2, 1) := by decide +kernel
theorem dX2_warmthAbove_2 : decode cX2_warmthAbove 2 = .ok (.invokevirtual 122, 3) := by decide +kernel
theorem dX2_warmthAbove_5 : decode cX2_warmthAbove 5 = .ok (.ifCond .eq 17, 3) := by decide +kernel
theorem dX2_warmthAbove_8 : decode cX2_warmthAbove 8 = .ok (.aload_n 0, 1) := by decide +kernel
theorem dX2_warmthAbove_9 : decode cX2_warmthAbove 9 = .ok (.getfield 15, 3) := by decide +kernel
theorem dX2_warmthAbove_12 : decode cX2_warmthAbove 12 = .ok (.aload_n 1, 1) := by decide +kernel
theorem dX2_warmthAbove_13 : decode cX2_warmthAbove 13 = .ok (.getfield 126, 3) := by decide +kernel
theorem dX2_warmthAbove_16 : decode cX2_warmthAbove 16 = .ok (.iload_n 2, 1) := by decide +kernel
theorem dX2_warmthAbove_17 : decode cX2_warmthAbove 17 = .ok (.iaload, 1) := by decide +kernel
theorem dX2_warmthAbove_18 : decode cX2_warmthAbove 18 = .ok (.iaload, 1) := by decide +kernel
theorem dX2_warmthAbove_19 : decode cX2_warmthAbove 19 = .ok (.goto 4, 3) := by decide +kernel
theorem dX2_warmthAbove_22 : decode cX2_warmthAbove 22 = .ok (.iconst 0, 1) := by decide +kernel
theorem dX2_warmthAbove_23 : decode cX2_warmthAbove 23 = .ok (.ireturn, 1) := by decide +kernel
theorem dX2_warmthBehind_0 : decode cX2_warmthBehind 0 = .ok (.iload_n 3, 1) := by decide +kernel
theorem dX2_warmthBehind_1 : decode cX2_warmthBehind 1 = .ok (.ifCond .gt 9, 3) := by decide +kernel
theorem dX2_warmthBehind_4 : decode cX2_warmthBehind 4 = .ok (.iload_n 0, 1) := by decide +kernel
theorem dX2_warmthBehind_5 : decode cX2_warmthBehind 5 = .ok (.iload_n 1, 1) := by decide +kernel
theorem dX2_warmthBehind_6 : decode cX2_warmthBehind 6 = .ok (.invokestatic 110, 3) := by decide +kernel
theorem dX2_warmthBehind_9 : decode cX2_warmthBehind 9 = .ok (.ireturn, 1) := by decide +kernel
theorem dX2_warmthBehind_10 : decode cX2_warmthBehind 10 = .ok (.iload_n 0, 1) := by decide +kernel
theorem dX2_warmthBehind_11 : decode cX2_warmthBehind 11 = .ok (.iload_n 1, 1) := by decide +kernel
theorem dX2_warmthBehind_12 : decode cX2_warmthBehind 12 = .ok (.if_icmp .gt 5, 3) := by decide +kernel
theorem dX2_warmthBehind_15 : decode cX2_warmthBehind 15 = .ok (.iload_n 0, 1) := by decide +kernel
theorem dX2_warmthBehind_16 : decode cX2_warmthBehind 16 = .ok (.ireturn, 1) := by decide +kernel
theorem dX2_warmthBehind_17 : decode cX2_warmthBehind 17 = .ok (.iload_n 0, 1) := by decide +kernel
theorem dX2_warmthBehind_18 : decode cX2_warmthBehind 18 = .ok (.iload_n 1, 1) := by decide +kernel
theorem dX2_warmthBehind_19 : decode cX2_warmthBehind 19 = .ok (.isub, 1) := by decide +kernel
theorem dX2_warmthBehind_20 : decode cX2_warmthBehind 20 = .ok (.istore 4, 2) := by decide +kernel
theorem dX2_warmthBehind_22 : decode cX2_warmthBehind 22 = .ok (.iload_n 0, 1) := by decide +kernel
theorem dX2_warmthBehind_23 : decode cX2_warmthBehind 23 = .ok (.iload 4, 2) := by decide +kernel
theorem dX2_warmthBehind_25 : decode cX2_warmthBehind 25 = .ok (.iload 4, 2) := by decide +kernel
theorem dX2_warmthBehind_27 : decode cX2_warmthBehind 27 = .ok (.iload_n 2, 1) := by decide +kernel
theorem dX2_warmthBehind_28 : decode cX2_warmthBehind 28 = .ok (.imul, 1) := by decide +kernel
theorem dX2_warmthBehind_29 : decode cX2_warmthBehind 29 = .ok (.sipush 1000, 3) := by decide +kernel
theorem dX2_warmthBehind_32 : decode cX2_warmthBehind 32 = .ok (.iload_n 3, 1) := by decide +kernel
theorem dX2_warmthBehind_33 : decode cX2_warmthBehind 33 = .ok (.imul, 1) := by decide +kernel
theorem dX2_warmthBehind_34 : decode cX2_warmthBehind 34 = .ok (.idiv, 1) := by decide +kernel
theorem dX2_warmthBehind_35 : decode cX2_warmthBehind 35 = .ok (.invokestatic 110, 3) := by decide +kernel
theorem dX2_warmthBehind_38 : decode cX2_warmthBehind 38 = .ok (.isub, 1) := by decide +kernel
theorem dX2_warmthBehind_39 : decode cX2_warmthBehind 39 = .ok (.ireturn, 1) := by decide +kernel
theorem dX2_addUpTheTree_0 : decode cX2_addUpTheTree 0 = .ok (.aload_n 0, 1) := by decide +kernel
theorem dX2_addUpTheTree_1 : decode cX2_addUpTheTree 1 = .ok (.getfield 65, 3) := by decide +kernel
theorem dX2_addUpTheTree_4 : decode cX2_addUpTheTree 4 = .ok (.iconst 1, 1) := by decide +kernel
theorem dX2_addUpTheTree_5 : decode cX2_addUpTheTree 5 = .ok (.isub, 1) := by decide +kernel
theorem dX2_addUpTheTree_6 : decode cX2_addUpTheTree 6 = .ok (.istore_n 2, 1) := by decide +kernel
theorem dX2_addUpTheTree_7 : decode cX2_addUpTheTree 7 = .ok (.iload_n 2, 1) := by decide +kernel
theorem dX2_addUpTheTree_8 : decode cX2_addUpTheTree 8 = .ok (.ifCond .le 31, 3) := by decide +kernel
theorem dX2_addUpTheTree_11 : decode cX2_addUpTheTree 11 = .ok (.aload_n 0, 1) := by decide +kernel
theorem dX2_addUpTheTree_12 : decode cX2_addUpTheTree 12 = .ok (.iload_n 2, 1) := by decide +kernel
theorem dX2_addUpTheTree_13 : decode cX2_addUpTheTree 13 = .ok (.invokevirtual 122, 3) := by decide +kernel
theorem dX2_addUpTheTree_16 : decode cX2_addUpTheTree 16 = .ok (.ifCond .eq 17, 3) := by decide +kernel
theorem dX2_addUpTheTree_19 : decode cX2_addUpTheTree 19 = .ok (.aload_n 1, 1) := by decide +kernel
theorem dX2_addUpTheTree_20 : decode cX2_addUpTheTree 20 = .ok (.aload_n 0, 1) := by decide +kernel
theorem dX2_addUpTheTree_21 : decode cX2_addUpTheTree 21 = .ok (.getfield 126, 3) := by decide +kernel
theorem dX2_addUpTheTree_24 : decode cX2_addUpTheTree 24 = .ok (.iload_n 2, 1) := by decide +kernel
theorem dX2_addUpTheTree_25 : decode cX2_addUpTheTree 25 = .ok (.iaload, 1) := by decide +kernel
theorem dX2_addUpTheTree_26 : decode cX2_addUpTheTree 26 = .ok (.dup2, 1) := by decide +kernel
theorem dX2_addUpTheTree_27 : decode cX2_addUpTheTree 27 = .ok (.iaload, 1) := by decide +kernel
theorem dX2_addUpTheTree_28 : decode cX2_addUpTheTree 28 = .ok (.aload_n 1, 1) := by decide +kernel
theorem dX2_addUpTheTree_29 : decode cX2_addUpTheTree 29 = .ok (.iload_n 2, 1) := by decide +kernel
theorem dX2_addUpTheTree_30 : decode cX2_addUpTheTree 30 = .ok (.iaload, 1) := by decide +kernel
theorem dX2_addUpTheTree_31 : decode cX2_addUpTheTree 31 = .ok (.iadd, 1) := by decide +kernel
theorem dX2_addUpTheTree_32 : decode cX2_addUpTheTree 32 = .ok (.iastore, 1) := by decide +kernel
theorem dX2_addUpTheTree_33 : decode cX2_addUpTheTree 33 = .ok (.iinc 2 (-1), 3) := by decide +kernel
theorem dX2_addUpTheTree_36 : decode cX2_addUpTheTree 36 = .ok (.goto (-29), 3) := by decide +kernel
theorem dX2_addUpTheTree_39 : decode cX2_addUpTheTree 39 = .ok (.return_, 1) := by decide +kernel
theorem dX3_init_0 : decode cX3_init 0 = .ok (.aload_n 0, 1) := by decide +kernel
theorem dX3_init_1 : decode cX3_init 1 = .ok (.invokespecial 3, 3) := by decide +kernel
theorem dX3_init_4 : decode cX3_init 4 = .ok (.aload_n 0, 1) := by decide +kernel
theorem dX3_init_5 : decode cX3_init 5 = .ok (.bipush 16, 2) := by decide +kernel
theorem dX3_init_7 : decode cX3_init 7 = .ok (.newarray .int, 2) := by decide +kernel
theorem dX3_init_9 : decode cX3_init 9 = .ok (.putfield 9, 3) := by decide +kernel
theorem dX3_init_12 : decode cX3_init 12 = .ok (.aload_n 0, 1) := by decide +kernel
theorem dX3_init_13 : decode cX3_init 13 = .ok (.bipush 16, 2) := by decide +kernel
theorem dX3_init_15 : decode cX3_init 15 = .ok (.newarray .int, 2) := by decide +kernel
theorem dX3_init_17 : decode cX3_init 17 = .ok (.putfield 15, 3) := by decide +kernel
theorem dX3_init_20 : decode cX3_init 20 = .ok (.aload_n 0, 1) := by decide +kernel
theorem dX3_init_21 : decode cX3_init 21 = .ok (.bipush 16, 2) := by decide +kernel
theorem dX3_init_23 : decode cX3_init 23 = .ok (.newarray .int, 2) := by decide +kernel
theorem dX3_init_25 : decode cX3_init 25 = .ok (.putfield 18, 3) := by decide +kernel
theorem dX3_init_28 : decode cX3_init 28 = .ok (.aload_n 0, 1) := by decide +kernel
theorem dX3_init_29 : decode cX3_init 29 = .ok (.bipush 16, 2) := by decide +kernel
theorem dX3_init_31 : decode cX3_init 31 = .ok (.newarray .int, 2) := by decide +kernel
theorem dX3_init_33 : decode cX3_init 33 = .ok (.putfield 21, 3) := by decide +kernel
theorem dX3_init_36 : decode cX3_init 36 = .ok (.aload_n 0, 1) := by decide +kernel
theorem dX3_init_37 : decode cX3_init 37 = .ok (.bipush 16, 2) := by decide +kernel
theorem dX3_init_39 : decode cX3_init 39 = .ok (.newarray .int, 2) := by decide +kernel
theorem dX3_init_41 : decode cX3_init 41 = .ok (.putfield 24, 3) := by decide +kernel
theorem dX3_init_44 : decode cX3_init 44 = .ok (.aload_n 0, 1) := by decide +kernel
theorem dX3_init_45 : decode cX3_init 45 = .ok (.bipush 16, 2) := by decide +kernel
theorem dX3_init_47 : decode cX3_init 47 = .ok (.newarray .int, 2) := by decide +kernel
theorem dX3_init_49 : decode cX3_init 49 = .ok (.putfield 27, 3) := by decide +kernel
theorem dX3_init_52 : decode cX3_init 52 = .ok (.aload_n 0, 1) := by decide +kernel
theorem dX3_init_53 : decode cX3_init 53 = .ok (.bipush 16, 2) := by decide +kernel
theorem dX3_init_55 : decode cX3_init 55 = .ok (.newarray .int, 2) := by decide +kernel
theorem dX3_init_57 : decode cX3_init 57 = .ok (.putfield 30, 3) := by decide +kernel
theorem dX3_init_60 : decode cX3_init 60 = .ok (.aload_n 0, 1) := by decide +kernel
theorem dX3_init_61 : decode cX3_init 61 = .ok (.bipush 16, 2) := by decide +kernel
theorem dX3_init_63 : decode cX3_init 63 = .ok (.newarray .int, 2) := by decide +kernel
theorem dX3_init_65 : decode cX3_init 65 = .ok (.putfield 33, 3) := by decide +kernel
theorem dX3_init_68 : decode cX3_init 68 = .ok (.aload_n 0, 1) := by decide +kernel
theorem dX3_init_69 : decode cX3_init 69 = .ok (.iconst 1, 1) := by decide +kernel
theorem dX3_init_70 : decode cX3_init 70 = .ok (.putfield 36, 3) := by decide +kernel
theorem dX3_init_73 : decode cX3_init 73 = .ok (.aload_n 0, 1) := by decide +kernel
theorem dX3_init_74 : decode cX3_init 74 = .ok (.getfield 9, 3) := by decide +kernel
theorem dX3_init_77 : decode cX3_init 77 = .ok (.iconst 0, 1) := by decide +kernel
theorem dX3_init_78 : decode cX3_init 78 = .ok (.iconst (-1), 1) := by decide +kernel
theorem dX3_init_79 : decode cX3_init 79 = .ok (.iastore, 1) := by decide +kernel
theorem dX3_init_80 : decode cX3_init 80 = .ok (.return_, 1) := by decide +kernel
theorem dX3_attach_0 : decode cX3_attach 0 = .ok (.aload_n 0, 1) := by decide +kernel
theorem dX3_attach_1 : decode cX3_attach 1 = .ok (.getfield 36, 3) := by decide +kernel
theorem dX3_attach_4 : decode cX3_attach 4 = .ok (.istore 6, 2) := by decide +kernel
theorem dX3_attach_6 : decode cX3_attach 6 = .ok (.iload 6, 2) := by decide +kernel
theorem dX3_attach_8 : decode cX3_attach 8 = .ok (.bipush 16, 2) := by decide +kernel
theorem dX3_attach_10 : decode cX3_attach 10 = .ok (.if_icmp .lt 5, 3) := by decide +kernel
theorem dX3_attach_13 : decode cX3_attach 13 = .ok (.iconst (-1), 1) := by decide +kernel
theorem dX3_attach_14 : decode cX3_attach 14 = .ok (.ireturn, 1) := by decide +kernel
theorem dX3_attach_15 : decode cX3_attach 15 = .ok (.aload_n 0, 1) := by decide +kernel
theorem dX3_attach_16 : decode cX3_attach 16 = .ok (.getfield 9, 3) := by decide +kernel
theorem dX3_attach_19 : decode cX3_attach 19 = .ok (.iload 6, 2) := by decide +kernel
theorem dX3_attach_21 : decode cX3_attach 21 = .ok (.iload_n 1, 1) := by decide +kernel
theorem dX3_attach_22 : decode cX3_attach 22 = .ok (.iastore, 1) := by decide +kernel
theorem dX3_attach_23 : decode cX3_attach 23 = .ok (.aload_n 0, 1) := by decide +kernel
theorem dX3_attach_24 : decode cX3_attach 24 = .ok (.getfield 15, 3) := by decide +kernel
theorem dX3_attach_27 : decode cX3_attach 27 = .ok (.iload 6, 2) := by decide +kernel
theorem dX3_attach_29 : decode cX3_attach 29 = .ok (.iload_n 2, 1) := by decide +kernel
theorem dX3_attach_30 : decode cX3_attach 30 = .ok (.iastore, 1) := by decide +kernel
theorem dX3_attach_31 : decode cX3_attach 31 = .ok (.aload_n 0, 1) := by decide +kernel
theorem dX3_attach_32 : decode cX3_attach 32 = .ok (.getfield 18, 3) := by decide +kernel
theorem dX3_attach_35 : decode cX3_attach 35 = .ok (.iload 6, 2) := by decide +kernel
theorem dX3_attach_37 : decode cX3_attach 37 = .ok (.iload_n 3, 1) := by decide +kernel
theorem dX3_attach_38 : decode cX3_attach 38 = .ok (.iastore, 1) := by decide +kernel
theorem dX3_attach_39 : decode cX3_attach 39 = .ok (.aload_n 0, 1) := by decide +kernel
theorem dX3_attach_40 : decode cX3_attach 40 = .ok (.getfield 21, 3) := by decide +kernel
theorem dX3_attach_43 : decode cX3_attach 43 = .ok (.iload 6, 2) := by decide +kernel
theorem dX3_attach_45 : decode cX3_attach 45 = .ok (.iload 4, 2) := by decide +kernel
theorem dX3_attach_47 : decode cX3_attach 47 = .ok (.iastore, 1) := by decide +kernel
theorem dX3_attach_48 : decode cX3_attach 48 = .ok (.aload_n 0, 1) := by decide +kernel
theorem dX3_attach_49 : decode cX3_attach 49 = .ok (.getfield 24, 3) := by decide +kernel
theorem dX3_attach_52 : decode cX3_attach 52 = .ok (.iload 6, 2) := by decide +kernel
theorem dX3_attach_54 : decode cX3_attach 54 = .ok (.iload 5, 2) := by decide +kernel
theorem dX3_attach_56 : decode cX3_attach 56 = .ok (.iastore, 1) := by decide +kernel
theorem dX3_attach_57 : decode cX3_attach 57 = .ok (.aload_n 0, 1) := by decide +kernel
theorem dX3_attach_58 : decode cX3_attach 58 = .ok (.getfield 27, 3) := by decide +kernel
theorem dX3_attach_61 : decode cX3_attach 61 = .ok (.iload 6, 2) := by decide +kernel
theorem dX3_attach_63 : decode cX3_attach 63 = .ok (.iconst 0, 1) := by decide +kernel
theorem dX3_attach_64 : decode cX3_attach 64 = .ok (.iastore, 1) := by decide +kernel
theorem dX3_attach_65 : decode cX3_attach 65 = .ok (.aload_n 0, 1) := by decide +kernel
theorem dX3_attach_66 : decode cX3_attach 66 = .ok (.getfield 30, 3) := by decide +kernel
theorem dX3_attach_69 : decode cX3_attach 69 = .ok (.iload 6, 2) := by decide +kernel
theorem dX3_attach_71 : decode cX3_attach 71 = .ok (.iconst 0, 1) := by decide +kernel
theorem dX3_attach_72 : decode cX3_attach 72 = .ok (.iastore, 1) := by decide +kernel
theorem dX3_attach_73 : decode cX3_attach 73 = .ok (.aload_n 0, 1) := by decide +kernel
theorem dX3_attach_74 : decode cX3_attach 74 = .ok (.getfield 33, 3) := by decide +kernel
theorem dX3_attach_77 : decode cX3_attach 77 = .ok (.iload 6, 2) := by decide +kernel
theorem dX3_attach_79 : decode cX3_attach 79 = .ok (.iconst 0, 1) := by decide +kernel
theorem dX3_attach_80 : decode cX3_attach 80 = .ok (.iastore, 1) := by decide +kernel
theorem dX3_attach_81 : decode cX3_attach 81 = .ok (.aload_n 0, 1) := by decide +kernel
theorem dX3_attach_82 : decode cX3_attach 82 = .ok (.iload 6, 2) := by decide +kernel
theorem dX3_attach_84 : decode cX3_attach 84 = .ok (.iconst 1, 1) := by decide +kernel
theorem dX3_attach_85 : decode cX3_attach 85 = .ok (.iadd, 1) := by decide +kernel
theorem dX3_attach_86 : decode cX3_attach 86 = .ok (.putfield 36, 3) := by decide +kernel
theorem dX3_attach_89 : decode cX3_attach 89 = .ok (.iload 6, 2) := by decide +kernel
theorem dX3_attach_91 : decode cX3_attach 91 = .ok (.ireturn, 1) := by decide +kernel
theorem dX3_copyFrom_0 : decode cX3_copyFrom 0 = .ok (.aload_n 1, 1) := by decide +kernel
theorem dX3_copyFrom_1 : decode cX3_copyFrom 1 = .ok (.getfield 9, 3) := by decide +kernel
theorem dX3_copyFrom_4 : decode cX3_copyFrom 4 = .ok (.aload_n 0, 1) := by decide +kernel
theorem dX3_copyFrom_5 : decode cX3_copyFrom 5 = .ok (.getfield 9, 3) := by decide +kernel
theorem dX3_copyFrom_8 : decode cX3_copyFrom 8 = .ok (.invokestatic 40, 3) := by decide +kernel
theorem dX3_copyFrom_11 : decode cX3_copyFrom 11 = .ok (.aload_n 1, 1) := by decide +kernel
theorem dX3_copyFrom_12 : decode cX3_copyFrom 12 = .ok (.getfield 15, 3) := by decide +kernel
theorem dX3_copyFrom_15 : decode cX3_copyFrom 15 = .ok (.aload_n 0, 1) := by decide +kernel
theorem dX3_copyFrom_16 : decode cX3_copyFrom 16 = .ok (.getfield 15, 3) := by decide +kernel
theorem dX3_copyFrom_19 : decode cX3_copyFrom 19 = .ok (.invokestatic 40, 3) := by decide +kernel
theorem dX3_copyFrom_22 : decode cX3_copyFrom 22 = .ok (.aload_n 1, 1) := by decide +kernel
theorem dX3_copyFrom_23 : decode cX3_copyFrom 23 = .ok (.getfield 18, 3) := by decide +kernel
theorem dX3_copyFrom_26 : decode cX3_copyFrom 26 = .ok (.aload_n 0, 1) := by decide +kernel
theorem dX3_copyFrom_27 : decode cX3_copyFrom 27 = .ok (.getfield 18, 3) := by decide +kernel
theorem dX3_copyFrom_30 : decode cX3_copyFrom 30 = .ok (.invokestatic 40, 3) := by decide +kernel
theorem dX3_copyFrom_33 : decode cX3_copyFrom 33 = .ok (.aload_n 1, 1) := by decide +kernel
theorem dX3_copyFrom_34 : decode cX3_copyFrom 34 = .ok (.getfield 21, 3) := by decide +kernel
theorem dX3_copyFrom_37 : decode cX3_copyFrom 37 = .ok (.aload_n 0, 1) := by decide +kernel
theorem dX3_copyFrom_38 : decode cX3_copyFrom 38 = .ok (.getfield 21, 3) := by decide +kernel
theorem dX3_copyFrom_41 : decode cX3_copyFrom 41 = .ok (.invokestatic 40, 3) := by decide +kernel
theorem dX3_copyFrom_44 : decode cX3_copyFrom 44 = .ok (.aload_n 1, 1) := by decide +kernel
theorem dX3_copyFrom_45 : decode cX3_copyFrom 45 = .ok (.getfield 24, 3) := by decide +kernel
theorem dX3_copyFrom_48 : decode cX3_copyFrom 48 = .ok (.aload_n 0, 1) := by decide +kernel
theorem dX3_copyFrom_49 : decode cX3_copyFrom 49 = .ok (.getfield 24, 3) := by decide +kernel
theorem dX3_copyFrom_52 : decode cX3_copyFrom 52 = .ok (.invokestatic 40, 3) := by decide +kernel
theorem dX3_copyFrom_55 : decode cX3_copyFrom 55 = .ok (.aload_n 1, 1) := by decide +kernel
theorem dX3_copyFrom_56 : decode cX3_copyFrom 56 = .ok (.getfield 27, 3) := by decide +kernel
theorem dX3_copyFrom_59 : decode cX3_copyFrom 59 = .ok (.aload_n 0, 1) := by decide +kernel
theorem dX3_copyFrom_60 : decode cX3_copyFrom 60 = .ok (.getfield 27, 3) := by decide +kernel
theorem dX3_copyFrom_63 : decode cX3_copyFrom 63 = .ok (.invokestatic 40, 3) := by decide +kernel
theorem dX3_copyFrom_66 : decode cX3_copyFrom 66 = .ok (.aload_n 1, 1) := by decide +kernel
theorem dX3_copyFrom_67 : decode cX3_copyFrom 67 = .ok (.getfield 30, 3) := by decide +kernel
theorem dX3_copyFrom_70 : decode cX3_copyFrom 70 = .ok (.aload_n 0, 1) := by decide +kernel
theorem dX3_copyFrom_71 : decode cX3_copyFrom 71 = .ok (.getfield 30, 3) := by decide +kernel
theorem dX3_copyFrom_74 : decode cX3_copyFrom 74 = .ok (.invokestatic 40, 3) := by decide +kernel
theorem dX3_copyFrom_77 : decode cX3_copyFrom 77 = .ok (.aload_n 1, 1) := by decide +kernel
theorem dX3_copyFrom_78 : decode cX3_copyFrom 78 = .ok (.getfield 33, 3) := by decide +kernel
theorem dX3_copyFrom_81 : decode cX3_copyFrom 81 = .ok (.aload_n 0, 1) := by decide +kernel
theorem dX3_copyFrom_82 : decode cX3_copyFrom 82 = .ok (.getfield 33, 3) := by decide +kernel
theorem dX3_copyFrom_85 : decode cX3_copyFrom 85 = .ok (.invokestatic 40, 3) := by decide +kernel
theorem dX3_copyFrom_88 : decode cX3_copyFrom 88 = .ok (.aload_n 0, 1) := by decide +kernel
theorem dX3_copyFrom_89 : decode cX3_copyFrom 89 = .ok (.aload_n 1, 1) := by decide +kernel
theorem dX3_copyFrom_90 : decode cX3_copyFrom 90 = .ok (.getfield 36, 3) := by decide +kernel
theorem dX3_copyFrom_93 : decode cX3_copyFrom 93 = .ok (.putfield 36, 3) := by decide +kernel
theorem dX3_copyFrom_96 : decode cX3_copyFrom 96 = .ok (.return_, 1) := by decide +kernel
theorem dX3_hasParent_0 : decode cX3_hasParent 0 = .ok (.aload_n 0, 1) := by decide +kernel
theorem dX3_hasParent_1 : decode cX3_hasParent 1 = .ok (.getfield 9, 3) := by decide +kernel
theorem dX3_hasParent_4 : decode cX3_hasParent 4 = .ok (.iload_n 1, 1) := by decide +kernel
theorem dX3_hasParent_5 : decode cX3_hasParent 5 = .ok (.iaload, 1) := by decide +kernel
theorem dX3_hasParent_6 : decode cX3_hasParent 6 = .ok (.ifCond .lt 17, 3) := by decide +kernel
theorem dX3_hasParent_9 : decode cX3_hasParent 9 = .ok (.aload_n 0, 1) := by decide +kernel
theorem dX3_hasParent_10 : decode cX3_hasParent 10 = .ok (.getfield 9, 3) := by decide +kernel
theorem dX3_hasParent_13 : decode cX3_hasParent 13 = .ok (.iload_n 1, 1) := by decide +kernel
theorem dX3_hasParent_14 : decode cX3_hasParent 14 = .ok (.iaload, 1) := by decide +kernel
theorem dX3_hasParent_15 : decode cX3_hasParent 15 = .ok (.iload_n 1, 1) := by decide +kernel
theorem dX3_hasParent_16 : decode cX3_hasParent 16 = .ok (.if_icmp .ge 7, 3) := by decide +kernel
theorem dX3_hasParent_19 : decode cX3_hasParent 19 = .ok (.iconst 1, 1) := by decide +kernel
theorem dX3_hasParent_20 : decode cX3_hasParent 20 = .ok (.goto 4, 3) := by decide +kernel
theorem dX3_hasParent_23 : decode cX3_hasParent 23 = .ok (.iconst 0, 1) := by decide +kernel
theorem dX3_hasParent_24 : decode cX3_hasParent 24 = .ok (.ireturn, 1) := by decide +kernel
theorem dX3_childrenOf_0 : decode cX3_childrenOf 0 = .ok (.iconst 0, 1) := by decide +kernel
theorem dX3_childrenOf_1 : decode cX3_childrenOf 1 = .ok (.istore_n 2, 1) := by decide +kernel
theorem dX3_childrenOf_2 : decode cX3_childrenOf 2 = .ok (.iload_n 1, 1) := by decide +kernel
theorem dX3_childrenOf_3 : decode cX3_childrenOf 3 = .ok (.iconst 1, 1) := by decide +kernel
theorem dX3_childrenOf_4 : decode cX3_childrenOf 4 = .ok (.iadd, 1) := by decide +kernel
theorem dX3_childrenOf_5 : decode cX3_childrenOf 5 = .ok (.istore_n 3, 1) := by decide +kernel
theorem dX3_childrenOf_6 : decode cX3_childrenOf 6 = .ok (.iload_n 3, 1) := by decide +kernel
theorem dX3_childrenOf_7 : decode cX3_childrenOf 7 = .ok (.aload_n 0, 1) := by decide +kernel
theorem dX3_childrenOf_8 : decode cX3_childrenOf 8 = .ok (.getfield 36, 3) := by decide +kernel
theorem dX3_childrenOf_11 : decode cX3_childrenOf 11 = .ok (.if_icmp .ge 22, 3) := by decide +kernel
theorem dX3_childrenOf_14 : decode cX3_childrenOf 14 = .ok (.aload_n 0, 1) := by decide +kernel
theorem dX3_childrenOf_15 : decode cX3_childrenOf 15 = .ok (.getfield 9, 3) := by decide +kernel
theorem dX3_childrenOf_18 : decode cX3_childrenOf 18 = .ok (.iload_n 3, 1) := by decide +kernel
theorem dX3_childrenOf_19 : decode cX3_childrenOf 19 = .ok (.iaload, 1) := by decide +kernel
theorem dX3_childrenOf_20 : decode cX3_childrenOf 20 = .ok (.iload_n 1, 1) := by decide +kernel
theorem dX3_childrenOf_21 : decode cX3_childrenOf 21 = .ok (.if_icmp .ne 6, 3) := by decide +kernel
theorem dX3_childrenOf_24 : decode cX3_childrenOf 24 = .ok (.iinc 2 1, 3) := by decide +kernel
theorem dX3_childrenOf_27 : decode cX3_childrenOf 27 = .ok (.iinc 3 1, 3) := by decide +kernel
theorem dX3_childrenOf_30 : decode cX3_childrenOf 30 = .ok (.goto (-24), 3) := by decide +kernel
theorem dX3_childrenOf_33 : decode cX3_childrenOf 33 = .ok (.iload_n 2, 1) := by decide +kernel
theorem dX3_childrenOf_34 : decode cX3_childrenOf 34 = .ok (.ireturn, 1) := by decide +kernel
theorem dX3_branchOf_0 : decode cX3_branchOf 0 = .ok (.iconst 1, 1) := by decide +kernel
theorem dX3_branchOf_1 : decode cX3_branchOf 1 = .ok (.iload_n 1, 1) := by decide +kernel
theorem dX3_branchOf_2 : decode cX3_branchOf 2 = .ok (.ishl, 1) := by decide +kernel
theorem dX3_branchOf_3 : decode cX3_branchOf 3 = .ok (.istore_n 2, 1) := by decide +kernel
theorem dX3_branchOf_4 : decode cX3_branchOf 4 = .ok (.iload_n 1, 1) := by decide +kernel
theorem dX3_branchOf_5 : decode cX3_branchOf 5 = .ok (.iconst 1, 1) := by decide +kernel
theorem dX3_branchOf_6 : decode cX3_branchOf 6 = .ok (.iadd, 1) := by decide +kernel
theorem dX3_branchOf_7 : decode cX3_branchOf 7 = .ok (.istore_n 3, 1) := by decide +kernel
theorem dX3_branchOf_8 : decode cX3_branchOf 8 = .ok (.iload_n 3, 1) := by decide +kernel
theorem dX3_branchOf_9 : decode cX3_branchOf 9 = .ok (.aload_n 0, 1) := by decide +kernel
theorem dX3_branchOf_10 : decode cX3_branchOf 10 = .ok (.getfield 36, 3) := by decide +kernel
theorem dX3_branchOf_13 : decode cX3_branchOf 13 = .ok (.if_icmp .ge 36, 3) := by decide +kernel
theorem dX3_branchOf_16 : decode cX3_branchOf 16 = .ok (.aload_n 0, 1) := by decide +kernel
theorem dX3_branchOf_17 : decode cX3_branchOf 17 = .ok (.iload_n 3, 1) := by decide +kernel
theorem dX3_branchOf_18 : decode cX3_branchOf 18 = .ok (.invokevirtual 44, 3) := by decide +kernel
theorem dX3_branchOf_21 : decode cX3_branchOf 21 = .ok (.ifCond .eq 22, 3) := by decide +kernel
theorem dX3_branchOf_24 : decode cX3_branchOf 24 = .ok (.iload_n 2, 1) := by decide +kernel
theorem dX3_branchOf_25 : decode cX3_branchOf 25 = .ok (.aload_n 0, 1) := by decide +kernel
theorem dX3_branchOf_26 : decode cX3_branchOf 26 = .ok (.getfield 9, 3) := by decide +kernel
theorem dX3_branchOf_29 : decode cX3_branchOf 29 = .ok (.iload_n 3, 1) := by decide +kernel
theorem dX3_branchOf_30 : decode cX3_branchOf 30 = .ok (.iaload, 1) := by decide +kernel
theorem dX3_branchOf_31 : decode cX3_branchOf 31 = .ok (.ishr, 1) := by decide +kernel
theorem dX3_branchOf_32 : decode cX3_branchOf 32 = .ok (.iconst 1, 1) := by decide +kernel
theorem dX3_branchOf_33 : decode cX3_branchOf 33 = .ok (.iand, 1) := by decide +kernel
theorem dX3_branchOf_34 : decode cX3_branchOf 34 = .ok (.ifCond .eq 9, 3) := by decide +kernel
theorem dX3_branchOf_37 : decode cX3_branchOf 37 = .ok (.iload_n 2, 1) := by decide +kernel
theorem dX3_branchOf_38 : decode cX3_branchOf 38 = .ok (.iconst 1, 1) := by decide +kernel
theorem dX3_branchOf_39 : decode cX3_branchOf 39 = .ok (.iload_n 3, 1) := by decide +kernel
theorem dX3_branchOf_40 : decode cX3_branchOf 40 = .ok (.ishl, 1) := by decide +kernel
theorem dX3_branchOf_41 : decode cX3_branchOf 41 = .ok (.ior, 1) := by decide +kernel
theorem dX3_branchOf_42 : decode cX3_branchOf 42 = .ok (.istore_n 2, 1) := by decide +kernel
theorem dX3_branchOf_43 : decode cX3_branchOf 43 = .ok (.iinc 3 1, 3) := by decide +kernel
theorem dX3_branchOf_46 : decode cX3_branchOf 46 = .ok (.goto (-38), 3) := by decide +kernel
theorem dX3_branchOf_49 : decode cX3_branchOf 49 = .ok (.iload_n 2, 1) := by decide +kernel
theorem dX3_branchOf_50 : decode cX3_branchOf 50 = .ok (.invokestatic 48, 3) := by decide +kernel
theorem dX3_branchOf_53 : decode cX3_branchOf 53 = .ok (.ireturn, 1) := by decide +kernel
theorem dX3_meters_0 : decode cX3_meters 0 = .ok (.iconst 0, 1) := by decide +kernel
theorem dX3_meters_1 : decode cX3_meters 1 = .ok (.istore_n 1, 1) := by decide +kernel
theorem dX3_meters_2 : decode cX3_meters 2 = .ok (.iconst 1, 1) := by decide +kernel
theorem dX3_meters_3 : decode cX3_meters 3 = .ok (.istore_n 2, 1) := by decide +kernel
theorem dX3_meters_4 : decode cX3_meters 4 = .ok (.iload_n 2, 1) := by decide +kernel
theorem dX3_meters_5 : decode cX3_meters 5 = .ok (.aload_n 0, 1) := by decide +kernel
theorem dX3_meters_6 : decode cX3_meters 6 = .ok (.getfield 36, 3) := by decide +kernel
theorem dX3_meters_9 : decode cX3_meters 9 = .ok (.if_icmp .ge 18, 3) := by decide +kernel
theorem dX3_meters_12 : decode cX3_meters 12 = .ok (.iload_n 1, 1) := by decide +kernel
theorem dX3_meters_13 : decode cX3_meters 13 = .ok (.aload_n 0, 1) := by decide +kernel
theorem dX3_meters_14 : decode cX3_meters 14 = .ok (.getfield 30, 3) := by decide +kernel
theorem dX3_meters_17 : decode cX3_meters 17 = .ok (.iload_n 2, 1) := by decide +kernel
theorem dX3_meters_18 : decode cX3_meters 18 = .ok (.iaload, 1) := by decide +kernel
theorem dX3_meters_19 : decode cX3_meters 19 = .ok (.iadd, 1) := by decide +kernel
theorem dX3_meters_20 : decode cX3_meters 20 = .ok (.istore_n 1, 1) := by decide +kernel
theorem dX3_meters_21 : decode cX3_meters 21 = .ok (.iinc 2 1, 3) := by decide +kernel
theorem dX3_meters_24 : decode cX3_meters 24 = .ok (.goto (-20), 3) := by decide +kernel
theorem dX3_meters_27 : decode cX3_meters 27 = .ok (.iload_n 1, 1) := by decide +kernel
theorem dX3_meters_28 : decode cX3_meters 28 = .ok (.ireturn, 1) := by decide +kernel
theorem dX3_accounts_0 : decode cX3_accounts 0 = .ok (.iconst 0, 1) := by decide +kernel
theorem dX3_accounts_1 : decode cX3_accounts 1 = .ok (.istore_n 1, 1) := by decide +kernel
theorem dX3_accounts_2 : decode cX3_accounts 2 = .ok (.iconst 1, 1) := by decide +kernel
theorem dX3_accounts_3 : decode cX3_accounts 3 = .ok (.istore_n 2, 1) := by decide +kernel
theorem dX3_accounts_4 : decode cX3_accounts 4 = .ok (.iload_n 2, 1) := by decide +kernel
theorem dX3_accounts_5 : decode cX3_accounts 5 = .ok (.aload_n 0, 1) := by decide +kernel
theorem dX3_accounts_6 : decode cX3_accounts 6 = .ok (.getfield 36, 3) := by decide +kernel
theorem dX3_accounts_9 : decode cX3_accounts 9 = .ok (.if_icmp .ge 18, 3) := by decide +kernel
theorem dX3_accounts_12 : decode cX3_accounts 12 = .ok (.iload_n 1, 1) := by decide +kernel
theorem dX3_accounts_13 : decode cX3_accounts 13 = .ok (.aload_n 0, 1) := by decide +kernel
theorem dX3_accounts_14 : decode cX3_accounts 14 = .ok (.getfield 33, 3) := by decide +kernel
theorem dX3_accounts_17 : decode cX3_accounts 17 = .ok (.iload_n 2, 1) := by decide +kernel
theorem dX3_accounts_18 : decode cX3_accounts 18 = .ok (.iaload, 1) := by decide +kernel
theorem dX3_accounts_19 : decode cX3_accounts 19 = .ok (.iadd, 1) := by decide +kernel
theorem dX3_accounts_20 : decode cX3_accounts 20 = .ok (.istore_n 1, 1) := by decide +kernel
theorem dX3_accounts_21 : decode cX3_accounts 21 = .ok (.iinc 2 1, 3) := by decide +kernel
theorem dX3_accounts_24 : decode cX3_accounts 24 = .ok (.goto (-20), 3) := by decide +kernel
theorem dX3_accounts_27 : decode cX3_accounts 27 = .ok (.iload_n 1, 1) := by decide +kernel
theorem dX3_accounts_28 : decode cX3_accounts 28 = .ok (.ireturn, 1) := by decide +kernel
theorem dX4_init_0 : decode cX4_init 0 = .ok (.aload_n 0, 1) := by decide +kernel
theorem dX4_init_1 : decode cX4_init 1 = .ok (.invokespecial 3, 3) := by decide +kernel
theorem dX4_init_4 : decode cX4_init 4 = .ok (.aload_n 0, 1) := by decide +kernel
theorem dX4_init_5 : decode cX4_init 5 = .ok (.sipush 180, 3) := by decide +kernel
theorem dX4_init_8 : decode cX4_init 8 = .ok (.newarray .int, 2) := by decide +kernel
theorem dX4_init_10 : decode cX4_init 10 = .ok (.putfield 9, 3) := by decide +kernel
theorem dX4_init_13 : decode cX4_init 13 = .ok (.aload_n 0, 1) := by decide +kernel
theorem dX4_init_14 : decode cX4_init 14 = .ok (.iconst 0, 1) := by decide +kernel
theorem dX4_init_15 : decode cX4_init 15 = .ok (.putfield 15, 3) := by decide +kernel
theorem dX4_init_18 : decode cX4_init 18 = .ok (.aload_n 0, 1) := by decide +kernel
theorem dX4_init_19 : decode cX4_init 19 = .ok (.iconst 0, 1) := by decide +kernel
theorem dX4_init_20 : decode cX4_init 20 = .ok (.putfield 19, 3) := by decide +kernel
theorem dX4_init_23 : decode cX4_init 23 = .ok (.aload_n 0, 1) := by decide +kernel
theorem dX4_init_24 : decode cX4_init 24 = .ok (.iconst (-1), 1) := by decide +kernel
theorem dX4_init_25 : decode cX4_init 25 = .ok (.putfield 22, 3) := by decide +kernel
theorem dX4_init_28 : decode cX4_init 28 = .ok (.return_, 1) := by decide +kernel
theorem dX4_put_0 : decode cX4_put 0 = .ok (.aload_n 0, 1) := by decide +kernel
theorem dX4_put_1 : decode cX4_put 1 = .ok (.getfield 15, 3) := by decide +kernel
theorem dX4_put_4 : decode cX4_put 4 = .ok (.sipush 180, 3) := by decide +kernel
theorem dX4_put_7 : decode cX4_put 7 = .ok (.if_icmp .ge 23, 3) := by decide +kernel
theorem dX4_put_10 : decode cX4_put 10 = .ok (.aload_n 0, 1) := by decide +kernel
theorem dX4_put_11 : decode cX4_put 11 = .ok (.getfield 9, 3) := by decide +kernel
theorem dX4_put_14 : decode cX4_put 14 = .ok (.aload_n 0, 1) := by decide +kernel
theorem dX4_put_15 : decode cX4_put 15 = .ok (.getfield 15, 3) := by decide +kernel
theorem dX4_put_18 : decode cX4_put 18 = .ok (.iload_n 1, 1) := by decide +kernel
theorem dX4_put_19 : decode cX4_put 19 = .ok (.iastore, 1) := by decide +kernel
theorem dX4_put_20 : decode cX4_put 20 = .ok (.aload_n 0, 1) := by decide +kernel
theorem dX4_put_21 : decode cX4_put 21 = .ok (.dup, 1) := by decide +kernel
theorem dX4_put_22 : decode cX4_put 22 = .ok (.getfield 15, 3) := by decide +kernel
theorem dX4_put_25 : decode cX4_put 25 = .ok (.iconst 1, 1) := by decide +kernel
theorem dX4_put_26 : decode cX4_put 26 = .ok (.iadd, 1) := by decide +kernel
theorem dX4_put_27 : decode cX4_put 27 = .ok (.putfield 15, 3) := by decide +kernel
theorem dX4_put_30 : decode cX4_put 30 = .ok (.return_, 1) := by decide +kernel
theorem dX4_readInto_0 : decode cX4_readInto 0 = .ok (.aload_n 1, 1) := by decide +kernel
theorem dX4_readInto_1 : decode cX4_readInto 1 = .ok (.iconst 1, 1) := by decide +kernel
theorem dX4_readInto_2 : decode cX4_readInto 2 = .ok (.putfield 25, 3) := by decide +kernel
theorem dX4_readInto_5 : decode cX4_readInto 5 = .ok (.aload_n 0, 1) := by decide +kernel
theorem dX4_readInto_6 : decode cX4_readInto 6 = .ok (.iconst 0, 1) := by decide +kernel
theorem dX4_readInto_7 : decode cX4_readInto 7 = .ok (.putfield 19, 3) := by decide +kernel
theorem dX4_readInto_10 : decode cX4_readInto 10 = .ok (.aload_n 0, 1) := by decide +kernel
theorem dX4_readInto_11 : decode cX4_readInto 11 = .ok (.iconst (-1), 1) := by decide +kernel
theorem dX4_readInto_12 : decode cX4_readInto 12 = .ok (.putfield 22, 3) := by decide +kernel
theorem dX4_readInto_15 : decode cX4_readInto 15 = .ok (.iconst 1, 1) := by decide +kernel
theorem dX4_readInto_16 : decode cX4_readInto 16 = .ok (.istore_n 2, 1) := by decide +kernel
theorem dX4_readInto_17 : decode cX4_readInto 17 = .ok (.iload_n 2, 1) := by decide +kernel
theorem dX4_readInto_18 : decode cX4_readInto 18 = .ok (.bipush 16, 2) := by decide +kernel
theorem dX4_readInto_20 : decode cX4_readInto 20 = .ok (.if_icmp .ge 34, 3) := by decide +kernel
theorem dX4_readInto_23 : decode cX4_readInto 23 = .ok (.aload_n 0, 1) := by decide +kernel
theorem dX4_readInto_24 : decode cX4_readInto 24 = .ok (.getfield 19, 3) := by decide +kernel
theorem dX4_readInto_27 : decode cX4_readInto 27 = .ok (.aload_n 0, 1) := by decide +kernel
theorem dX4_readInto_28 : decode cX4_readInto 28 = .ok (.getfield 15, 3) := by decide +kernel
theorem dX4_readInto_31 : decode cX4_readInto 31 = .ok (.if_icmp .ge 23, 3) := by decide +kernel
theorem dX4_readInto_34 : decode cX4_readInto 34 = .ok (.aload_n 0, 1) := by decide +kernel
theorem dX4_readInto_35 : decode cX4_readInto 35 = .ok (.getfield 22, 3) := by decide +kernel
theorem dX4_readInto_38 : decode cX4_readInto 38 = .ok (.iconst (-1), 1) := by decide +kernel
theorem dX4_readInto_39 : decode cX4_readInto 39 = .ok (.if_icmp .ne 15, 3) := by decide +kernel
theorem dX4_readInto_42 : decode cX4_readInto 42 = .ok (.aload_n 0, 1) := by decide +kernel
theorem dX4_readInto_43 : decode cX4_readInto 43 = .ok (.aload_n 1, 1) := by decide +kernel
theorem dX4_readInto_44 : decode cX4_readInto 44 = .ok (.iload_n 2, 1) := by decide +kernel
theorem dX4_readInto_45 : decode cX4_readInto 45 = .ok (.invokevirtual 30, 3) := by decide +kernel
theorem dX4_readInto_48 : decode cX4_readInto 48 = .ok (.iinc 2 1, 3) := by decide +kernel
theorem dX4_readInto_51 : decode cX4_readInto 51 = .ok (.goto (-34), 3) := by decide +kernel
theorem dX4_readInto_54 : decode cX4_readInto 54 = .ok (.aload_n 0, 1) := by decide +kernel
theorem dX4_readInto_55 : decode cX4_readInto 55 = .ok (.getfield 22, 3) := by decide +kernel
theorem dX4_readInto_58 : decode cX4_readInto 58 = .ok (.iconst (-1), 1) := by decide +kernel
theorem dX4_readInto_59 : decode cX4_readInto 59 = .ok (.if_icmp .ne 22, 3) := by decide +kernel
theorem dX4_readInto_62 : decode cX4_readInto 62 = .ok (.aload_n 0, 1) := by decide +kernel
theorem dX4_readInto_63 : decode cX4_readInto 63 = .ok (.getfield 19, 3) := by decide +kernel
theorem dX4_readInto_66 : decode cX4_readInto 66 = .ok (.aload_n 0, 1) := by decide +kernel
theorem dX4_readInto_67 : decode cX4_readInto 67 = .ok (.getfield 15, 3) := by decide +kernel
theorem dX4_readInto_70 : decode cX4_readInto 70 = .ok (.if_icmp .ge 11, 3) := by decide +kernel
theorem dX4_readInto_73 : decode cX4_readInto 73 = .ok (.aload_n 0, 1) := by decide +kernel
theorem dX4_readInto_74 : decode cX4_readInto 74 = .ok (.aload_n 0, 1) := by decide +kernel
theorem dX4_readInto_75 : decode cX4_readInto 75 = .ok (.getfield 19, 3) := by decide +kernel
theorem dX4_readInto_78 : decode cX4_readInto 78 = .ok (.putfield 22, 3) := by decide +kernel
theorem dX4_readInto_81 : decode cX4_readInto 81 = .ok (.aload_n 0, 1) := by decide +kernel
theorem dX4_readInto_82 : decode cX4_readInto 82 = .ok (.getfield 22, 3) := by decide +kernel
theorem dX4_readInto_85 : decode cX4_readInto 85 = .ok (.ireturn, 1) := by decide +kernel
theorem dX4_readNode_0 : decode cX4_readNode 0 = .ok (.aload_n 0, 1) := by decide +kernel
theorem dX4_readNode_1 : decode cX4_readNode 1 = .ok (.iconst 2, 1) := by decide +kernel
theorem dX4_readNode_2 : decode cX4_readNode 2 = .ok (.iconst 0, 1) := by decide +kernel
theorem dX4_readNode_3 : decode cX4_readNode 3 = .ok (.iload_n 2, 1) := by decide +kernel
theorem dX4_readNode_4 : decode cX4_readNode 4 = .ok (.iconst 1, 1) := by decide +kernel
theorem dX4_readNode_5 : decode cX4_readNode 5 = .ok (.isub, 1) := by decide +kernel
theorem dX4_readNode_6 : decode cX4_readNode 6 = .ok (.bipush 44, 2) := by decide +kernel
theorem dX4_readNode_8 : decode cX4_readNode 8 = .ok (.invokevirtual 34, 3) := by decide +kernel
theorem dX4_readNode_11 : decode cX4_readNode 11 = .ok (.istore_n 3, 1) := by decide +kernel
theorem dX4_readNode_12 : decode cX4_readNode 12 = .ok (.aload_n 0, 1) := by decide +kernel
theorem dX4_readNode_13 : decode cX4_readNode 13 = .ok (.iconst 3, 1) := by decide +kernel
theorem dX4_readNode_14 : decode cX4_readNode 14 = .ok (.iconst 1, 1) := by decide +kernel
theorem dX4_readNode_15 : decode cX4_readNode 15 = .ok (.sipush 500, 3) := by decide +kernel
theorem dX4_readNode_18 : decode cX4_readNode 18 = .ok (.bipush 44, 2) := by decide +kernel
theorem dX4_readNode_20 : decode cX4_readNode 20 = .ok (.invokevirtual 34, 3) := by decide +kernel
theorem dX4_readNode_23 : decode cX4_readNode 23 = .ok (.istore 4, 2) := by decide +kernel
theorem dX4_readNode_25 : decode cX4_readNode 25 = .ok (.aload_n 0, 1) := by decide +kernel
theorem dX4_readNode_26 : decode cX4_readNode 26 = .ok (.iconst 2, 1) := by decide +kernel
theorem dX4_readNode_27 : decode cX4_readNode 27 = .ok (.iconst 0, 1) := by decide +kernel
theorem dX4_readNode_28 : decode cX4_readNode 28 = .ok (.bipush 50, 2) := by decide +kernel
theorem dX4_readNode_30 : decode cX4_readNode 30 = .ok (.bipush 44, 2) := by decide +kernel
theorem dX4_readNode_32 : decode cX4_readNode 32 = .ok (.invokevirtual 34, 3) := by decide +kernel
theorem dX4_readNode_35 : decode cX4_readNode 35 = .ok (.istore 5, 2) := by decide +kernel
theorem dX4_readNode_37 : decode cX4_readNode 37 = .ok (.aload_n 0, 1) := by decide +kernel
theorem dX4_readNode_38 : decode cX4_readNode 38 = .ok (.iconst 3, 1) := by decide +kernel
theorem dX4_readNode_39 : decode cX4_readNode 39 = .ok (.iconst 0, 1) := by decide +kernel
theorem dX4_readNode_40 : decode cX4_readNode 40 = .ok (.sipush 500, 3) := by decide +kernel
theorem dX4_readNode_43 : decode cX4_readNode 43 = .ok (.bipush 44, 2) := by decide +kernel
theorem dX4_readNode_45 : decode cX4_readNode 45 = .ok (.invokevirtual 34, 3) := by decide +kernel
theorem dX4_readNode_48 : decode cX4_readNode 48 = .ok (.istore 6, 2) := by decide +kernel
theorem dX4_readNode_50 : decode cX4_readNode 50 = .ok (.aload_n 0, 1) := by decide +kernel
theorem dX4_readNode_51 : decode cX4_readNode 51 = .ok (.iconst 4, 1) := by decide +kernel
theorem dX4_readNode_52 : decode cX4_readNode 52 = .ok (.iconst 0, 1) := by decide +kernel
theorem dX4_readNode_53 : decode cX4_readNode 53 = .ok (.sipush 1200, 3) := by decide +kernel
theorem dX4_readNode_56 : decode cX4_readNode 56 = .ok (.bipush 59, 2) := by decide +kernel
theorem dX4_readNode_58 : decode cX4_readNode 58 = .ok (.invokevirtual 34, 3) := by decide +kernel
theorem dX4_readNode_61 : decode cX4_readNode 61 = .ok (.istore 7, 2) := by decide +kernel
theorem dX4_readNode_63 : decode cX4_readNode 63 = .ok (.aload_n 0, 1) := by decide +kernel
theorem dX4_readNode_64 : decode cX4_readNode 64 = .ok (.getfield 22, 3) := by decide +kernel
theorem dX4_readNode_67 : decode cX4_readNode 67 = .ok (.iconst (-1), 1) := by decide +kernel
theorem dX4_readNode_68 : decode cX4_readNode 68 = .ok (.if_icmp .ne 17, 3) := by decide +kernel
theorem dX4_readNode_71 : decode cX4_readNode 71 = .ok (.aload_n 1, 1) := by decide +kernel
theorem dX4_readNode_72 : decode cX4_readNode 72 = .ok (.iload_n 3, 1) := by decide +kernel
theorem dX4_readNode_73 : decode cX4_readNode 73 = .ok (.iload 4, 2) := by decide +kernel
theorem dX4_readNode_75 : decode cX4_readNode 75 = .ok (.iload 5, 2) := by decide +kernel
theorem dX4_readNode_77 : decode cX4_readNode 77 = .ok (.iload 6, 2) := by decide +kernel
theorem dX4_readNode_79 : decode cX4_readNode 79 = .ok (.iload 7, 2) := by decide +kernel
theorem dX4_readNode_81 : decode cX4_readNode 81 = .ok (.invokevirtual 38, 3) := by decide +kernel
theorem dX4_readNode_84 : decode cX4_readNode 84 = .ok (.pop, 1) := by decide +kernel
theorem dX4_readNode_85 : decode cX4_readNode 85 = .ok (.return_, 1) := by decide +kernel
theorem dX4_readNumber_0 : decode cX4_readNumber 0 = .ok (.aload_n 0, 1) := by decide +kernel
theorem dX4_readNumber_1 : decode cX4_readNumber 1 = .ok (.getfield 22, 3) := by decide +kernel
theorem dX4_readNumber_4 : decode cX4_readNumber 4 = .ok (.iconst (-1), 1) := by decide +kernel
theorem dX4_readNumber_5 : decode cX4_readNumber 5 = .ok (.if_icmp .eq 5, 3) := by decide +kernel
theorem dX4_readNumber_8 : decode cX4_readNumber 8 = .ok (.iconst 0, 1) := by decide +kernel
theorem dX4_readNumber_9 : decode cX4_readNumber 9 = .ok (.ireturn, 1) := by decide +kernel
theorem dX4_readNumber_10 : decode cX4_readNumber 10 = .ok (.aload_n 0, 1) := by decide +kernel
theorem dX4_readNumber_11 : decode cX4_readNumber 11 = .ok (.getfield 19, 3) := by decide +kernel
theorem dX4_readNumber_14 : decode cX4_readNumber 14 = .ok (.istore 5, 2) := by decide +kernel
theorem dX4_readNumber_16 : decode cX4_readNumber 16 = .ok (.iconst 0, 1) := by decide +kernel
theorem dX4_readNumber_17 : decode cX4_readNumber 17 = .ok (.istore 6, 2) := by decide +kernel
theorem dX4_readNumber_19 : decode cX4_readNumber 19 = .ok (.aload_n 0, 1) := by decide +kernel
theorem dX4_readNumber_20 : decode cX4_readNumber 20 = .ok (.getfield 19, 3) := by decide +kernel
theorem dX4_readNumber_23 : decode cX4_readNumber 23 = .ok (.aload_n 0, 1) := by decide +kernel
theorem dX4_readNumber_24 : decode cX4_readNumber 24 = .ok (.getfield 15, 3) := by decide +kernel
theorem dX4_readNumber_27 : decode cX4_readNumber 27 = .ok (.if_icmp .ge 62, 3) := by decide +kernel
theorem dX4_readNumber_30 : decode cX4_readNumber 30 = .ok (.aload_n 0, 1) := by decide +kernel
theorem dX4_readNumber_31 : decode cX4_readNumber 31 = .ok (.getfield 9, 3) := by decide +kernel
theorem dX4_readNumber_34 : decode cX4_readNumber 34 = .ok (.aload_n 0, 1) := by decide +kernel
theorem dX4_readNumber_35 : decode cX4_readNumber 35 = .ok (.getfield 19, 3) := by decide +kernel
theorem dX4_readNumber_38 : decode cX4_readNumber 38 = .ok (.iaload, 1) := by decide +kernel
theorem dX4_readNumber_39 : decode cX4_readNumber 39 = .ok (.invokestatic 42, 3) := by decide +kernel
theorem dX4_readNumber_42 : decode cX4_readNumber 42 = .ok (.ifCond .eq 47, 3) := by decide +kernel
theorem dX4_readNumber_45 : decode cX4_readNumber 45 = .ok (.aload_n 0, 1) := by decide +kernel
theorem dX4_readNumber_46 : decode cX4_readNumber 46 = .ok (.getfield 19, 3) := by decide +kernel
theorem dX4_readNumber_49 : decode cX4_readNumber 49 = .ok (.iload 5, 2) := by decide +kernel
theorem dX4_readNumber_51 : decode cX4_readNumber 51 = .ok (.isub, 1) := by decide +kernel
theorem dX4_readNumber_52 : decode cX4_readNumber 52 = .ok (.iload_n 1, 1) := by decide +kernel
theorem dX4_readNumber_53 : decode cX4_readNumber 53 = .ok (.if_icmp .ge 36, 3) := by decide +kernel
theorem dX4_readNumber_56 : decode cX4_readNumber 56 = .ok (.bipush 10, 2) := by decide +kernel
theorem dX4_readNumber_58 : decode cX4_readNumber 58 = .ok (.iload 6, 2) := by decide +kernel
theorem dX4_readNumber_60 : decode cX4_readNumber 60 = .ok (.imul, 1) := by decide +kernel
theorem dX4_readNumber_61 : decode cX4_readNumber 61 = .ok (.aload_n 0, 1) := by decide +kernel
theorem dX4_readNumber_62 : decode cX4_readNumber 62 = .ok (.getfield 9, 3) := by decide +kernel
theorem dX4_readNumber_65 : decode cX4_readNumber 65 = .ok (.aload_n 0, 1) := by decide +kernel
theorem dX4_readNumber_66 : decode cX4_readNumber 66 = .ok (.getfield 19, 3) := by decide +kernel
theorem dX4_readNumber_69 : decode cX4_readNumber 69 = .ok (.iaload, 1) := by decide +kernel
theorem dX4_readNumber_70 : decode cX4_readNumber 70 = .ok (.iadd, 1) := by decide +kernel
theorem dX4_readNumber_71 : decode cX4_readNumber 71 = .ok (.bipush 48, 2) := by decide +kernel
theorem dX4_readNumber_73 : decode cX4_readNumber 73 = .ok (.isub, 1) := by decide +kernel
theorem dX4_readNumber_74 : decode cX4_readNumber 74 = .ok (.istore 6, 2) := by decide +kernel
theorem dX4_readNumber_76 : decode cX4_readNumber 76 = .ok (.aload_n 0, 1) := by decide +kernel
theorem dX4_readNumber_77 : decode cX4_readNumber 77 = .ok (.dup, 1) := by decide +kernel
theorem dX4_readNumber_78 : decode cX4_readNumber 78 = .ok (.getfield 19, 3) := by decide +kernel
theorem dX4_readNumber_81 : decode cX4_readNumber 81 = .ok (.iconst 1, 1) := by decide +kernel
theorem dX4_readNumber_82 : decode cX4_readNumber 82 = .ok (.iadd, 1) := by decide +kernel
theorem dX4_readNumber_83 : decode cX4_readNumber 83 = .ok (.putfield 19, 3) := by decide +kernel
theorem dX4_readNumber_86 : decode cX4_readNumber 86 = .ok (.goto (-67), 3) := by decide +kernel
theorem dX4_readNumber_89 : decode cX4_readNumber 89 = .ok (.aload_n 0, 1) := by decide +kernel
theorem dX4_readNumber_90 : decode cX4_readNumber 90 = .ok (.getfield 19, 3) := by decide +kernel
theorem dX4_readNumber_93 : decode cX4_readNumber 93 = .ok (.aload_n 0, 1) := by decide +kernel
theorem dX4_readNumber_94 : decode cX4_readNumber 94 = .ok (.getfield 15, 3) := by decide +kernel
theorem dX4_readNumber_97 : decode cX4_readNumber 97 = .ok (.if_icmp .ge 22, 3) := by decide +kernel
theorem dX4_readNumber_100 : decode cX4_readNumber 100 = .ok (.aload_n 0, 1) := by decide +kernel
theorem dX4_readNumber_101 : decode cX4_readNumber 101 = .ok (.getfield 9, 3) := by decide +kernel
theorem dX4_readNumber_104 : decode cX4_readNumber 104 = .ok (.aload_n 0, 1) := by decide +kernel
theorem dX4_readNumber_105 : decode cX4_readNumber 105 = .ok (.getfield 19, 3) := by decide +kernel
theorem dX4_readNumber_108 : decode cX4_readNumber 108 = .ok (.iaload, 1) := by decide +kernel
theorem dX4_readNumber_109 : decode cX4_readNumber 109 = .ok (.invokestatic 42, 3) := by decide +kernel
theorem dX4_readNumber_112 : decode cX4_readNumber 112 = .ok (.ifCond .eq 7, 3) := by decide +kernel
theorem dX4_readNumber_115 : decode cX4_readNumber 115 = .ok (.iconst 1, 1) := by decide +kernel
theorem dX4_readNumber_116 : decode cX4_readNumber 116 = .ok (.goto 4, 3) := by decide +kernel
theorem dX4_readNumber_119 : decode cX4_readNumber 119 = .ok (.iconst 0, 1) := by decide +kernel
theorem dX4_readNumber_120 : decode cX4_readNumber 120 = .ok (.istore 7, 2) := by decide +kernel
theorem dX4_readNumber_122 : decode cX4_readNumber 122 = .ok (.aload_n 0, 1) := by decide +kernel
theorem dX4_readNumber_123 : decode cX4_readNumber 123 = .ok (.getfield 19, 3) := by decide +kernel
theorem dX4_readNumber_126 : decode cX4_readNumber 126 = .ok (.iload 5, 2) := by decide +kernel
theorem dX4_readNumber_128 : decode cX4_readNumber 128 = .ok (.if_icmp .eq 8, 3) := by decide +kernel
theorem dX4_readNumber_131 : decode cX4_readNumber 131 = .ok (.iload 7, 2) := by decide +kernel
theorem dX4_readNumber_133 : decode cX4_readNumber 133 = .ok (.ifCond .eq 14, 3) := by decide +kernel
theorem dX4_readNumber_136 : decode cX4_readNumber 136 = .ok (.aload_n 0, 1) := by decide +kernel
theorem dX4_readNumber_137 : decode cX4_readNumber 137 = .ok (.aload_n 0, 1) := by decide +kernel
theorem dX4_readNumber_138 : decode cX4_readNumber 138 = .ok (.getfield 19, 3) := by decide +kernel
theorem dX4_readNumber_141 : decode cX4_readNumber 141 = .ok (.putfield 22, 3) := by decide +kernel
theorem dX4_readNumber_144 : decode cX4_readNumber 144 = .ok (.goto 70, 3) := by decide +kernel
theorem dX4_readNumber_147 : decode cX4_readNumber 147 = .ok (.iload 6, 2) := by decide +kernel
theorem dX4_readNumber_149 : decode cX4_readNumber 149 = .ok (.iload_n 2, 1) := by decide +kernel
theorem dX4_readNumber_150 : decode cX4_readNumber 150 = .ok (.if_icmp .lt 9, 3) := by decide +kernel
theorem dX4_readNumber_153 : decode cX4_readNumber 153 = .ok (.iload 6, 2) := by decide +kernel
theorem dX4_readNumber_155 : decode cX4_readNumber 155 = .ok (.iload_n 3, 1) := by decide +kernel
theorem dX4_readNumber_156 : decode cX4_readNumber 156 = .ok (.if_icmp .le 12, 3) := by decide +kernel
theorem dX4_readNumber_159 : decode cX4_readNumber 159 = .ok (.aload_n 0, 1) := by decide +kernel
theorem dX4_readNumber_160 : decode cX4_readNumber 160 = .ok (.iload 5, 2) := by decide +kernel
theorem dX4_readNumber_162 : decode cX4_readNumber 162 = .ok (.putfield 22, 3) := by decide +kernel
theorem dX4_readNumber_165 : decode cX4_readNumber 165 = .ok (.goto 49, 3) := by decide +kernel
theorem dX4_readNumber_168 : decode cX4_readNumber 168 = .ok (.aload_n 0, 1) := by decide +kernel
theorem dX4_readNumber_169 : decode cX4_readNumber 169 = .ok (.getfield 19, 3) := by decide +kernel
theorem dX4_readNumber_172 : decode cX4_readNumber 172 = .ok (.aload_n 0, 1) := by decide +kernel
theorem dX4_readNumber_173 : decode cX4_readNumber 173 = .ok (.getfield 15, 3) := by decide +kernel
theorem dX4_readNumber_176 : decode cX4_readNumber 176 = .ok (.if_icmp .ge 17, 3) := by decide +kernel
theorem dX4_readNumber_179 : decode cX4_readNumber 179 = .ok (.aload_n 0, 1) := by decide +kernel
theorem dX4_readNumber_180 : decode cX4_readNumber 180 = .ok (.getfield 9, 3) := by decide +kernel
theorem dX4_readNumber_183 : decode cX4_readNumber 183 = .ok (.aload_n 0, 1) := by decide +kernel
theorem dX4_readNumber_184 : decode cX4_readNumber 184 = .ok (.getfield 19, 3) := by decide +kernel
theorem dX4_readNumber_187 : decode cX4_readNumber 187 = .ok (.iaload, 1) := by decide +kernel
theorem dX4_readNumber_188 : decode cX4_readNumber 188 = .ok (.iload 4, 2) := by decide +kernel
theorem dX4_readNumber_190 : decode cX4_readNumber 190 = .ok (.if_icmp .eq 14, 3) := by decide +kernel
theorem dX4_readNumber_193 : decode cX4_readNumber 193 = .ok (.aload_n 0, 1) := by decide +kernel
theorem dX4_readNumber_194 : decode cX4_readNumber 194 = .ok (.aload_n 0, 1) := by decide +kernel
theorem dX4_readNumber_195 : decode cX4_readNumber 195 = .ok (.getfield 19, 3) := by decide +kernel
theorem dX4_readNumber_198 : decode cX4_readNumber 198 = .ok (.putfield 22, 3) := by decide +kernel
theorem dX4_readNumber_201 : decode cX4_readNumber 201 = .ok (.goto 13, 3) := by decide +kernel
theorem dX4_readNumber_204 : decode cX4_readNumber 204 = .ok (.aload_n 0, 1) := by decide +kernel
theorem dX4_readNumber_205 : decode cX4_readNumber 205 = .ok (.dup, 1) := by decide +kernel
theorem dX4_readNumber_206 : decode cX4_readNumber 206 = .ok (.getfield 19, 3) := by decide +kernel
theorem dX4_readNumber_209 : decode cX4_readNumber 209 = .ok (.iconst 1, 1) := by decide +kernel
theorem dX4_readNumber_210 : decode cX4_readNumber 210 = .ok (.iadd, 1) := by decide +kernel
theorem dX4_readNumber_211 : decode cX4_readNumber 211 = .ok (.putfield 19, 3) := by decide +kernel
theorem dX4_readNumber_214 : decode cX4_readNumber 214 = .ok (.iload 6, 2) := by decide +kernel
theorem dX4_readNumber_216 : decode cX4_readNumber 216 = .ok (.ireturn, 1) := by decide +kernel
theorem dX4_isDigit_0 : decode cX4_isDigit 0 = .ok (.iload_n 0, 1) := by decide +kernel
theorem dX4_isDigit_1 : decode cX4_isDigit 1 = .ok (.bipush 48, 2) := by decide +kernel
theorem dX4_isDigit_3 : decode cX4_isDigit 3 = .ok (.if_icmp .lt 13, 3) := by decide +kernel
theorem dX4_isDigit_6 : decode cX4_isDigit 6 = .ok (.iload_n 0, 1) := by decide +kernel
theorem dX4_isDigit_7 : decode cX4_isDigit 7 = .ok (.bipush 57, 2) := by decide +kernel
theorem dX4_isDigit_9 : decode cX4_isDigit 9 = .ok (.if_icmp .gt 7, 3) := by decide +kernel
theorem dX4_isDigit_12 : decode cX4_isDigit 12 = .ok (.iconst 1, 1) := by decide +kernel
theorem dX4_isDigit_13 : decode cX4_isDigit 13 = .ok (.goto 4, 3) := by decide +kernel
theorem dX4_isDigit_16 : decode cX4_isDigit 16 = .ok (.iconst 0, 1) := by decide +kernel
theorem dX4_isDigit_17 : decode cX4_isDigit 17 = .ok (.ireturn, 1) := by decide +kernel
theorem dX5_init_0 : decode cX5_init 0 = .ok (.aload_n 0, 1) := by decide +kernel
theorem dX5_init_1 : decode cX5_init 1 = .ok (.invokespecial 3, 3) := by decide +kernel
theorem dX5_init_4 : decode cX5_init 4 = .ok (.aload_n 0, 1) := by decide +kernel
theorem dX5_init_5 : decode cX5_init 5 = .ok (.bipush 16, 2) := by decide +kernel
theorem dX5_init_7 : decode cX5_init 7 = .ok (.newarray .int, 2) := by decide +kernel
theorem dX5_init_9 : decode cX5_init 9 = .ok (.putfield 9, 3) := by decide +kernel
theorem dX5_init_12 : decode cX5_init 12 = .ok (.aload_n 0, 1) := by decide +kernel
theorem dX5_init_13 : decode cX5_init 13 = .ok (.bipush 16, 2) := by decide +kernel
theorem dX5_init_15 : decode cX5_init 15 = .ok (.newarray .int, 2) := by decide +kernel
theorem dX5_init_17 : decode cX5_init 17 = .ok (.putfield 15, 3) := by decide +kernel
theorem dX5_init_20 : decode cX5_init 20 = .ok (.aload_n 0, 1) := by decide +kernel
theorem dX5_init_21 : decode cX5_init 21 = .ok (.bipush 16, 2) := by decide +kernel
theorem dX5_init_23 : decode cX5_init 23 = .ok (.newarray .int, 2) := by decide +kernel
theorem dX5_init_25 : decode cX5_init 25 = .ok (.putfield 18, 3) := by decide +kernel
theorem dX5_init_28 : decode cX5_init 28 = .ok (.aload_n 0, 1) := by decide +kernel
theorem dX5_init_29 : decode cX5_init 29 = .ok (.bipush 16, 2) := by decide +kernel
theorem dX5_init_31 : decode cX5_init 31 = .ok (.newarray .int, 2) := by decide +kernel
theorem dX5_init_33 : decode cX5_init 33 = .ok (.putfield 21, 3) := by decide +kernel
theorem dX5_init_36 : decode cX5_init 36 = .ok (.aload_n 0, 1) := by decide +kernel
theorem dX5_init_37 : decode cX5_init 37 = .ok (.bipush 16, 2) := by decide +kernel
theorem dX5_init_39 : decode cX5_init 39 = .ok (.newarray .int, 2) := by decide +kernel
theorem dX5_init_41 : decode cX5_init 41 = .ok (.putfield 24, 3) := by decide +kernel
theorem dX5_init_44 : decode cX5_init 44 = .ok (.aload_n 0, 1) := by decide +kernel
theorem dX5_init_45 : decode cX5_init 45 = .ok (.iconst 1, 1) := by decide +kernel
theorem dX5_init_46 : decode cX5_init 46 = .ok (.putfield 27, 3) := by decide +kernel
theorem dX5_init_49 : decode cX5_init 49 = .ok (.return_, 1) := by decide +kernel
theorem dX5_takeMeters_0 : decode cX5_takeMeters 0 = .ok (.aload_n 1, 1) := by decide +kernel
theorem dX5_takeMeters_1 : decode cX5_takeMeters 1 = .ok (.getfield 31, 3) := by decide +kernel
theorem dX5_takeMeters_4 : decode cX5_takeMeters 4 = .ok (.aload_n 0, 1) := by decide +kernel
theorem dX5_takeMeters_5 : decode cX5_takeMeters 5 = .ok (.getfield 9, 3) := by decide +kernel
theorem dX5_takeMeters_8 : decode cX5_takeMeters 8 = .ok (.invokestatic 34, 3) := by decide +kernel
theorem dX5_takeMeters_11 : decode cX5_takeMeters 11 = .ok (.return_, 1) := by decide +kernel
theorem dX5_giveMeter_0 : decode cX5_giveMeter 0 = .ok (.iload_n 1, 1) := by decide +kernel
theorem dX5_giveMeter_1 : decode cX5_giveMeter 1 = .ok (.ifCond .lt 16, 3) := by decide +kernel
theorem dX5_giveMeter_4 : decode cX5_giveMeter 4 = .ok (.iload_n 1, 1) := by decide +kernel
theorem dX5_giveMeter_5 : decode cX5_giveMeter 5 = .ok (.bipush 16, 2) := by decide +kernel
theorem dX5_giveMeter_7 : decode cX5_giveMeter 7 = .ok (.if_icmp .ge 10, 3) := by decide +kernel
theorem dX5_giveMeter_10 : decode cX5_giveMeter 10 = .ok (.aload_n 0, 1) := by decide +kernel
theorem dX5_giveMeter_11 : decode cX5_giveMeter 11 = .ok (.getfield 9, 3) := by decide +kernel
theorem dX5_giveMeter_14 : decode cX5_giveMeter 14 = .ok (.iload_n 1, 1) := by decide +kernel
theorem dX5_giveMeter_15 : decode cX5_giveMeter 15 = .ok (.iconst 1, 1) := by decide +kernel
theorem dX5_giveMeter_16 : decode cX5_giveMeter 16 = .ok (.iastore, 1) := by decide +kernel
theorem dX5_giveMeter_17 : decode cX5_giveMeter 17 = .ok (.return_, 1) := by decide +kernel
theorem dX5_settle_0 : decode cX5_settle 0 = .ok (.aload_n 0, 1) := by decide +kernel
theorem dX5_settle_1 : decode cX5_settle 1 = .ok (.aload_n 1, 1) := by decide +kernel
theorem dX5_settle_2 : decode cX5_settle 2 = .ok (.getfield 38, 3) := by decide +kernel
theorem dX5_settle_5 : decode cX5_settle 5 = .ok (.putfield 27, 3) := by decide +kernel
theorem dX5_settle_8 : decode cX5_settle 8 = .ok (.aload_n 0, 1) := by decide +kernel
theorem dX5_settle_9 : decode cX5_settle 9 = .ok (.invokevirtual 39, 3) := by decide +kernel
theorem dX5_settle_12 : decode cX5_settle 12 = .ok (.iconst 1, 1) := by decide +kernel
theorem dX5_settle_13 : decode cX5_settle 13 = .ok (.istore_n 2, 1) := by decide +kernel
theorem dX5_settle_14 : decode cX5_settle 14 = .ok (.iload_n 2, 1) := by decide +kernel
theorem dX5_settle_15 : decode cX5_settle 15 = .ok (.aload_n 0, 1) := by decide +kernel
theorem dX5_settle_16 : decode cX5_settle 16 = .ok (.getfield 27, 3) := by decide +kernel
theorem dX5_settle_19 : decode cX5_settle 19 = .ok (.if_icmp .ge 60, 3) := by decide +kernel
theorem dX5_settle_22 : decode cX5_settle 22 = .ok (.aload_n 0, 1) := by decide +kernel
theorem dX5_settle_23 : decode cX5_settle 23 = .ok (.iload_n 2, 1) := by decide +kernel
theorem dX5_settle_24 : decode cX5_settle 24 = .ok (.invokevirtual 42, 3) := by decide +kernel
theorem dX5_settle_27 : decode cX5_settle 27 = .ok (.ifCond .eq 7, 3) := by decide +kernel
theorem dX5_settle_30 : decode cX5_settle 30 = .ok (.iload_n 2, 1) := by decide +kernel
theorem dX5_settle_31 : decode cX5_settle 31 = .ok (.goto 9, 3) := by decide +kernel
theorem dX5_settle_34 : decode cX5_settle 34 = .ok (.aload_n 0, 1) := by decide +kernel
theorem dX5_settle_35 : decode cX5_settle 35 = .ok (.aload_n 1, 1) := by decide +kernel
theorem dX5_settle_36 : decode cX5_settle 36 = .ok (.iload_n 2, 1) := by decide +kernel
theorem dX5_settle_37 : decode cX5_settle 37 = .ok (.invokevirtual 46, 3) := by decide +kernel
theorem dX5_settle_40 : decode cX5_settle 40 = .ok (.istore_n 3, 1) := by decide +kernel
theorem dX5_settle_41 : decode cX5_settle 41 = .ok (.aload_n 0, 1) := by decide +kernel
theorem dX5_settle_42 : decode cX5_settle 42 = .ok (.getfield 15, 3) := by decide +kernel
theorem dX5_settle_45 : decode cX5_settle 45 = .ok (.iload_n 2, 1) := by decide +kernel
theorem dX5_settle_46 : decode cX5_settle 46 = .ok (.iload_n 3, 1) := by decide +kernel
theorem dX5_settle_47 : decode cX5_settle 47 = .ok (.iastore, 1) := by decide +kernel
theorem dX5_settle_48 : decode cX5_settle 48 = .ok (.aload_n 0, 1) := by decide +kernel
theorem dX5_settle_49 : decode cX5_settle 49 = .ok (.getfield 21, 3) := by decide +kernel
theorem dX5_settle_52 : decode cX5_settle 52 = .ok (.iload_n 3, 1) := by decide +kernel
theorem dX5_settle_53 : decode cX5_settle 53 = .ok (.dup2, 1) := by decide +kernel
theorem dX5_settle_54 : decode cX5_settle 54 = .ok (.iaload, 1) := by decide +kernel
theorem dX5_settle_55 : decode cX5_settle 55 = .ok (.iconst 1, 1) := by decide +kernel
theorem dX5_settle_56 : decode cX5_settle 56 = .ok (.iadd, 1) := by decide +kernel
theorem dX5_settle_57 : decode cX5_settle 57 = .ok (.iastore, 1) := by decide +kernel
theorem dX5_settle_58 : decode cX5_settle 58 = .ok (.aload_n 0, 1) := by decide +kernel
theorem dX5_settle_59 : decode cX5_settle 59 = .ok (.getfield 24, 3) := by decide +kernel
theorem dX5_settle_62 : decode cX5_settle 62 = .ok (.iload_n 3, 1) := by decide +kernel
theorem dX5_settle_63 : decode cX5_settle 63 = .ok (.dup2, 1) := by decide +kernel
theorem dX5_settle_64 : decode cX5_settle 64 = .ok (.iaload, 1) := by decide +kernel
theorem dX5_settle_65 : decode cX5_settle 65 = .ok (.aload_n 1, 1) := by decide +kernel
theorem dX5_settle_66 : decode cX5_settle 66 = .ok (.getfield 50, 3) := by decide +kernel
theorem dX5_settle_69 : decode cX5_settle 69 = .ok (.iload_n 2, 1) := by decide +kernel
theorem dX5_settle_70 : decode cX5_settle 70 = .ok (.iaload, 1) := by decide +kernel
theorem dX5_settle_71 : decode cX5_settle 71 = .ok (.iadd, 1) := by decide +kernel
theorem dX5_settle_72 : decode cX5_settle 72 = .ok (.iastore, 1) := by decide +kernel
theorem dX5_settle_73 : decode cX5_settle 73 = .ok (.iinc 2 1, 3) := by decide +kernel
theorem dX5_settle_76 : decode cX5_settle 76 = .ok (.goto (-62), 3) := by decide +kernel
theorem dX5_settle_79 : decode cX5_settle 79 = .ok (.aload_n 0, 1) := by decide +kernel
theorem dX5_settle_80 : decode cX5_settle 80 = .ok (.aload_n 1, 1) := by decide +kernel
theorem dX5_settle_81 : decode cX5_settle 81 = .ok (.invokevirtual 53, 3) := by decide +kernel
theorem dX5_settle_84 : decode cX5_settle 84 = .ok (.return_, 1) := by decide +kernel
theorem dX5_clearCounts_0 : decode cX5_clearCounts 0 = .ok (.aload_n 0, 1) := by decide +kernel
theorem dX5_clearCounts_1 : decode cX5_clearCounts 1 = .ok (.getfield 15, 3) := by decide +kernel
theorem dX5_clearCounts_4 : decode cX5_clearCounts 4 = .ok (.iconst 0, 1) := by decide +kernel
theorem dX5_clearCounts_5 : decode cX5_clearCounts 5 = .ok (.iconst 0, 1) := by decide +kernel
theorem dX5_clearCounts_6 : decode cX5_clearCounts 6 = .ok (.iastore, 1) := by decide +kernel
theorem dX5_clearCounts_7 : decode cX5_clearCounts 7 = .ok (.iconst 0, 1) := by decide +kernel
theorem dX5_clearCounts_8 : decode cX5_clearCounts 8 = .ok (.istore_n 1, 1) := by decide +kernel
theorem dX5_clearCounts_9 : decode cX5_clearCounts 9 = .ok (.iload_n 1, 1) := by decide +kernel
theorem dX5_clearCounts_10 : decode cX5_clearCounts 10 = .ok (.aload_n 0, 1) := by decide +kernel
theorem dX5_clearCounts_11 : decode cX5_clearCounts 11 = .ok (.getfield 27, 3) := by decide +kernel
theorem dX5_clearCounts_14 : decode cX5_clearCounts 14 = .ok (.if_icmp .ge 38, 3) := by decide +kernel
theorem dX5_clearCounts_17 : decode cX5_clearCounts 17 = .ok (.aload_n 0, 1) := by decide +kernel
theorem dX5_clearCounts_18 : decode cX5_clearCounts 18 = .ok (.getfield 21, 3) := by decide +kernel
theorem dX5_clearCounts_21 : decode cX5_clearCounts 21 = .ok (.iload_n 1, 1) := by decide +kernel
theorem dX5_clearCounts_22 : decode cX5_clearCounts 22 = .ok (.iconst 0, 1) := by decide +kernel
theorem dX5_clearCounts_23 : decode cX5_clearCounts 23 = .ok (.iastore, 1) := by decide +kernel
theorem dX5_clearCounts_24 : decode cX5_clearCounts 24 = .ok (.aload_n 0, 1) := by decide +kernel
theorem dX5_clearCounts_25 : decode cX5_clearCounts 25 = .ok (.getfield 24, 3) := by decide +kernel
theorem dX5_clearCounts_28 : decode cX5_clearCounts 28 = .ok (.iload_n 1, 1) := by decide +kernel
theorem dX5_clearCounts_29 : decode cX5_clearCounts 29 = .ok (.iconst 0, 1) := by decide +kernel
theorem dX5_clearCounts_30 : decode cX5_clearCounts 30 = .ok (.iastore, 1) := by decide +kernel
theorem dX5_clearCounts_31 : decode cX5_clearCounts 31 = .ok (.aload_n 0, 1) := by decide +kernel
theorem dX5_clearCounts_32 : decode cX5_clearCounts 32 = .ok (.getfield 18, 3) := by decide +kernel
theorem dX5_clearCounts_35 : decode cX5_clearCounts 35 = .ok (.iload_n 1, 1) := by decide +kernel
theorem dX5_clearCounts_36 : decode cX5_clearCounts 36 = .ok (.iload_n 1, 1) := by decide +kernel
theorem dX5_clearCounts_37 : decode cX5_clearCounts 37 = .ok (.ifCond .ne 7, 3) := by decide +kernel
theorem dX5_clearCounts_40 : decode cX5_clearCounts 40 = .ok (.iconst 0, 1) := by decide +kernel
theorem dX5_clearCounts_41 : decode cX5_clearCounts 41 = .ok (.goto 4, 3) := by decide +kernel
theorem dX5_clearCounts_44 : decode cX5_clearCounts 44 = .ok (.iconst 1, 1) := by decide +kernel
theorem dX5_clearCounts_45 : decode cX5_clearCounts 45 = .ok (.iastore, 1) := by decide +kernel
theorem dX5_clearCounts_46 : decode cX5_clearCounts 46 = .ok (.iinc 1 1, 3) := by decide +kernel
theorem dX5_clearCounts_49 : decode cX5_clearCounts 49 = .ok (.goto (-40), 3) := by decide +kernel
theorem dX5_clearCounts_52 : decode cX5_clearCounts 52 = .ok (.return_, 1) := by decide +kernel
theorem dX5_headAbove_0 : decode cX5_headAbove 0 = .ok (.aload_n 1, 1) := by decide +kernel
theorem dX5_headAbove_1 : decode cX5_headAbove 1 = .ok (.iload_n 2, 1) := by decide +kernel
theorem dX5_headAbove_2 : decode cX5_headAbove 2 = .ok (.invokevirtual 57, 3) := by decide +kernel
theorem dX5_headAbove_5 : decode cX5_headAbove 5 = .ok (.ifCond .eq 17, 3) := by decide +kernel
theorem dX5_headAbove_8 : decode cX5_headAbove 8 = .ok (.aload_n 0, 1) := by decide +kernel
theorem dX5_headAbove_9 : decode cX5_headAbove 9 = .ok (.getfield 15, 3) := by decide +kernel
theorem dX5_headAbove_12 : decode cX5_headAbove 12 = .ok (.aload_n 1, 1) := by decide +kernel
theorem dX5_headAbove_13 : decode cX5_headAbove 13 = .ok (.getfield 60, 3) := by decide +kernel
theorem dX5_headAbove_16 : decode cX5_headAbove 16 = .ok (.iload_n 2, 1) := by decide +kernel
theorem dX5_headAbove_17 : decode cX5_headAbove 17 = .ok (.iaload, 1) := by decide +kernel
theorem dX5_headAbove_18 : decode cX5_headAbove 18 = .ok (.iaload, 1) := by decide +kernel
theorem dX5_headAbove_19 : decode cX5_headAbove 19 = .ok (.goto 4, 3) := by decide +kernel
theorem dX5_headAbove_22 : decode cX5_headAbove 22 = .ok (.iconst 0, 1) := by decide +kernel
theorem dX5_headAbove_23 : decode cX5_headAbove 23 = .ok (.istore_n 3, 1) := by decide +kernel
theorem dX5_headAbove_24 : decode cX5_headAbove 24 = .ok (.iload_n 3, 1) := by decide +kernel
theorem dX5_headAbove_25 : decode cX5_headAbove 25 = .ok (.ifCond .lt 12, 3) := by decide +kernel
theorem dX5_headAbove_28 : decode cX5_headAbove 28 = .ok (.iload_n 3, 1) := by decide +kernel
theorem dX5_headAbove_29 : decode cX5_headAbove 29 = .ok (.iload_n 2, 1) := by decide +kernel
theorem dX5_headAbove_30 : decode cX5_headAbove 30 = .ok (.if_icmp .ge 7, 3) := by decide +kernel
theorem dX5_headAbove_33 : decode cX5_headAbove 33 = .ok (.iload_n 3, 1) := by decide +kernel
theorem dX5_headAbove_34 : decode cX5_headAbove 34 = .ok (.goto 4, 3) := by decide +kernel
theorem dX5_headAbove_37 : decode cX5_headAbove 37 = .ok (.iconst 0, 1) := by decide +kernel
theorem dX5_headAbove_38 : decode cX5_headAbove 38 = .ok (.ireturn, 1) := by decide +kernel
theorem dX5_countBranches_0 : decode cX5_countBranches 0 = .ok (.aload_n 0, 1) := by decide +kernel
theorem dX5_countBranches_1 : decode cX5_countBranches 1 = .ok (.getfield 27, 3) := by decide +kernel
theorem dX5_countBranches_4 : decode cX5_countBranches 4 = .ok (.iconst 1, 1) := by decide +kernel
theorem dX5_countBranches_5 : decode cX5_countBranches 5 = .ok (.isub, 1) := by decide +kernel
theorem dX5_countBranches_6 : decode cX5_countBranches 6 = .ok (.istore_n 2, 1) := by decide +kernel
theorem dX5_countBranches_7 : decode cX5_countBranches 7 = .ok (.iload_n 2, 1) := by decide +kernel
theorem dX5_countBranches_8 : decode cX5_countBranches 8 = .ok (.ifCond .le 45, 3) := by decide +kernel
theorem dX5_countBranches_11 : decode cX5_countBranches 11 = .ok (.aload_n 0, 1) := by decide +kernel
theorem dX5_countBranches_12 : decode cX5_countBranches 12 = .ok (.iload_n 2, 1) := by decide +kernel
theorem dX5_countBranches_13 : decode cX5_countBranches 13 = .ok (.invokevirtual 42, 3) := by decide +kernel
theorem dX5_countBranches_16 : decode cX5_countBranches 16 = .ok (.ifCond .ne 31, 3) := by decide +kernel
theorem dX5_countBranches_19 : decode cX5_countBranches 19 = .ok (.aload_n 1, 1) := by decide +kernel
theorem dX5_countBranches_20 : decode cX5_countBranches 20 = .ok (.iload_n 2, 1) := by decide +kernel
theorem dX5_countBranches_21 : decode cX5_countBranches 21 = .ok (.invokevirtual 57, 3) := by decide +kernel
theorem dX5_countBranches_24 : decode cX5_countBranches 24 = .ok (.ifCond .eq 23, 3) := by decide +kernel
theorem dX5_countBranches_27 : decode cX5_countBranches 27 = .ok (.aload_n 0, 1) := by decide +kernel
theorem dX5_countBranches_28 : decode cX5_countBranches 28 = .ok (.getfield 18, 3) := by decide +kernel
theorem dX5_countBranches_31 : decode cX5_countBranches 31 = .ok (.aload_n 1, 1) := by decide +kernel
theorem dX5_countBranches_32 : decode cX5_countBranches 32 = .ok (.getfield 60, 3) := by decide +kernel
theorem dX5_countBranches_35 : decode cX5_countBranches 35 = .ok (.iload_n 2, 1) := by decide +kernel
theorem dX5_countBranches_36 : decode cX5_countBranches 36 = .ok (.iaload, 1) := by decide +kernel
theorem dX5_countBranches_37 : decode cX5_countBranches 37 = .ok (.dup2, 1) := by decide +kernel
theorem dX5_countBranches_38 : decode cX5_countBranches 38 = .ok (.iaload, 1) := by decide +kernel
theorem dX5_countBranches_39 : decode cX5_countBranches 39 = .ok (.aload_n 0, 1) := by decide +kernel
theorem dX5_countBranches_40 : decode cX5_countBranches 40 = .ok (.getfield 18, 3) := by decide +kernel
theorem dX5_countBranches_43 : decode cX5_countBranches 43 = .ok (.iload_n 2, 1) := by decide +kernel
theorem dX5_countBranches_44 : decode cX5_countBranches 44 = .ok (.iaload, 1) := by decide +kernel
theorem dX5_countBranches_45 : decode cX5_countBranches 45 = .ok (.iadd, 1) := by decide +kernel
theorem dX5_countBranches_46 : decode cX5_countBranches 46 = .ok (.iastore, 1) := by decide +kernel
theorem dX5_countBranches_47 : decode cX5_countBranches 47 = .ok (.iinc 2 (-1), 3) := by decide +kernel
theorem dX5_countBranches_50 : decode cX5_countBranches 50 = .ok (.goto (-43), 3) := by decide +kernel
theorem dX5_countBranches_53 : decode cX5_countBranches 53 = .ok (.return_, 1) := by decide +kernel
theorem dX5_hasMeter_0 : decode cX5_hasMeter 0 = .ok (.iload_n 1, 1) := by decide +kernel
theorem dX5_hasMeter_1 : decode cX5_hasMeter 1 = .ok (.ifCond .eq 12, 3) := by decide +kernel
theorem dX5_hasMeter_4 : decode cX5_hasMeter 4 = .ok (.aload_n 0, 1) := by decide +kernel
theorem dX5_hasMeter_5 : decode cX5_hasMeter 5 = .ok (.getfield 9, 3) := by decide +kernel
theorem dX5_hasMeter_8 : decode cX5_hasMeter 8 = .ok (.iload_n 1, 1) := by decide +kernel
theorem dX5_hasMeter_9 : decode cX5_hasMeter 9 = .ok (.iaload, 1) := by decide +kernel
theorem dX5_hasMeter_10 : decode cX5_hasMeter 10 = .ok (.ifCond .eq 7, 3) := by decide +kernel
theorem dX5_hasMeter_13 : decode cX5_hasMeter 13 = .ok (.iconst 1, 1) := by decide +kernel
theorem dX5_hasMeter_14 : decode cX5_hasMeter 14 = .ok (.goto 4, 3) := by decide +kernel
theorem dX5_hasMeter_17 : decode cX5_hasMeter 17 = .ok (.iconst 0, 1) := by decide +kernel
theorem dX5_hasMeter_18 : decode cX5_hasMeter 18 = .ok (.ireturn, 1) := by decide +kernel
theorem dX5_balanceAt_0 : decode cX5_balanceAt 0 = .ok (.aload_n 0, 1) := by decide +kernel
theorem dX5_balanceAt_1 : decode cX5_balanceAt 1 = .ok (.iload_n 1, 1) := by decide +kernel
theorem dX5_balanceAt_2 : decode cX5_balanceAt 2 = .ok (.invokevirtual 42, 3) := by decide +kernel
theorem dX5_balanceAt_5 : decode cX5_balanceAt 5 = .ok (.ifCond .eq 12, 3) := by decide +kernel
theorem dX5_balanceAt_8 : decode cX5_balanceAt 8 = .ok (.aload_n 0, 1) := by decide +kernel
theorem dX5_balanceAt_9 : decode cX5_balanceAt 9 = .ok (.getfield 24, 3) := by decide +kernel
theorem dX5_balanceAt_12 : decode cX5_balanceAt 12 = .ok (.iload_n 1, 1) := by decide +kernel
theorem dX5_balanceAt_13 : decode cX5_balanceAt 13 = .ok (.iaload, 1) := by decide +kernel
theorem dX5_balanceAt_14 : decode cX5_balanceAt 14 = .ok (.goto 4, 3) := by decide +kernel
theorem dX5_balanceAt_17 : decode cX5_balanceAt 17 = .ok (.iconst (-1), 1) := by decide +kernel
theorem dX5_balanceAt_18 : decode cX5_balanceAt 18 = .ok (.ireturn, 1) := by decide +kernel
theorem dX5_sizeAt_0 : decode cX5_sizeAt 0 = .ok (.aload_n 0, 1) := by decide +kernel
theorem dX5_sizeAt_1 : decode cX5_sizeAt 1 = .ok (.iload_n 1, 1) := by decide +kernel
theorem dX5_sizeAt_2 : decode cX5_sizeAt 2 = .ok (.invokevirtual 42, 3) := by decide +kernel
theorem dX5_sizeAt_5 : decode cX5_sizeAt 5 = .ok (.ifCond .eq 12, 3) := by decide +kernel
theorem dX5_sizeAt_8 : decode cX5_sizeAt 8 = .ok (.aload_n 0, 1) := by decide +kernel
theorem dX5_sizeAt_9 : decode cX5_sizeAt 9 = .ok (.getfield 21, 3) := by decide +kernel
theorem dX5_sizeAt_12 : decode cX5_sizeAt 12 = .ok (.iload_n 1, 1) := by decide +kernel
theorem dX5_sizeAt_13 : decode cX5_sizeAt 13 = .ok (.iaload, 1) := by decide +kernel
theorem dX5_sizeAt_14 : decode cX5_sizeAt 14 = .ok (.goto 4, 3) := by decide +kernel
theorem dX5_sizeAt_17 : decode cX5_sizeAt 17 = .ok (.iconst (-1), 1) := by decide +kernel
theorem dX5_sizeAt_18 : decode cX5_sizeAt 18 = .ok (.ireturn, 1) := by decide +kernel
theorem dX5_suspectCount_0 : decode cX5_suspectCount 0 = .ok (.iconst 0, 1) := by decide +kernel
theorem dX5_suspectCount_1 : decode cX5_suspectCount 1 = .ok (.istore_n 1, 1) := by decide +kernel
theorem dX5_suspectCount_2 : decode cX5_suspectCount 2 = .ok (.iconst 0, 1) := by decide +kernel
theorem dX5_suspectCount_3 : decode cX5_suspectCount 3 = .ok (.istore_n 2, 1) := by decide +kernel
theorem dX5_suspectCount_4 : decode cX5_suspectCount 4 = .ok (.iload_n 2, 1) := by decide +kernel
theorem dX5_suspectCount_5 : decode cX5_suspectCount 5 = .ok (.aload_n 0, 1) := by decide +kernel
theorem dX5_suspectCount_6 : decode cX5_suspectCount 6 = .ok (.getfield 27, 3) := by decide +kernel
theorem dX5_suspectCount_9 : decode cX5_suspectCount 9 = .ok (.if_icmp .ge 20, 3) := by decide +kernel
theorem dX5_suspectCount_12 : decode cX5_suspectCount 12 = .ok (.aload_n 0, 1) := by decide +kernel
theorem dX5_suspectCount_13 : decode cX5_suspectCount 13 = .ok (.iload_n 2, 1) := by decide +kernel
theorem dX5_suspectCount_14 : decode cX5_suspectCount 14 = .ok (.invokevirtual 63, 3) := by decide +kernel
theorem dX5_suspectCount_17 : decode cX5_suspectCount 17 = .ok (.ifCond .le 6, 3) := by decide +kernel
theorem dX5_suspectCount_20 : decode cX5_suspectCount 20 = .ok (.iinc 1 1, 3) := by decide +kernel
theorem dX5_suspectCount_23 : decode cX5_suspectCount 23 = .ok (.iinc 2 1, 3) := by decide +kernel
theorem dX5_suspectCount_26 : decode cX5_suspectCount 26 = .ok (.goto (-22), 3) := by decide +kernel
theorem dX5_suspectCount_29 : decode cX5_suspectCount 29 = .ok (.iload_n 1, 1) := by decide +kernel
theorem dX5_suspectCount_30 : decode cX5_suspectCount 30 = .ok (.ireturn, 1) := by decide +kernel
theorem dX5_nextPlace_0 : decode cX5_nextPlace 0 = .ok (.aload_n 0, 1) := by decide +kernel
theorem dX5_nextPlace_1 : decode cX5_nextPlace 1 = .ok (.iload_n 1, 1) := by decide +kernel
theorem dX5_nextPlace_2 : decode cX5_nextPlace 2 = .ok (.invokevirtual 63, 3) := by decide +kernel
theorem dX5_nextPlace_5 : decode cX5_nextPlace 5 = .ok (.ifCond .le 13, 3) := by decide +kernel
theorem dX5_nextPlace_8 : decode cX5_nextPlace 8 = .ok (.aload_n 0, 1) := by decide +kernel
theorem dX5_nextPlace_9 : decode cX5_nextPlace 9 = .ok (.getfield 21, 3) := by decide +kernel
theorem dX5_nextPlace_12 : decode cX5_nextPlace 12 = .ok (.iload_n 1, 1) := by decide +kernel
theorem dX5_nextPlace_13 : decode cX5_nextPlace 13 = .ok (.iaload, 1) := by decide +kernel
theorem dX5_nextPlace_14 : decode cX5_nextPlace 14 = .ok (.iconst 1, 1) := by decide +kernel
theorem dX5_nextPlace_15 : decode cX5_nextPlace 15 = .ok (.if_icmp .gt 5, 3) := by decide +kernel
theorem dX5_nextPlace_18 : decode cX5_nextPlace 18 = .ok (.iconst (-1), 1) := by decide +kernel
theorem dX5_nextPlace_19 : decode cX5_nextPlace 19 = .ok (.ireturn, 1) := by decide +kernel
theorem dX5_nextPlace_20 : decode cX5_nextPlace 20 = .ok (.iconst (-1), 1) := by decide +kernel
theorem dX5_nextPlace_21 : decode cX5_nextPlace 21 = .ok (.istore_n 2, 1) := by decide +kernel
theorem dX5_nextPlace_22 : decode cX5_nextPlace 22 = .ok (.iconst 0, 1) := by decide +kernel
theorem dX5_nextPlace_23 : decode cX5_nextPlace 23 = .ok (.istore_n 3, 1) := by decide +kernel
theorem dX5_nextPlace_24 : decode cX5_nextPlace 24 = .ok (.iconst 1, 1) := by decide +kernel
theorem dX5_nextPlace_25 : decode cX5_nextPlace 25 = .ok (.istore 4, 2) := by decide +kernel
theorem dX5_nextPlace_27 : decode cX5_nextPlace 27 = .ok (.iload 4, 2) := by decide +kernel
theorem dX5_nextPlace_29 : decode cX5_nextPlace 29 = .ok (.aload_n 0, 1) := by decide +kernel
theorem dX5_nextPlace_30 : decode cX5_nextPlace 30 = .ok (.getfield 27, 3) := by decide +kernel
theorem dX5_nextPlace_33 : decode cX5_nextPlace 33 = .ok (.if_icmp .ge 67, 3) := by decide +kernel
theorem dX5_nextPlace_36 : decode cX5_nextPlace 36 = .ok (.aload_n 0, 1) := by decide +kernel
theorem dX5_nextPlace_37 : decode cX5_nextPlace 37 = .ok (.getfield 15, 3) := by decide +kernel
theorem dX5_nextPlace_40 : decode cX5_nextPlace 40 = .ok (.iload 4, 2) := by decide +kernel
theorem dX5_nextPlace_42 : decode cX5_nextPlace 42 = .ok (.iaload, 1) := by decide +kernel
theorem dX5_nextPlace_43 : decode cX5_nextPlace 43 = .ok (.iload_n 1, 1) := by decide +kernel
theorem dX5_nextPlace_44 : decode cX5_nextPlace 44 = .ok (.if_icmp .ne 50, 3) := by decide +kernel
theorem dX5_nextPlace_47 : decode cX5_nextPlace 47 = .ok (.aload_n 0, 1) := by decide +kernel
theorem dX5_nextPlace_48 : decode cX5_nextPlace 48 = .ok (.iload 4, 2) := by decide +kernel
theorem dX5_nextPlace_50 : decode cX5_nextPlace 50 = .ok (.invokevirtual 42, 3) := by decide +kernel
theorem dX5_nextPlace_53 : decode cX5_nextPlace 53 = .ok (.ifCond .ne 41, 3) := by decide +kernel
theorem dX5_nextPlace_56 : decode cX5_nextPlace 56 = .ok (.iconst 2, 1) := by decide +kernel
theorem dX5_nextPlace_57 : decode cX5_nextPlace 57 = .ok (.aload_n 0, 1) := by decide +kernel
theorem dX5_nextPlace_58 : decode cX5_nextPlace 58 = .ok (.getfield 18, 3) := by decide +kernel
theorem dX5_nextPlace_61 : decode cX5_nextPlace 61 = .ok (.iload 4, 2) := by decide +kernel
theorem dX5_nextPlace_63 : decode cX5_nextPlace 63 = .ok (.iaload, 1) := by decide +kernel
theorem dX5_nextPlace_64 : decode cX5_nextPlace 64 = .ok (.imul, 1) := by decide +kernel
theorem dX5_nextPlace_65 : decode cX5_nextPlace 65 = .ok (.aload_n 0, 1) := by decide +kernel
theorem dX5_nextPlace_66 : decode cX5_nextPlace 66 = .ok (.getfield 21, 3) := by decide +kernel
theorem dX5_nextPlace_69 : decode cX5_nextPlace 69 = .ok (.iload_n 1, 1) := by decide +kernel
theorem dX5_nextPlace_70 : decode cX5_nextPlace 70 = .ok (.iaload, 1) := by decide +kernel
theorem dX5_nextPlace_71 : decode cX5_nextPlace 71 = .ok (.isub, 1) := by decide +kernel
theorem dX5_nextPlace_72 : decode cX5_nextPlace 72 = .ok (.invokestatic 67, 3) := by decide +kernel
theorem dX5_nextPlace_75 : decode cX5_nextPlace 75 = .ok (.istore 5, 2) := by decide +kernel
theorem dX5_nextPlace_77 : decode cX5_nextPlace 77 = .ok (.iload_n 2, 1) := by decide +kernel
theorem dX5_nextPlace_78 : decode cX5_nextPlace 78 = .ok (.iconst (-1), 1) := by decide +kernel
theorem dX5_nextPlace_79 : decode cX5_nextPlace 79 = .ok (.if_icmp .eq 9, 3) := by decide +kernel
theorem dX5_nextPlace_82 : decode cX5_nextPlace 82 = .ok (.iload 5, 2) := by decide +kernel
theorem dX5_nextPlace_84 : decode cX5_nextPlace 84 = .ok (.iload_n 3, 1) := by decide +kernel
theorem dX5_nextPlace_85 : decode cX5_nextPlace 85 = .ok (.if_icmp .ge 9, 3) := by decide +kernel
theorem dX5_nextPlace_88 : decode cX5_nextPlace 88 = .ok (.iload 4, 2) := by decide +kernel
theorem dX5_nextPlace_90 : decode cX5_nextPlace 90 = .ok (.istore_n 2, 1) := by decide +kernel
theorem dX5_nextPlace_91 : decode cX5_nextPlace 91 = .ok (.iload 5, 2) := by decide +kernel
theorem dX5_nextPlace_93 : decode cX5_nextPlace 93 = .ok (.istore_n 3, 1) := by decide +kernel
theorem dX5_nextPlace_94 : decode cX5_nextPlace 94 = .ok (.iinc 4 1, 3) := by decide +kernel
theorem dX5_nextPlace_97 : decode cX5_nextPlace 97 = .ok (.goto (-70), 3) := by decide +kernel
theorem dX5_nextPlace_100 : decode cX5_nextPlace 100 = .ok (.iload_n 2, 1) := by decide +kernel
theorem dX5_nextPlace_101 : decode cX5_nextPlace 101 = .ok (.ireturn, 1) := by decide +kernel
theorem dX5_firstNextPlace_0 : decode cX5_firstNextPlace 0 = .ok (.iconst 0, 1) := by decide +kernel
theorem dX5_firstNextPlace_1 : decode cX5_firstNextPlace 1 = .ok (.istore_n 1, 1) := by decide +kernel
theorem dX5_firstNextPlace_2 : decode cX5_firstNextPlace 2 = .ok (.iload_n 1, 1) := by decide +kernel
theorem dX5_firstNextPlace_3 : decode cX5_firstNextPlace 3 = .ok (.aload_n 0, 1) := by decide +kernel
theorem dX5_firstNextPlace_4 : decode cX5_firstNextPlace 4 = .ok (.getfield 27, 3) := by decide +kernel
theorem dX5_firstNextPlace_7 : decode cX5_firstNextPlace 7 = .ok (.if_icmp .ge 22, 3) := by decide +kernel
theorem dX5_firstNextPlace_10 : decode cX5_firstNextPlace 10 = .ok (.aload_n 0, 1) := by decide +kernel
theorem dX5_firstNextPlace_11 : decode cX5_firstNextPlace 11 = .ok (.iload_n 1, 1) := by decide +kernel
theorem dX5_firstNextPlace_12 : decode cX5_firstNextPlace 12 = .ok (.invokevirtual 72, 3) := by decide +kernel
theorem dX5_firstNextPlace_15 : decode cX5_firstNextPlace 15 = .ok (.istore_n 2, 1) := by decide +kernel
theorem dX5_firstNextPlace_16 : decode cX5_firstNextPlace 16 = .ok (.iload_n 2, 1) := by decide +kernel
theorem dX5_firstNextPlace_17 : decode cX5_firstNextPlace 17 = .ok (.iconst (-1), 1) := by decide +kernel
theorem dX5_firstNextPlace_18 : decode cX5_firstNextPlace 18 = .ok (.if_icmp .eq 5, 3) := by decide +kernel
theorem dX5_firstNextPlace_21 : decode cX5_firstNextPlace 21 = .ok (.iload_n 2, 1) := by decide +kernel
theorem dX5_firstNextPlace_22 : decode cX5_firstNextPlace 22 = .ok (.ireturn, 1) := by decide +kernel
theorem dX5_firstNextPlace_23 : decode cX5_firstNextPlace 23 = .ok (.iinc 1 1, 3) := by decide +kernel
theorem dX5_firstNextPlace_26 : decode cX5_firstNextPlace 26 = .ok (.goto (-24), 3) := by decide +kernel
theorem dX5_firstNextPlace_29 : decode cX5_firstNextPlace 29 = .ok (.iconst (-1), 1) := by decide +kernel
theorem dX5_firstNextPlace_30 : decode cX5_firstNextPlace 30 = .ok (.ireturn, 1) := by decide +kernel
theorem dX6_init_0 : decode cX6_init 0 = .ok (.aload_n 0, 1) := by decide +kernel
theorem dX6_init_1 : decode cX6_init 1 = .ok (.invokespecial 1, 3) := by decide +kernel
theorem dX6_init_4 : decode cX6_init 4 = .ok (.aload_n 0, 1) := by decide +kernel
theorem dX6_init_5 : decode cX6_init 5 = .ok (.new 7, 3) := by decide +kernel
theorem dX6_init_8 : decode cX6_init 8 = .ok (.dup, 1) := by decide +kernel
theorem dX6_init_9 : decode cX6_init 9 = .ok (.invokespecial 9, 3) := by decide +kernel
theorem dX6_init_12 : decode cX6_init 12 = .ok (.putfield 10, 3) := by decide +kernel
theorem dX6_init_15 : decode cX6_init 15 = .ok (.aload_n 0, 1) := by decide +kernel
theorem dX6_init_16 : decode cX6_init 16 = .ok (.new 16, 3) := by decide +kernel
theorem dX6_init_19 : decode cX6_init 19 = .ok (.dup, 1) := by decide +kernel
theorem dX6_init_20 : decode cX6_init 20 = .ok (.invokespecial 18, 3) := by decide +kernel
theorem dX6_init_23 : decode cX6_init 23 = .ok (.putfield 19, 3) := by decide +kernel
theorem dX6_init_26 : decode cX6_init 26 = .ok (.aload_n 0, 1) := by decide +kernel
theorem dX6_init_27 : decode cX6_init 27 = .ok (.sipush 800, 3) := by decide +kernel
theorem dX6_init_30 : decode cX6_init 30 = .ok (.putfield 23, 3) := by decide +kernel
theorem dX6_init_33 : decode cX6_init 33 = .ok (.aload_n 0, 1) := by decide +kernel
theorem dX6_init_34 : decode cX6_init 34 = .ok (.bipush 80, 2) := by decide +kernel
theorem dX6_init_36 : decode cX6_init 36 = .ok (.putfield 27, 3) := by decide +kernel
theorem dX6_init_39 : decode cX6_init 39 = .ok (.aload_n 0, 1) := by decide +kernel
theorem dX6_init_40 : decode cX6_init 40 = .ok (.bipush 50, 2) := by decide +kernel
theorem dX6_init_42 : decode cX6_init 42 = .ok (.putfield 30, 3) := by decide +kernel
theorem dX6_init_45 : decode cX6_init 45 = .ok (.aload_n 0, 1) := by decide +kernel
theorem dX6_init_46 : decode cX6_init 46 = .ok (.sipush 400, 3) := by decide +kernel
theorem dX6_init_49 : decode cX6_init 49 = .ok (.putfield 33, 3) := by decide +kernel
theorem dX6_init_52 : decode cX6_init 52 = .ok (.aload_n 0, 1) := by decide +kernel
theorem dX6_init_53 : decode cX6_init 53 = .ok (.bipush 10, 2) := by decide +kernel
theorem dX6_init_55 : decode cX6_init 55 = .ok (.putfield 36, 3) := by decide +kernel
theorem dX6_init_58 : decode cX6_init 58 = .ok (.aload_n 0, 1) := by decide +kernel
theorem dX6_init_59 : decode cX6_init 59 = .ok (.iconst 0, 1) := by decide +kernel
theorem dX6_init_60 : decode cX6_init 60 = .ok (.putfield 39, 3) := by decide +kernel
theorem dX6_init_63 : decode cX6_init 63 = .ok (.aload_n 0, 1) := by decide +kernel
theorem dX6_init_64 : decode cX6_init 64 = .ok (.iconst 0, 1) := by decide +kernel
theorem dX6_init_65 : decode cX6_init 65 = .ok (.putfield 42, 3) := by decide +kernel
theorem dX6_init_68 : decode cX6_init 68 = .ok (.return_, 1) := by decide +kernel
theorem dX6_copyFrom_0 : decode cX6_copyFrom 0 = .ok (.aload_n 0, 1) := by decide +kernel
theorem dX6_copyFrom_1 : decode cX6_copyFrom 1 = .ok (.getfield 10, 3) := by decide +kernel
theorem dX6_copyFrom_4 : decode cX6_copyFrom 4 = .ok (.aload_n 1, 1) := by decide +kernel
theorem dX6_copyFrom_5 : decode cX6_copyFrom 5 = .ok (.getfield 10, 3) := by decide +kernel
theorem dX6_copyFrom_8 : decode cX6_copyFrom 8 = .ok (.invokevirtual 45, 3) := by decide +kernel
theorem dX6_copyFrom_11 : decode cX6_copyFrom 11 = .ok (.aload_n 0, 1) := by decide +kernel
theorem dX6_copyFrom_12 : decode cX6_copyFrom 12 = .ok (.getfield 19, 3) := by decide +kernel
theorem dX6_copyFrom_15 : decode cX6_copyFrom 15 = .ok (.aload_n 1, 1) := by decide +kernel
theorem dX6_copyFrom_16 : decode cX6_copyFrom 16 = .ok (.getfield 19, 3) := by decide +kernel
theorem dX6_copyFrom_19 : decode cX6_copyFrom 19 = .ok (.invokevirtual 49, 3) := by decide +kernel
theorem dX6_copyFrom_22 : decode cX6_copyFrom 22 = .ok (.aload_n 0, 1) := by decide +kernel
theorem dX6_copyFrom_23 : decode cX6_copyFrom 23 = .ok (.aload_n 1, 1) := by decide +kernel
theorem dX6_copyFrom_24 : decode cX6_copyFrom 24 = .ok (.getfield 23, 3) := by decide +kernel
theorem dX6_copyFrom_27 : decode cX6_copyFrom 27 = .ok (.putfield 23, 3) := by decide +kernel
theorem dX6_copyFrom_30 : decode cX6_copyFrom 30 = .ok (.aload_n 0, 1) := by decide +kernel
theorem dX6_copyFrom_31 : decode cX6_copyFrom 31 = .ok (.aload_n 1, 1) := by decide +kernel
theorem dX6_copyFrom_32 : decode cX6_copyFrom 32 = .ok (.getfield 27, 3) := by decide +kernel
theorem dX6_copyFrom_35 : decode cX6_copyFrom 35 = .ok (.putfield 27, 3) := by decide +kernel
theorem dX6_copyFrom_38 : decode cX6_copyFrom 38 = .ok (.aload_n 0, 1) := by decide +kernel
theorem dX6_copyFrom_39 : decode cX6_copyFrom 39 = .ok (.aload_n 1, 1) := by decide +kernel
theorem dX6_copyFrom_40 : decode cX6_copyFrom 40 = .ok (.getfield 30, 3) := by decide +kernel
theorem dX6_copyFrom_43 : decode cX6_copyFrom 43 = .ok (.putfield 30, 3) := by decide +kernel
theorem dX6_copyFrom_46 : decode cX6_copyFrom 46 = .ok (.aload_n 0, 1) := by decide +kernel
theorem dX6_copyFrom_47 : decode cX6_copyFrom 47 = .ok (.aload_n 1, 1) := by decide +kernel
theorem dX6_copyFrom_48 : decode cX6_copyFrom 48 = .ok (.getfield 33, 3) := by decide +kernel
theorem dX6_copyFrom_51 : decode cX6_copyFrom 51 = .ok (.putfield 33, 3) := by decide +kernel
theorem dX6_copyFrom_54 : decode cX6_copyFrom 54 = .ok (.aload_n 0, 1) := by decide +kernel
theorem dX6_copyFrom_55 : decode cX6_copyFrom 55 = .ok (.aload_n 1, 1) := by decide +kernel
theorem dX6_copyFrom_56 : decode cX6_copyFrom 56 = .ok (.getfield 36, 3) := by decide +kernel
theorem dX6_copyFrom_59 : decode cX6_copyFrom 59 = .ok (.putfield 36, 3) := by decide +kernel
theorem dX6_copyFrom_62 : decode cX6_copyFrom 62 = .ok (.aload_n 0, 1) := by decide +kernel
theorem dX6_copyFrom_63 : decode cX6_copyFrom 63 = .ok (.aload_n 1, 1) := by decide +kernel
theorem dX6_copyFrom_64 : decode cX6_copyFrom 64 = .ok (.getfield 39, 3) := by decide +kernel
theorem dX6_copyFrom_67 : decode cX6_copyFrom 67 = .ok (.putfield 39, 3) := by decide +kernel
theorem dX6_copyFrom_70 : decode cX6_copyFrom 70 = .ok (.aload_n 0, 1) := by decide +kernel
theorem dX6_copyFrom_71 : decode cX6_copyFrom 71 = .ok (.aload_n 1, 1) := by decide +kernel
theorem dX6_copyFrom_72 : decode cX6_copyFrom 72 = .ok (.getfield 42, 3) := by decide +kernel
theorem dX6_copyFrom_75 : decode cX6_copyFrom 75 = .ok (.putfield 42, 3) := by decide +kernel
theorem dX6_copyFrom_78 : decode cX6_copyFrom 78 = .ok (.return_, 1) := by decide +kernel
theorem dX7_init_0 : decode cX7_init 0 = .ok (.aload_n 0, 1) := by decide +kernel
theorem dX7_init_1 : decode cX7_init 1 = .ok (.invokespecial 1, 3) := by decide +kernel
theorem dX7_init_4 : decode cX7_init 4 = .ok (.aload_n 0, 1) := by decide +kernel
theorem dX7_init_5 : decode cX7_init 5 = .ok (.new 7, 3) := by decide +kernel
theorem dX7_init_8 : decode cX7_init 8 = .ok (.dup, 1) := by decide +kernel
theorem dX7_init_9 : decode cX7_init 9 = .ok (.invokespecial 9, 3) := by decide +kernel
theorem dX7_init_12 : decode cX7_init 12 = .ok (.putfield 10, 3) := by decide +kernel
theorem dX7_init_15 : decode cX7_init 15 = .ok (.aload_n 0, 1) := by decide +kernel
theorem dX7_init_16 : decode cX7_init 16 = .ok (.new 16, 3) := by decide +kernel
theorem dX7_init_19 : decode cX7_init 19 = .ok (.dup, 1) := by decide +kernel
theorem dX7_init_20 : decode cX7_init 20 = .ok (.invokespecial 18, 3) := by decide +kernel
theorem dX7_init_23 : decode cX7_init 23 = .ok (.putfield 19, 3) := by decide +kernel
theorem dX7_init_26 : decode cX7_init 26 = .ok (.aload_n 0, 1) := by decide +kernel
theorem dX7_init_27 : decode cX7_init 27 = .ok (.new 23, 3) := by decide +kernel
theorem dX7_init_30 : decode cX7_init 30 = .ok (.dup, 1) := by decide +kernel
theorem dX7_init_31 : decode cX7_init 31 = .ok (.invokespecial 25, 3) := by decide +kernel
theorem dX7_init_34 : decode cX7_init 34 = .ok (.putfield 26, 3) := by decide +kernel
theorem dX7_init_37 : decode cX7_init 37 = .ok (.aload_n 0, 1) := by decide +kernel
theorem dX7_init_38 : decode cX7_init 38 = .ok (.new 30, 3) := by decide +kernel
theorem dX7_init_41 : decode cX7_init 41 = .ok (.dup, 1) := by decide +kernel
theorem dX7_init_42 : decode cX7_init 42 = .ok (.invokespecial 32, 3) := by decide +kernel
theorem dX7_init_45 : decode cX7_init 45 = .ok (.putfield 33, 3) := by decide +kernel
theorem dX7_init_48 : decode cX7_init 48 = .ok (.aload_n 0, 1) := by decide +kernel
theorem dX7_init_49 : decode cX7_init 49 = .ok (.new 37, 3) := by decide +kernel
theorem dX7_init_52 : decode cX7_init 52 = .ok (.dup, 1) := by decide +kernel
theorem dX7_init_53 : decode cX7_init 53 = .ok (.invokespecial 39, 3) := by decide +kernel
theorem dX7_init_56 : decode cX7_init 56 = .ok (.putfield 40, 3) := by decide +kernel
theorem dX7_init_59 : decode cX7_init 59 = .ok (.aload_n 0, 1) := by decide +kernel
theorem dX7_init_60 : decode cX7_init 60 = .ok (.new 30, 3) := by decide +kernel
theorem dX7_init_63 : decode cX7_init 63 = .ok (.dup, 1) := by decide +kernel
theorem dX7_init_64 : decode cX7_init 64 = .ok (.invokespecial 32, 3) := by decide +kernel
theorem dX7_init_67 : decode cX7_init 67 = .ok (.putfield 44, 3) := by decide +kernel
theorem dX7_init_70 : decode cX7_init 70 = .ok (.aload_n 0, 1) := by decide +kernel
theorem dX7_init_71 : decode cX7_init 71 = .ok (.new 37, 3) := by decide +kernel
theorem dX7_init_74 : decode cX7_init 74 = .ok (.dup, 1) := by decide +kernel
theorem dX7_init_75 : decode cX7_init 75 = .ok (.invokespecial 39, 3) := by decide +kernel
theorem dX7_init_78 : decode cX7_init 78 = .ok (.putfield 47, 3) := by decide +kernel
theorem dX7_init_81 : decode cX7_init 81 = .ok (.aload_n 0, 1) := by decide +kernel
theorem dX7_init_82 : decode cX7_init 82 = .ok (.new 50, 3) := by decide +kernel
theorem dX7_init_85 : decode cX7_init 85 = .ok (.dup, 1) := by decide +kernel
theorem dX7_init_86 : decode cX7_init 86 = .ok (.invokespecial 52, 3) := by decide +kernel
theorem dX7_init_89 : decode cX7_init 89 = .ok (.putfield 53, 3) := by decide +kernel
theorem dX7_init_92 : decode cX7_init 92 = .ok (.aload_n 0, 1) := by decide +kernel
theorem dX7_init_93 : decode cX7_init 93 = .ok (.bipush 16, 2) := by decide +kernel
theorem dX7_init_95 : decode cX7_init 95 = .ok (.newarray .int, 2) := by decide +kernel
theorem dX7_init_97 : decode cX7_init 97 = .ok (.putfield 57, 3) := by decide +kernel
theorem dX7_init_100 : decode cX7_init 100 = .ok (.aload_n 0, 1) := by decide +kernel
theorem dX7_init_101 : decode cX7_init 101 = .ok (.invokevirtual 61, 3) := by decide +kernel
theorem dX7_init_104 : decode cX7_init 104 = .ok (.return_, 1) := by decide +kernel
theorem dX7_addNode_0 : decode cX7_addNode 0 = .ok (.aload_n 0, 1) := by decide +kernel
theorem dX7_addNode_1 : decode cX7_addNode 1 = .ok (.iload_n 1, 1) := by decide +kernel
theorem dX7_addNode_2 : decode cX7_addNode 2 = .ok (.invokevirtual 64, 3) := by decide +kernel
theorem dX7_addNode_5 : decode cX7_addNode 5 = .ok (.iload_n 2, 1) := by decide +kernel
theorem dX7_addNode_6 : decode cX7_addNode 6 = .ok (.iconst 1, 1) := by decide +kernel
theorem dX7_addNode_7 : decode cX7_addNode 7 = .ok (.sipush 500, 3) := by decide +kernel
theorem dX7_addNode_10 : decode cX7_addNode 10 = .ok (.invokestatic 68, 3) := by decide +kernel
theorem dX7_addNode_13 : decode cX7_addNode 13 = .ok (.iload_n 3, 1) := by decide +kernel
theorem dX7_addNode_14 : decode cX7_addNode 14 = .ok (.iconst 0, 1) := by decide +kernel
theorem dX7_addNode_15 : decode cX7_addNode 15 = .ok (.bipush 50, 2) := by decide +kernel
theorem dX7_addNode_17 : decode cX7_addNode 17 = .ok (.invokestatic 68, 3) := by decide +kernel
theorem dX7_addNode_20 : decode cX7_addNode 20 = .ok (.iload 4, 2) := by decide +kernel
theorem dX7_addNode_22 : decode cX7_addNode 22 = .ok (.iconst 0, 1) := by decide +kernel
theorem dX7_addNode_23 : decode cX7_addNode 23 = .ok (.sipush 500, 3) := by decide +kernel
theorem dX7_addNode_26 : decode cX7_addNode 26 = .ok (.invokestatic 68, 3) := by decide +kernel
theorem dX7_addNode_29 : decode cX7_addNode 29 = .ok (.iload 5, 2) := by decide +kernel
theorem dX7_addNode_31 : decode cX7_addNode 31 = .ok (.iconst 0, 1) := by decide +kernel
theorem dX7_addNode_32 : decode cX7_addNode 32 = .ok (.sipush 1200, 3) := by decide +kernel
theorem dX7_addNode_35 : decode cX7_addNode 35 = .ok (.invokestatic 68, 3) := by decide +kernel
theorem dX7_addNode_38 : decode cX7_addNode 38 = .ok (.aload_n 0, 1) := by decide +kernel
theorem dX7_addNode_39 : decode cX7_addNode 39 = .ok (.getfield 10, 3) := by decide +kernel
theorem dX7_addNode_42 : decode cX7_addNode 42 = .ok (.getfield 72, 3) := by decide +kernel
theorem dX7_addNode_45 : decode cX7_addNode 45 = .ok (.getfield 75, 3) := by decide +kernel
theorem dX7_addNode_48 : decode cX7_addNode 48 = .ok (.bipush 16, 2) := by decide +kernel
theorem dX7_addNode_50 : decode cX7_addNode 50 = .ok (.if_icmp .lt 13, 3) := by decide +kernel
theorem dX7_addNode_53 : decode cX7_addNode 53 = .ok (.new 79, 3) := by decide +kernel
theorem dX7_addNode_56 : decode cX7_addNode 56 = .ok (.dup, 1) := by decide +kernel
theorem dX7_addNode_57 : decode cX7_addNode 57 = .ok (.ldc 81, 2) := by decide +kernel
theorem dX7_addNode_59 : decode cX7_addNode 59 = .ok (.invokespecial 83, 3) := by decide +kernel
theorem dX7_addNode_62 : decode cX7_addNode 62 = .ok (.athrow, 1) := by decide +kernel
theorem dX7_addNode_63 : decode cX7_addNode 63 = .ok (.aload_n 0, 1) := by decide +kernel
theorem dX7_addNode_64 : decode cX7_addNode 64 = .ok (.getfield 19, 3) := by decide +kernel
theorem dX7_addNode_67 : decode cX7_addNode 67 = .ok (.aload_n 0, 1) := by decide +kernel
theorem dX7_addNode_68 : decode cX7_addNode 68 = .ok (.getfield 10, 3) := by decide +kernel
theorem dX7_addNode_71 : decode cX7_addNode 71 = .ok (.invokevirtual 86, 3) := by decide +kernel
theorem dX7_addNode_74 : decode cX7_addNode 74 = .ok (.aload_n 0, 1) := by decide +kernel
theorem dX7_addNode_75 : decode cX7_addNode 75 = .ok (.getfield 10, 3) := by decide +kernel
theorem dX7_addNode_78 : decode cX7_addNode 78 = .ok (.getfield 72, 3) := by decide +kernel
theorem dX7_addNode_81 : decode cX7_addNode 81 = .ok (.iload_n 1, 1) := by decide +kernel
theorem dX7_addNode_82 : decode cX7_addNode 82 = .ok (.iload_n 2, 1) := by decide +kernel
theorem dX7_addNode_83 : decode cX7_addNode 83 = .ok (.iload_n 3, 1) := by decide +kernel
theorem dX7_addNode_84 : decode cX7_addNode 84 = .ok (.iload 4, 2) := by decide +kernel
theorem dX7_addNode_86 : decode cX7_addNode 86 = .ok (.iload 5, 2) := by decide +kernel
theorem dX7_addNode_88 : decode cX7_addNode 88 = .ok (.invokevirtual 90, 3) := by decide +kernel
theorem dX7_addNode_91 : decode cX7_addNode 91 = .ok (.istore 6, 2) := by decide +kernel
theorem dX7_addNode_93 : decode cX7_addNode 93 = .ok (.aload_n 0, 1) := by decide +kernel
theorem dX7_addNode_94 : decode cX7_addNode 94 = .ok (.invokevirtual 61, 3) := by decide +kernel
theorem dX7_addNode_97 : decode cX7_addNode 97 = .ok (.iload 6, 2) := by decide +kernel
theorem dX7_addNode_99 : decode cX7_addNode 99 = .ok (.ireturn, 1) := by decide +kernel
theorem dX7_setDraw_0 : decode cX7_setDraw 0 = .ok (.aload_n 0, 1) := by decide +kernel
theorem dX7_setDraw_1 : decode cX7_setDraw 1 = .ok (.iload_n 1, 1) := by decide +kernel
theorem dX7_setDraw_2 : decode cX7_setDraw 2 = .ok (.invokevirtual 94, 3) := by decide +kernel
theorem dX7_setDraw_5 : decode cX7_setDraw 5 = .ok (.iload_n 2, 1) := by decide +kernel
theorem dX7_setDraw_6 : decode cX7_setDraw 6 = .ok (.iconst 0, 1) := by decide +kernel
theorem dX7_setDraw_7 : decode cX7_setDraw 7 = .ok (.sipush 500, 3) := by decide +kernel
theorem dX7_setDraw_10 : decode cX7_setDraw 10 = .ok (.invokestatic 68, 3) := by decide +kernel
theorem dX7_setDraw_13 : decode cX7_setDraw 13 = .ok (.iload_n 3, 1) := by decide +kernel
theorem dX7_setDraw_14 : decode cX7_setDraw 14 = .ok (.iconst 0, 1) := by decide +kernel
theorem dX7_setDraw_15 : decode cX7_setDraw 15 = .ok (.sipush 1200, 3) := by decide +kernel
theorem dX7_setDraw_18 : decode cX7_setDraw 18 = .ok (.invokestatic 68, 3) := by decide +kernel
theorem dX7_setDraw_21 : decode cX7_setDraw 21 = .ok (.aload_n 0, 1) := by decide +kernel
theorem dX7_setDraw_22 : decode cX7_setDraw 22 = .ok (.getfield 19, 3) := by decide +kernel
theorem dX7_setDraw_25 : decode cX7_setDraw 25 = .ok (.aload_n 0, 1) := by decide +kernel
theorem dX7_setDraw_26 : decode cX7_setDraw 26 = .ok (.getfield 10, 3) := by decide +kernel
theorem dX7_setDraw_29 : decode cX7_setDraw 29 = .ok (.invokevirtual 86, 3) := by decide +kernel
theorem dX7_setDraw_32 : decode cX7_setDraw 32 = .ok (.aload_n 0, 1) := by decide +kernel
theorem dX7_setDraw_33 : decode cX7_setDraw 33 = .ok (.getfield 10, 3) := by decide +kernel
theorem dX7_setDraw_36 : decode cX7_setDraw 36 = .ok (.getfield 72, 3) := by decide +kernel
theorem dX7_setDraw_39 : decode cX7_setDraw 39 = .ok (.getfield 97, 3) := by decide +kernel
theorem dX7_setDraw_42 : decode cX7_setDraw 42 = .ok (.iload_n 1, 1) := by decide +kernel
theorem dX7_setDraw_43 : decode cX7_setDraw 43 = .ok (.iaload, 1) := by decide +kernel
theorem dX7_setDraw_44 : decode cX7_setDraw 44 = .ok (.istore 4, 2) := by decide +kernel
theorem dX7_setDraw_46 : decode cX7_setDraw 46 = .ok (.aload_n 0, 1) := by decide +kernel
theorem dX7_setDraw_47 : decode cX7_setDraw 47 = .ok (.getfield 10, 3) := by decide +kernel
theorem dX7_setDraw_50 : decode cX7_setDraw 50 = .ok (.getfield 72, 3) := by decide +kernel
theorem dX7_setDraw_53 : decode cX7_setDraw 53 = .ok (.getfield 97, 3) := by decide +kernel
theorem dX7_setDraw_56 : decode cX7_setDraw 56 = .ok (.iload_n 1, 1) := by decide +kernel
theorem dX7_setDraw_57 : decode cX7_setDraw 57 = .ok (.iload_n 2, 1) := by decide +kernel
theorem dX7_setDraw_58 : decode cX7_setDraw 58 = .ok (.iastore, 1) := by decide +kernel
theorem dX7_setDraw_59 : decode cX7_setDraw 59 = .ok (.aload_n 0, 1) := by decide +kernel
theorem dX7_setDraw_60 : decode cX7_setDraw 60 = .ok (.getfield 10, 3) := by decide +kernel
theorem dX7_setDraw_63 : decode cX7_setDraw 63 = .ok (.getfield 72, 3) := by decide +kernel
theorem dX7_setDraw_66 : decode cX7_setDraw 66 = .ok (.getfield 100, 3) := by decide +kernel
theorem dX7_setDraw_69 : decode cX7_setDraw 69 = .ok (.iload_n 1, 1) := by decide +kernel
theorem dX7_setDraw_70 : decode cX7_setDraw 70 = .ok (.iload_n 3, 1) := by decide +kernel
theorem dX7_setDraw_71 : decode cX7_setDraw 71 = .ok (.iastore, 1) := by decide +kernel
theorem dX7_setDraw_72 : decode cX7_setDraw 72 = .ok (.aload_n 0, 1) := by decide +kernel
theorem dX7_setDraw_73 : decode cX7_setDraw 73 = .ok (.invokevirtual 61, 3) := by decide +kernel
theorem dX7_setDraw_76 : decode cX7_setDraw 76 = .ok (.iload 4, 2) := by decide +kernel
theorem dX7_setDraw_78 : decode cX7_setDraw 78 = .ok (.ireturn, 1) := by decide +kernel
theorem dX7_setLeak_0 : decode cX7_setLeak 0 = .ok (.aload_n 0, 1) := by decide +kernel
theorem dX7_setLeak_1 : decode cX7_setLeak 1 = .ok (.iload_n 1, 1) := by decide +kernel
theorem dX7_setLeak_2 : decode cX7_setLeak 2 = .ok (.invokevirtual 94, 3) := by decide +kernel
theorem dX7_setLeak_5 : decode cX7_setLeak 5 = .ok (.iload_n 2, 1) := by decide +kernel
theorem dX7_setLeak_6 : decode cX7_setLeak 6 = .ok (.iconst 0, 1) := by decide +kernel
theorem dX7_setLeak_7 : decode cX7_setLeak 7 = .ok (.bipush 100, 2) := by decide +kernel
theorem dX7_setLeak_9 : decode cX7_setLeak 9 = .ok (.invokestatic 68, 3) := by decide +kernel
theorem dX7_setLeak_12 : decode cX7_setLeak 12 = .ok (.aload_n 0, 1) := by decide +kernel
theorem dX7_setLeak_13 : decode cX7_setLeak 13 = .ok (.getfield 19, 3) := by decide +kernel
theorem dX7_setLeak_16 : decode cX7_setLeak 16 = .ok (.aload_n 0, 1) := by decide +kernel
theorem dX7_setLeak_17 : decode cX7_setLeak 17 = .ok (.getfield 10, 3) := by decide +kernel
theorem dX7_setLeak_20 : decode cX7_setLeak 20 = .ok (.invokevirtual 86, 3) := by decide +kernel
theorem dX7_setLeak_23 : decode cX7_setLeak 23 = .ok (.aload_n 0, 1) := by decide +kernel
theorem dX7_setLeak_24 : decode cX7_setLeak 24 = .ok (.getfield 10, 3) := by decide +kernel
theorem dX7_setLeak_27 : decode cX7_setLeak 27 = .ok (.getfield 72, 3) := by decide +kernel
theorem dX7_setLeak_30 : decode cX7_setLeak 30 = .ok (.getfield 103, 3) := by decide +kernel
theorem dX7_setLeak_33 : decode cX7_setLeak 33 = .ok (.iload_n 1, 1) := by decide +kernel
theorem dX7_setLeak_34 : decode cX7_setLeak 34 = .ok (.iaload, 1) := by decide +kernel
theorem dX7_setLeak_35 : decode cX7_setLeak 35 = .ok (.istore_n 3, 1) := by decide +kernel
theorem dX7_setLeak_36 : decode cX7_setLeak 36 = .ok (.aload_n 0, 1) := by decide +kernel
theorem dX7_setLeak_37 : decode cX7_setLeak 37 = .ok (.getfield 10, 3) := by decide +kernel
theorem dX7_setLeak_40 : decode cX7_setLeak 40 = .ok (.getfield 72, 3) := by decide +kernel
theorem dX7_setLeak_43 : decode cX7_setLeak 43 = .ok (.getfield 103, 3) := by decide +kernel
theorem dX7_setLeak_46 : decode cX7_setLeak 46 = .ok (.iload_n 1, 1) := by decide +kernel
theorem dX7_setLeak_47 : decode cX7_setLeak 47 = .ok (.iload_n 2, 1) := by decide +kernel
theorem dX7_setLeak_48 : decode cX7_setLeak 48 = .ok (.iastore, 1) := by decide +kernel
theorem dX7_setLeak_49 : decode cX7_setLeak 49 = .ok (.aload_n 0, 1) := by decide +kernel
theorem dX7_setLeak_50 : decode cX7_setLeak 50 = .ok (.invokevirtual 61, 3) := by decide +kernel
theorem dX7_setLeak_53 : decode cX7_setLeak 53 = .ok (.iload_n 3, 1) := by decide +kernel
theorem dX7_setLeak_54 : decode cX7_setLeak 54 = .ok (.ireturn, 1) := by decide +kernel
theorem dX7_setTemperatures_0 : decode cX7_setTemperatures 0 = .ok (.iload_n 1, 1) := by decide +kernel
theorem dX7_setTemperatures_1 : decode cX7_setTemperatures 1 = .ok (.sipush 400, 3) := by decide +kernel
theorem dX7_setTemperatures_4 : decode cX7_setTemperatures 4 = .ok (.sipush 1200, 3) := by decide +kernel
theorem dX7_setTemperatures_7 : decode cX7_setTemperatures 7 = .ok (.invokestatic 68, 3) := by decide +kernel
theorem dX7_setTemperatures_10 : decode cX7_setTemperatures 10 = .ok (.iload_n 2, 1) := by decide +kernel
theorem dX7_setTemperatures_11 : decode cX7_setTemperatures 11 = .ok (.sipush (-200), 3) := by decide +kernel
theorem dX7_setTemperatures_14 : decode cX7_setTemperatures 14 = .ok (.sipush 300, 3) := by decide +kernel
theorem dX7_setTemperatures_17 : decode cX7_setTemperatures 17 = .ok (.invokestatic 68, 3) := by decide +kernel
theorem dX7_setTemperatures_20 : decode cX7_setTemperatures 20 = .ok (.aload_n 0, 1) := by decide +kernel
theorem dX7_setTemperatures_21 : decode cX7_setTemperatures 21 = .ok (.getfield 19, 3) := by decide +kernel
theorem dX7_setTemperatures_24 : decode cX7_setTemperatures 24 = .ok (.aload_n 0, 1) := by decide +kernel
theorem dX7_setTemperatures_25 : decode cX7_setTemperatures 25 = .ok (.getfield 10, 3) := by decide +kernel
theorem dX7_setTemperatures_28 : decode cX7_setTemperatures 28 = .ok (.invokevirtual 86, 3) := by decide +kernel
theorem dX7_setTemperatures_31 : decode cX7_setTemperatures 31 = .ok (.aload_n 0, 1) := by decide +kernel
theorem dX7_setTemperatures_32 : decode cX7_setTemperatures 32 = .ok (.getfield 10, 3) := by decide +kernel
theorem dX7_setTemperatures_35 : decode cX7_setTemperatures 35 = .ok (.getfield 106, 3) := by decide +kernel
theorem dX7_setTemperatures_38 : decode cX7_setTemperatures 38 = .ok (.istore_n 3, 1) := by decide +kernel
theorem dX7_setTemperatures_39 : decode cX7_setTemperatures 39 = .ok (.aload_n 0, 1) := by decide +kernel
theorem dX7_setTemperatures_40 : decode cX7_setTemperatures 40 = .ok (.getfield 10, 3) := by decide +kernel
theorem dX7_setTemperatures_43 : decode cX7_setTemperatures 43 = .ok (.iload_n 1, 1) := by decide +kernel
theorem dX7_setTemperatures_44 : decode cX7_setTemperatures 44 = .ok (.putfield 106, 3) := by decide +kernel
theorem dX7_setTemperatures_47 : decode cX7_setTemperatures 47 = .ok (.aload_n 0, 1) := by decide +kernel
theorem dX7_setTemperatures_48 : decode cX7_setTemperatures 48 = .ok (.getfield 10, 3) := by decide +kernel
theorem dX7_setTemperatures_51 : decode cX7_setTemperatures 51 = .ok (.iload_n 2, 1) := by decide +kernel
theorem dX7_setTemperatures_52 : decode cX7_setTemperatures 52 = .ok (.putfield 109, 3) := by decide +kernel
theorem dX7_setTemperatures_55 : decode cX7_setTemperatures 55 = .ok (.aload_n 0, 1) := by decide +kernel
theorem dX7_setTemperatures_56 : decode cX7_setTemperatures 56 = .ok (.invokevirtual 61, 3) := by decide +kernel
theorem dX7_setTemperatures_59 : decode cX7_setTemperatures 59 = .ok (.iload_n 3, 1) := by decide +kernel
theorem dX7_setTemperatures_60 : decode cX7_setTemperatures 60 = .ok (.ireturn, 1) := by decide +kernel
theorem dX7_node_0 : decode cX7_node 0 = .ok (.aload_n 0, 1) := by decide +kernel
theorem dX7_node_1 : decode cX7_node 1 = .ok (.iload_n 1, 1) := by decide +kernel
theorem dX7_node_2 : decode cX7_node 2 = .ok (.invokevirtual 64, 3) := by decide +kernel
theorem dX7_node_5 : decode cX7_node 5 = .ok (.iload_n 2, 1) := by decide +kernel
theorem dX7_node_6 : decode cX7_node 6 = .ok (.iconst 0, 1) := by decide +kernel
theorem dX7_node_7 : decode cX7_node 7 = .ok (.bipush 11, 2) := by decide +kernel
theorem dX7_node_9 : decode cX7_node 9 = .ok (.invokestatic 68, 3) := by decide +kernel
theorem dX7_node_12 : decode cX7_node 12 = .ok (.aload_n 0, 1) := by decide +kernel
theorem dX7_node_13 : decode cX7_node 13 = .ok (.iload_n 1, 1) := by decide +kernel
theorem dX7_node_14 : decode cX7_node 14 = .ok (.iload_n 2, 1) := by decide +kernel
theorem dX7_node_15 : decode cX7_node 15 = .ok (.invokevirtual 112, 3) := by decide +kernel
theorem dX7_node_18 : decode cX7_node 18 = .ok (.ireturn, 1) := by decide +kernel
theorem dX7_heat_0 : decode cX7_heat 0 = .ok (.aload_n 0, 1) := by decide +kernel
theorem dX7_heat_1 : decode cX7_heat 1 = .ok (.iload_n 1, 1) := by decide +kernel
theorem dX7_heat_2 : decode cX7_heat 2 = .ok (.invokevirtual 94, 3) := by decide +kernel
theorem dX7_heat_5 : decode cX7_heat 5 = .ok (.iload_n 2, 1) := by decide +kernel
theorem dX7_heat_6 : decode cX7_heat 6 = .ok (.iconst 0, 1) := by decide +kernel
theorem dX7_heat_7 : decode cX7_heat 7 = .ok (.iconst 5, 1) := by decide +kernel
theorem dX7_heat_8 : decode cX7_heat 8 = .ok (.invokestatic 68, 3) := by decide +kernel
theorem dX7_heat_11 : decode cX7_heat 11 = .ok (.aload_n 0, 1) := by decide +kernel
theorem dX7_heat_12 : decode cX7_heat 12 = .ok (.iload_n 1, 1) := by decide +kernel
theorem dX7_heat_13 : decode cX7_heat 13 = .ok (.iload_n 2, 1) := by decide +kernel
theorem dX7_heat_14 : decode cX7_heat 14 = .ok (.invokevirtual 116, 3) := by decide +kernel
theorem dX7_heat_17 : decode cX7_heat 17 = .ok (.ireturn, 1) := by decide +kernel
theorem dX7_value_0 : decode cX7_value 0 = .ok (.iload_n 1, 1) := by decide +kernel
theorem dX7_value_1 : decode cX7_value 1 = .ok (.iconst 0, 1) := by decide +kernel
theorem dX7_value_2 : decode cX7_value 2 = .ok (.bipush 14, 2) := by decide +kernel
theorem dX7_value_4 : decode cX7_value 4 = .ok (.invokestatic 68, 3) := by decide +kernel
theorem dX7_value_7 : decode cX7_value 7 = .ok (.aload_n 0, 1) := by decide +kernel
theorem dX7_value_8 : decode cX7_value 8 = .ok (.iload_n 1, 1) := by decide +kernel
theorem dX7_value_9 : decode cX7_value 9 = .ok (.invokevirtual 119, 3) := by decide +kernel
theorem dX7_value_12 : decode cX7_value 12 = .ok (.ireturn, 1) := by decide +kernel
theorem dX7_sum_0 : decode cX7_sum 0 = .ok (.iload_n 1, 1) := by decide +kernel
theorem dX7_sum_1 : decode cX7_sum 1 = .ok (.iconst 0, 1) := by decide +kernel
theorem dX7_sum_2 : decode cX7_sum 2 = .ok (.iconst 2, 1) := by decide +kernel
theorem dX7_sum_3 : decode cX7_sum 3 = .ok (.invokestatic 68, 3) := by decide +kernel
theorem dX7_sum_6 : decode cX7_sum 6 = .ok (.aload_n 0, 1) := by decide +kernel
theorem dX7_sum_7 : decode cX7_sum 7 = .ok (.iload_n 1, 1) := by decide +kernel
theorem dX7_sum_8 : decode cX7_sum 8 = .ok (.invokevirtual 123, 3) := by decide +kernel
theorem dX7_sum_11 : decode cX7_sum 11 = .ok (.ireturn, 1) := by decide +kernel
theorem dX7_addBoiler_0 : decode cX7_addBoiler 0 = .ok (.iload_n 1, 1) := by decide +kernel
theorem dX7_addBoiler_1 : decode cX7_addBoiler 1 = .ok (.iconst 1, 1) := by decide +kernel
theorem dX7_addBoiler_2 : decode cX7_addBoiler 2 = .ok (.ldc 126, 2) := by decide +kernel
theorem dX7_addBoiler_4 : decode cX7_addBoiler 4 = .ok (.invokestatic 68, 3) := by decide +kernel
theorem dX7_addBoiler_7 : decode cX7_addBoiler 7 = .ok (.iload_n 2, 1) := by decide +kernel
theorem dX7_addBoiler_8 : decode cX7_addBoiler 8 = .ok (.iconst 0, 1) := by decide +kernel
theorem dX7_addBoiler_9 : decode cX7_addBoiler 9 = .ok (.iload_n 1, 1) := by decide +kernel
theorem dX7_addBoiler_10 : decode cX7_addBoiler 10 = .ok (.invokestatic 68, 3) := by decide +kernel
theorem dX7_addBoiler_13 : decode cX7_addBoiler 13 = .ok (.iload_n 3, 1) := by decide +kernel
theorem dX7_addBoiler_14 : decode cX7_addBoiler 14 = .ok (.iconst 0, 1) := by decide +kernel
theorem dX7_addBoiler_15 : decode cX7_addBoiler 15 = .ok (.bipush 99, 2) := by decide +kernel
theorem dX7_addBoiler_17 : decode cX7_addBoiler 17 = .ok (.invokestatic 68, 3) := by decide +kernel
theorem dX7_addBoiler_20 : decode cX7_addBoiler 20 = .ok (.aload_n 0, 1) := by decide +kernel
theorem dX7_addBoiler_21 : decode cX7_addBoiler 21 = .ok (.getfield 10, 3) := by decide +kernel
theorem dX7_addBoiler_24 : decode cX7_addBoiler 24 = .ok (.getfield 127, 3) := by decide +kernel
theorem dX7_addBoiler_27 : decode cX7_addBoiler 27 = .ok (.getfield 131, 3) := by decide +kernel
theorem dX7_addBoiler_30 : decode cX7_addBoiler 30 = .ok (.iconst 4, 1) := by decide +kernel
theorem dX7_addBoiler_31 : decode cX7_addBoiler 31 = .ok (.if_icmp .lt 13, 3) := by decide +kernel
theorem dX7_addBoiler_34 : decode cX7_addBoiler 34 = .ok (.new 79, 3) := by decide +kernel
theorem dX7_addBoiler_37 : decode cX7_addBoiler 37 = .ok (.dup, 1) := by decide +kernel
theorem dX7_addBoiler_38 : decode cX7_addBoiler 38 = .ok (.ldc 134, 2) := by decide +kernel
theorem dX7_addBoiler_40 : decode cX7_addBoiler 40 = .ok (.invokespecial 83, 3) := by decide +kernel
theorem dX7_addBoiler_43 : decode cX7_addBoiler 43 = .ok (.athrow, 1) := by decide +kernel
theorem dX7_addBoiler_44 : decode cX7_addBoiler 44 = .ok (.aload_n 0, 1) := by decide +kernel
theorem dX7_addBoiler_45 : decode cX7_addBoiler 45 = .ok (.getfield 19, 3) := by decide +kernel
theorem dX7_addBoiler_48 : decode cX7_addBoiler 48 = .ok (.aload_n 0, 1) := by decide +kernel
theorem dX7_addBoiler_49 : decode cX7_addBoiler 49 = .ok (.getfield 10, 3) := by decide +kernel
theorem dX7_addBoiler_52 : decode cX7_addBoiler 52 = .ok (.invokevirtual 86, 3) := by decide +kernel
theorem dX7_addBoiler_55 : decode cX7_addBoiler 55 = .ok (.aload_n 0, 1) := by decide +kernel
theorem dX7_addBoiler_56 : decode cX7_addBoiler 56 = .ok (.getfield 10, 3) := by decide +kernel
theorem dX7_addBoiler_59 : decode cX7_addBoiler 59 = .ok (.getfield 127, 3) := by decide +kernel
theorem dX7_addBoiler_62 : decode cX7_addBoiler 62 = .ok (.iload_n 1, 1) := by decide +kernel
theorem dX7_addBoiler_63 : decode cX7_addBoiler 63 = .ok (.iload_n 2, 1) := by decide +kernel
theorem dX7_addBoiler_64 : decode cX7_addBoiler 64 = .ok (.iload_n 3, 1) := by decide +kernel
theorem dX7_addBoiler_65 : decode cX7_addBoiler 65 = .ok (.invokevirtual 136, 3) := by decide +kernel
theorem dX7_addBoiler_68 : decode cX7_addBoiler 68 = .ok (.istore 4, 2) := by decide +kernel
theorem dX7_addBoiler_70 : decode cX7_addBoiler 70 = .ok (.aload_n 0, 1) := by decide +kernel
theorem dX7_addBoiler_71 : decode cX7_addBoiler 71 = .ok (.invokevirtual 61, 3) := by decide +kernel
theorem dX7_addBoiler_74 : decode cX7_addBoiler 74 = .ok (.iload 4, 2) := by decide +kernel
theorem dX7_addBoiler_76 : decode cX7_addBoiler 76 = .ok (.ireturn, 1) := by decide +kernel
theorem dX7_setCost_0 : decode cX7_setCost 0 = .ok (.aload_n 0, 1) := by decide +kernel
theorem dX7_setCost_1 : decode cX7_setCost 1 = .ok (.iload_n 1, 1) := by decide +kernel
