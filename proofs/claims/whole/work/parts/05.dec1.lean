theorem dX7_setCost_2 : decode cX7_setCost 2 = .ok (.invokevirtual 140, 3) := by decide +kernel
theorem dX7_setCost_5 : decode cX7_setCost 5 = .ok (.iload_n 2, 1) := by decide +kernel
theorem dX7_setCost_6 : decode cX7_setCost 6 = .ok (.iconst 0, 1) := by decide +kernel
theorem dX7_setCost_7 : decode cX7_setCost 7 = .ok (.bipush 99, 2) := by decide +kernel
theorem dX7_setCost_9 : decode cX7_setCost 9 = .ok (.invokestatic 68, 3) := by decide +kernel
theorem dX7_setCost_12 : decode cX7_setCost 12 = .ok (.aload_n 0, 1) := by decide +kernel
theorem dX7_setCost_13 : decode cX7_setCost 13 = .ok (.getfield 19, 3) := by decide +kernel
theorem dX7_setCost_16 : decode cX7_setCost 16 = .ok (.aload_n 0, 1) := by decide +kernel
theorem dX7_setCost_17 : decode cX7_setCost 17 = .ok (.getfield 10, 3) := by decide +kernel
theorem dX7_setCost_20 : decode cX7_setCost 20 = .ok (.invokevirtual 86, 3) := by decide +kernel
theorem dX7_setCost_23 : decode cX7_setCost 23 = .ok (.aload_n 0, 1) := by decide +kernel
theorem dX7_setCost_24 : decode cX7_setCost 24 = .ok (.getfield 10, 3) := by decide +kernel
theorem dX7_setCost_27 : decode cX7_setCost 27 = .ok (.getfield 127, 3) := by decide +kernel
theorem dX7_setCost_30 : decode cX7_setCost 30 = .ok (.getfield 143, 3) := by decide +kernel
theorem dX7_setCost_33 : decode cX7_setCost 33 = .ok (.iload_n 1, 1) := by decide +kernel
theorem dX7_setCost_34 : decode cX7_setCost 34 = .ok (.iaload, 1) := by decide +kernel
theorem dX7_setCost_35 : decode cX7_setCost 35 = .ok (.istore_n 3, 1) := by decide +kernel
theorem dX7_setCost_36 : decode cX7_setCost 36 = .ok (.aload_n 0, 1) := by decide +kernel
theorem dX7_setCost_37 : decode cX7_setCost 37 = .ok (.getfield 10, 3) := by decide +kernel
theorem dX7_setCost_40 : decode cX7_setCost 40 = .ok (.getfield 127, 3) := by decide +kernel
theorem dX7_setCost_43 : decode cX7_setCost 43 = .ok (.getfield 143, 3) := by decide +kernel
theorem dX7_setCost_46 : decode cX7_setCost 46 = .ok (.iload_n 1, 1) := by decide +kernel
theorem dX7_setCost_47 : decode cX7_setCost 47 = .ok (.iload_n 2, 1) := by decide +kernel
theorem dX7_setCost_48 : decode cX7_setCost 48 = .ok (.iastore, 1) := by decide +kernel
theorem dX7_setCost_49 : decode cX7_setCost 49 = .ok (.aload_n 0, 1) := by decide +kernel
theorem dX7_setCost_50 : decode cX7_setCost 50 = .ok (.invokevirtual 61, 3) := by decide +kernel
theorem dX7_setCost_53 : decode cX7_setCost 53 = .ok (.iload_n 3, 1) := by decide +kernel
theorem dX7_setCost_54 : decode cX7_setCost 54 = .ok (.ireturn, 1) := by decide +kernel
theorem dX7_boiler_0 : decode cX7_boiler 0 = .ok (.aload_n 0, 1) := by decide +kernel
theorem dX7_boiler_1 : decode cX7_boiler 1 = .ok (.iload_n 1, 1) := by decide +kernel
theorem dX7_boiler_2 : decode cX7_boiler 2 = .ok (.invokevirtual 140, 3) := by decide +kernel
theorem dX7_boiler_5 : decode cX7_boiler 5 = .ok (.iload_n 2, 1) := by decide +kernel
theorem dX7_boiler_6 : decode cX7_boiler 6 = .ok (.iconst 0, 1) := by decide +kernel
theorem dX7_boiler_7 : decode cX7_boiler 7 = .ok (.iconst 4, 1) := by decide +kernel
theorem dX7_boiler_8 : decode cX7_boiler 8 = .ok (.invokestatic 68, 3) := by decide +kernel
theorem dX7_boiler_11 : decode cX7_boiler 11 = .ok (.aload_n 0, 1) := by decide +kernel
theorem dX7_boiler_12 : decode cX7_boiler 12 = .ok (.iload_n 1, 1) := by decide +kernel
theorem dX7_boiler_13 : decode cX7_boiler 13 = .ok (.iload_n 2, 1) := by decide +kernel
theorem dX7_boiler_14 : decode cX7_boiler 14 = .ok (.invokevirtual 146, 3) := by decide +kernel
theorem dX7_boiler_17 : decode cX7_boiler 17 = .ok (.ireturn, 1) := by decide +kernel
theorem dX7_setTariff_0 : decode cX7_setTariff 0 = .ok (.iload_n 1, 1) := by decide +kernel
theorem dX7_setTariff_1 : decode cX7_setTariff 1 = .ok (.iconst 0, 1) := by decide +kernel
theorem dX7_setTariff_2 : decode cX7_setTariff 2 = .ok (.sipush 999, 3) := by decide +kernel
theorem dX7_setTariff_5 : decode cX7_setTariff 5 = .ok (.invokestatic 68, 3) := by decide +kernel
theorem dX7_setTariff_8 : decode cX7_setTariff 8 = .ok (.iload_n 2, 1) := by decide +kernel
theorem dX7_setTariff_9 : decode cX7_setTariff 9 = .ok (.iconst 0, 1) := by decide +kernel
theorem dX7_setTariff_10 : decode cX7_setTariff 10 = .ok (.sipush 1200, 3) := by decide +kernel
theorem dX7_setTariff_13 : decode cX7_setTariff 13 = .ok (.invokestatic 68, 3) := by decide +kernel
theorem dX7_setTariff_16 : decode cX7_setTariff 16 = .ok (.iload_n 3, 1) := by decide +kernel
theorem dX7_setTariff_17 : decode cX7_setTariff 17 = .ok (.iconst 0, 1) := by decide +kernel
theorem dX7_setTariff_18 : decode cX7_setTariff 18 = .ok (.bipush 99, 2) := by decide +kernel
theorem dX7_setTariff_20 : decode cX7_setTariff 20 = .ok (.invokestatic 68, 3) := by decide +kernel
theorem dX7_setTariff_23 : decode cX7_setTariff 23 = .ok (.aload_n 0, 1) := by decide +kernel
theorem dX7_setTariff_24 : decode cX7_setTariff 24 = .ok (.getfield 19, 3) := by decide +kernel
theorem dX7_setTariff_27 : decode cX7_setTariff 27 = .ok (.aload_n 0, 1) := by decide +kernel
theorem dX7_setTariff_28 : decode cX7_setTariff 28 = .ok (.getfield 10, 3) := by decide +kernel
theorem dX7_setTariff_31 : decode cX7_setTariff 31 = .ok (.invokevirtual 86, 3) := by decide +kernel
theorem dX7_setTariff_34 : decode cX7_setTariff 34 = .ok (.aload_n 0, 1) := by decide +kernel
theorem dX7_setTariff_35 : decode cX7_setTariff 35 = .ok (.getfield 10, 3) := by decide +kernel
theorem dX7_setTariff_38 : decode cX7_setTariff 38 = .ok (.getfield 149, 3) := by decide +kernel
theorem dX7_setTariff_41 : decode cX7_setTariff 41 = .ok (.istore 4, 2) := by decide +kernel
theorem dX7_setTariff_43 : decode cX7_setTariff 43 = .ok (.aload_n 0, 1) := by decide +kernel
theorem dX7_setTariff_44 : decode cX7_setTariff 44 = .ok (.getfield 10, 3) := by decide +kernel
theorem dX7_setTariff_47 : decode cX7_setTariff 47 = .ok (.iload_n 1, 1) := by decide +kernel
theorem dX7_setTariff_48 : decode cX7_setTariff 48 = .ok (.putfield 149, 3) := by decide +kernel
theorem dX7_setTariff_51 : decode cX7_setTariff 51 = .ok (.aload_n 0, 1) := by decide +kernel
theorem dX7_setTariff_52 : decode cX7_setTariff 52 = .ok (.getfield 10, 3) := by decide +kernel
theorem dX7_setTariff_55 : decode cX7_setTariff 55 = .ok (.iload_n 2, 1) := by decide +kernel
theorem dX7_setTariff_56 : decode cX7_setTariff 56 = .ok (.putfield 152, 3) := by decide +kernel
theorem dX7_setTariff_59 : decode cX7_setTariff 59 = .ok (.aload_n 0, 1) := by decide +kernel
theorem dX7_setTariff_60 : decode cX7_setTariff 60 = .ok (.getfield 10, 3) := by decide +kernel
theorem dX7_setTariff_63 : decode cX7_setTariff 63 = .ok (.iload_n 3, 1) := by decide +kernel
theorem dX7_setTariff_64 : decode cX7_setTariff 64 = .ok (.putfield 155, 3) := by decide +kernel
theorem dX7_setTariff_67 : decode cX7_setTariff 67 = .ok (.iload 4, 2) := by decide +kernel
theorem dX7_setTariff_69 : decode cX7_setTariff 69 = .ok (.ireturn, 1) := by decide +kernel
theorem dX7_pass_0 : decode cX7_pass 0 = .ok (.iload_n 1, 1) := by decide +kernel
theorem dX7_pass_1 : decode cX7_pass 1 = .ok (.iconst 1, 1) := by decide +kernel
theorem dX7_pass_2 : decode cX7_pass 2 = .ok (.bipush 100, 2) := by decide +kernel
theorem dX7_pass_4 : decode cX7_pass 4 = .ok (.invokestatic 68, 3) := by decide +kernel
theorem dX7_pass_7 : decode cX7_pass 7 = .ok (.aload_n 0, 1) := by decide +kernel
theorem dX7_pass_8 : decode cX7_pass 8 = .ok (.getfield 10, 3) := by decide +kernel
theorem dX7_pass_11 : decode cX7_pass 11 = .ok (.getfield 158, 3) := by decide +kernel
theorem dX7_pass_14 : decode cX7_pass 14 = .ok (.iload_n 1, 1) := by decide +kernel
theorem dX7_pass_15 : decode cX7_pass 15 = .ok (.iadd, 1) := by decide +kernel
theorem dX7_pass_16 : decode cX7_pass 16 = .ok (.sipush 200, 3) := by decide +kernel
theorem dX7_pass_19 : decode cX7_pass 19 = .ok (.if_icmp .le 13, 3) := by decide +kernel
theorem dX7_pass_22 : decode cX7_pass 22 = .ok (.new 79, 3) := by decide +kernel
theorem dX7_pass_25 : decode cX7_pass 25 = .ok (.dup, 1) := by decide +kernel
theorem dX7_pass_26 : decode cX7_pass 26 = .ok (.ldc 161, 2) := by decide +kernel
theorem dX7_pass_28 : decode cX7_pass 28 = .ok (.invokespecial 83, 3) := by decide +kernel
theorem dX7_pass_31 : decode cX7_pass 31 = .ok (.athrow, 1) := by decide +kernel
theorem dX7_pass_32 : decode cX7_pass 32 = .ok (.aload_n 0, 1) := by decide +kernel
theorem dX7_pass_33 : decode cX7_pass 33 = .ok (.getfield 19, 3) := by decide +kernel
theorem dX7_pass_36 : decode cX7_pass 36 = .ok (.aload_n 0, 1) := by decide +kernel
theorem dX7_pass_37 : decode cX7_pass 37 = .ok (.getfield 10, 3) := by decide +kernel
theorem dX7_pass_40 : decode cX7_pass 40 = .ok (.invokevirtual 86, 3) := by decide +kernel
theorem dX7_pass_43 : decode cX7_pass 43 = .ok (.iconst 1, 1) := by decide +kernel
theorem dX7_pass_44 : decode cX7_pass 44 = .ok (.istore_n 2, 1) := by decide +kernel
theorem dX7_pass_45 : decode cX7_pass 45 = .ok (.iload_n 2, 1) := by decide +kernel
theorem dX7_pass_46 : decode cX7_pass 46 = .ok (.aload_n 0, 1) := by decide +kernel
theorem dX7_pass_47 : decode cX7_pass 47 = .ok (.getfield 10, 3) := by decide +kernel
theorem dX7_pass_50 : decode cX7_pass 50 = .ok (.getfield 72, 3) := by decide +kernel
theorem dX7_pass_53 : decode cX7_pass 53 = .ok (.getfield 75, 3) := by decide +kernel
theorem dX7_pass_56 : decode cX7_pass 56 = .ok (.if_icmp .ge 31, 3) := by decide +kernel
theorem dX7_pass_59 : decode cX7_pass 59 = .ok (.aload_n 0, 1) := by decide +kernel
theorem dX7_pass_60 : decode cX7_pass 60 = .ok (.getfield 10, 3) := by decide +kernel
theorem dX7_pass_63 : decode cX7_pass 63 = .ok (.getfield 72, 3) := by decide +kernel
theorem dX7_pass_66 : decode cX7_pass 66 = .ok (.getfield 163, 3) := by decide +kernel
theorem dX7_pass_69 : decode cX7_pass 69 = .ok (.iload_n 2, 1) := by decide +kernel
theorem dX7_pass_70 : decode cX7_pass 70 = .ok (.dup2, 1) := by decide +kernel
theorem dX7_pass_71 : decode cX7_pass 71 = .ok (.iaload, 1) := by decide +kernel
theorem dX7_pass_72 : decode cX7_pass 72 = .ok (.iload_n 1, 1) := by decide +kernel
theorem dX7_pass_73 : decode cX7_pass 73 = .ok (.aload_n 0, 1) := by decide +kernel
theorem dX7_pass_74 : decode cX7_pass 74 = .ok (.iload_n 2, 1) := by decide +kernel
theorem dX7_pass_75 : decode cX7_pass 75 = .ok (.invokevirtual 166, 3) := by decide +kernel
theorem dX7_pass_78 : decode cX7_pass 78 = .ok (.imul, 1) := by decide +kernel
theorem dX7_pass_79 : decode cX7_pass 79 = .ok (.iadd, 1) := by decide +kernel
theorem dX7_pass_80 : decode cX7_pass 80 = .ok (.iastore, 1) := by decide +kernel
theorem dX7_pass_81 : decode cX7_pass 81 = .ok (.iinc 2 1, 3) := by decide +kernel
theorem dX7_pass_84 : decode cX7_pass 84 = .ok (.goto (-39), 3) := by decide +kernel
theorem dX7_pass_87 : decode cX7_pass 87 = .ok (.aload_n 0, 1) := by decide +kernel
theorem dX7_pass_88 : decode cX7_pass 88 = .ok (.getfield 10, 3) := by decide +kernel
theorem dX7_pass_91 : decode cX7_pass 91 = .ok (.dup, 1) := by decide +kernel
theorem dX7_pass_92 : decode cX7_pass 92 = .ok (.getfield 169, 3) := by decide +kernel
theorem dX7_pass_95 : decode cX7_pass 95 = .ok (.iload_n 1, 1) := by decide +kernel
theorem dX7_pass_96 : decode cX7_pass 96 = .ok (.aload_n 0, 1) := by decide +kernel
theorem dX7_pass_97 : decode cX7_pass 97 = .ok (.getfield 33, 3) := by decide +kernel
theorem dX7_pass_100 : decode cX7_pass 100 = .ok (.getfield 172, 3) := by decide +kernel
theorem dX7_pass_103 : decode cX7_pass 103 = .ok (.imul, 1) := by decide +kernel
theorem dX7_pass_104 : decode cX7_pass 104 = .ok (.iadd, 1) := by decide +kernel
theorem dX7_pass_105 : decode cX7_pass 105 = .ok (.putfield 169, 3) := by decide +kernel
theorem dX7_pass_108 : decode cX7_pass 108 = .ok (.aload_n 0, 1) := by decide +kernel
theorem dX7_pass_109 : decode cX7_pass 109 = .ok (.getfield 10, 3) := by decide +kernel
theorem dX7_pass_112 : decode cX7_pass 112 = .ok (.dup, 1) := by decide +kernel
theorem dX7_pass_113 : decode cX7_pass 113 = .ok (.getfield 158, 3) := by decide +kernel
theorem dX7_pass_116 : decode cX7_pass 116 = .ok (.iload_n 1, 1) := by decide +kernel
theorem dX7_pass_117 : decode cX7_pass 117 = .ok (.iadd, 1) := by decide +kernel
theorem dX7_pass_118 : decode cX7_pass 118 = .ok (.putfield 158, 3) := by decide +kernel
theorem dX7_pass_121 : decode cX7_pass 121 = .ok (.aload_n 0, 1) := by decide +kernel
theorem dX7_pass_122 : decode cX7_pass 122 = .ok (.getfield 10, 3) := by decide +kernel
theorem dX7_pass_125 : decode cX7_pass 125 = .ok (.getfield 158, 3) := by decide +kernel
theorem dX7_pass_128 : decode cX7_pass 128 = .ok (.ireturn, 1) := by decide +kernel
theorem dX7_setMeter_0 : decode cX7_setMeter 0 = .ok (.aload_n 0, 1) := by decide +kernel
theorem dX7_setMeter_1 : decode cX7_setMeter 1 = .ok (.iload_n 1, 1) := by decide +kernel
theorem dX7_setMeter_2 : decode cX7_setMeter 2 = .ok (.invokevirtual 94, 3) := by decide +kernel
theorem dX7_setMeter_5 : decode cX7_setMeter 5 = .ok (.aload_n 0, 1) := by decide +kernel
theorem dX7_setMeter_6 : decode cX7_setMeter 6 = .ok (.getfield 19, 3) := by decide +kernel
theorem dX7_setMeter_9 : decode cX7_setMeter 9 = .ok (.aload_n 0, 1) := by decide +kernel
theorem dX7_setMeter_10 : decode cX7_setMeter 10 = .ok (.getfield 10, 3) := by decide +kernel
theorem dX7_setMeter_13 : decode cX7_setMeter 13 = .ok (.invokevirtual 86, 3) := by decide +kernel
theorem dX7_setMeter_16 : decode cX7_setMeter 16 = .ok (.aload_n 0, 1) := by decide +kernel
theorem dX7_setMeter_17 : decode cX7_setMeter 17 = .ok (.getfield 10, 3) := by decide +kernel
theorem dX7_setMeter_20 : decode cX7_setMeter 20 = .ok (.getfield 72, 3) := by decide +kernel
theorem dX7_setMeter_23 : decode cX7_setMeter 23 = .ok (.getfield 173, 3) := by decide +kernel
theorem dX7_setMeter_26 : decode cX7_setMeter 26 = .ok (.iload_n 1, 1) := by decide +kernel
theorem dX7_setMeter_27 : decode cX7_setMeter 27 = .ok (.iload_n 2, 1) := by decide +kernel
theorem dX7_setMeter_28 : decode cX7_setMeter 28 = .ok (.ifCond .eq 7, 3) := by decide +kernel
theorem dX7_setMeter_31 : decode cX7_setMeter 31 = .ok (.iconst 1, 1) := by decide +kernel
theorem dX7_setMeter_32 : decode cX7_setMeter 32 = .ok (.goto 4, 3) := by decide +kernel
theorem dX7_setMeter_35 : decode cX7_setMeter 35 = .ok (.iconst 0, 1) := by decide +kernel
theorem dX7_setMeter_36 : decode cX7_setMeter 36 = .ok (.iastore, 1) := by decide +kernel
theorem dX7_setMeter_37 : decode cX7_setMeter 37 = .ok (.aload_n 0, 1) := by decide +kernel
theorem dX7_setMeter_38 : decode cX7_setMeter 38 = .ok (.invokevirtual 61, 3) := by decide +kernel
theorem dX7_setMeter_41 : decode cX7_setMeter 41 = .ok (.aload_n 0, 1) := by decide +kernel
theorem dX7_setMeter_42 : decode cX7_setMeter 42 = .ok (.getfield 10, 3) := by decide +kernel
theorem dX7_setMeter_45 : decode cX7_setMeter 45 = .ok (.getfield 72, 3) := by decide +kernel
theorem dX7_setMeter_48 : decode cX7_setMeter 48 = .ok (.invokevirtual 176, 3) := by decide +kernel
theorem dX7_setMeter_51 : decode cX7_setMeter 51 = .ok (.ireturn, 1) := by decide +kernel
theorem dX7_balance_0 : decode cX7_balance 0 = .ok (.aload_n 0, 1) := by decide +kernel
theorem dX7_balance_1 : decode cX7_balance 1 = .ok (.iload_n 1, 1) := by decide +kernel
theorem dX7_balance_2 : decode cX7_balance 2 = .ok (.invokevirtual 64, 3) := by decide +kernel
theorem dX7_balance_5 : decode cX7_balance 5 = .ok (.aload_n 0, 1) := by decide +kernel
theorem dX7_balance_6 : decode cX7_balance 6 = .ok (.getfield 40, 3) := by decide +kernel
theorem dX7_balance_9 : decode cX7_balance 9 = .ok (.iload_n 1, 1) := by decide +kernel
theorem dX7_balance_10 : decode cX7_balance 10 = .ok (.invokevirtual 180, 3) := by decide +kernel
theorem dX7_balance_13 : decode cX7_balance 13 = .ok (.ireturn, 1) := by decide +kernel
theorem dX7_region_0 : decode cX7_region 0 = .ok (.aload_n 0, 1) := by decide +kernel
theorem dX7_region_1 : decode cX7_region 1 = .ok (.iload_n 1, 1) := by decide +kernel
theorem dX7_region_2 : decode cX7_region 2 = .ok (.invokevirtual 64, 3) := by decide +kernel
theorem dX7_region_5 : decode cX7_region 5 = .ok (.aload_n 0, 1) := by decide +kernel
theorem dX7_region_6 : decode cX7_region 6 = .ok (.getfield 40, 3) := by decide +kernel
theorem dX7_region_9 : decode cX7_region 9 = .ok (.iload_n 1, 1) := by decide +kernel
theorem dX7_region_10 : decode cX7_region 10 = .ok (.invokevirtual 183, 3) := by decide +kernel
theorem dX7_region_13 : decode cX7_region 13 = .ok (.ireturn, 1) := by decide +kernel
theorem dX7_meterOf_0 : decode cX7_meterOf 0 = .ok (.aload_n 0, 1) := by decide +kernel
theorem dX7_meterOf_1 : decode cX7_meterOf 1 = .ok (.iload_n 1, 1) := by decide +kernel
theorem dX7_meterOf_2 : decode cX7_meterOf 2 = .ok (.invokevirtual 94, 3) := by decide +kernel
theorem dX7_meterOf_5 : decode cX7_meterOf 5 = .ok (.aload_n 0, 1) := by decide +kernel
theorem dX7_meterOf_6 : decode cX7_meterOf 6 = .ok (.getfield 40, 3) := by decide +kernel
theorem dX7_meterOf_9 : decode cX7_meterOf 9 = .ok (.getfield 186, 3) := by decide +kernel
theorem dX7_meterOf_12 : decode cX7_meterOf 12 = .ok (.iload_n 1, 1) := by decide +kernel
theorem dX7_meterOf_13 : decode cX7_meterOf 13 = .ok (.iaload, 1) := by decide +kernel
theorem dX7_meterOf_14 : decode cX7_meterOf 14 = .ok (.ireturn, 1) := by decide +kernel
theorem dX7_nextMeter_0 : decode cX7_nextMeter 0 = .ok (.aload_n 0, 1) := by decide +kernel
theorem dX7_nextMeter_1 : decode cX7_nextMeter 1 = .ok (.iload_n 1, 1) := by decide +kernel
theorem dX7_nextMeter_2 : decode cX7_nextMeter 2 = .ok (.invokevirtual 64, 3) := by decide +kernel
theorem dX7_nextMeter_5 : decode cX7_nextMeter 5 = .ok (.aload_n 0, 1) := by decide +kernel
theorem dX7_nextMeter_6 : decode cX7_nextMeter 6 = .ok (.getfield 40, 3) := by decide +kernel
theorem dX7_nextMeter_9 : decode cX7_nextMeter 9 = .ok (.iload_n 1, 1) := by decide +kernel
theorem dX7_nextMeter_10 : decode cX7_nextMeter 10 = .ok (.invokevirtual 189, 3) := by decide +kernel
theorem dX7_nextMeter_13 : decode cX7_nextMeter 13 = .ok (.ireturn, 1) := by decide +kernel
theorem dX7_suspects_0 : decode cX7_suspects 0 = .ok (.aload_n 0, 1) := by decide +kernel
theorem dX7_suspects_1 : decode cX7_suspects 1 = .ok (.getfield 40, 3) := by decide +kernel
theorem dX7_suspects_4 : decode cX7_suspects 4 = .ok (.invokevirtual 192, 3) := by decide +kernel
theorem dX7_suspects_7 : decode cX7_suspects 7 = .ok (.ireturn, 1) := by decide +kernel
theorem dX7_metersToFind_0 : decode cX7_metersToFind 0 = .ok (.aload_n 0, 1) := by decide +kernel
theorem dX7_metersToFind_1 : decode cX7_metersToFind 1 = .ok (.getfield 47, 3) := by decide +kernel
theorem dX7_metersToFind_4 : decode cX7_metersToFind 4 = .ok (.aload_n 0, 1) := by decide +kernel
theorem dX7_metersToFind_5 : decode cX7_metersToFind 5 = .ok (.getfield 10, 3) := by decide +kernel
theorem dX7_metersToFind_8 : decode cX7_metersToFind 8 = .ok (.getfield 72, 3) := by decide +kernel
theorem dX7_metersToFind_11 : decode cX7_metersToFind 11 = .ok (.invokevirtual 195, 3) := by decide +kernel
theorem dX7_metersToFind_14 : decode cX7_metersToFind 14 = .ok (.aload_n 0, 1) := by decide +kernel
theorem dX7_metersToFind_15 : decode cX7_metersToFind 15 = .ok (.getfield 47, 3) := by decide +kernel
theorem dX7_metersToFind_18 : decode cX7_metersToFind 18 = .ok (.aload_n 0, 1) := by decide +kernel
theorem dX7_metersToFind_19 : decode cX7_metersToFind 19 = .ok (.getfield 10, 3) := by decide +kernel
theorem dX7_metersToFind_22 : decode cX7_metersToFind 22 = .ok (.getfield 72, 3) := by decide +kernel
theorem dX7_metersToFind_25 : decode cX7_metersToFind 25 = .ok (.invokevirtual 199, 3) := by decide +kernel
theorem dX7_metersToFind_28 : decode cX7_metersToFind 28 = .ok (.iconst 0, 1) := by decide +kernel
theorem dX7_metersToFind_29 : decode cX7_metersToFind 29 = .ok (.istore_n 1, 1) := by decide +kernel
theorem dX7_metersToFind_30 : decode cX7_metersToFind 30 = .ok (.iconst 0, 1) := by decide +kernel
theorem dX7_metersToFind_31 : decode cX7_metersToFind 31 = .ok (.istore_n 2, 1) := by decide +kernel
theorem dX7_metersToFind_32 : decode cX7_metersToFind 32 = .ok (.iload_n 2, 1) := by decide +kernel
theorem dX7_metersToFind_33 : decode cX7_metersToFind 33 = .ok (.bipush 16, 2) := by decide +kernel
theorem dX7_metersToFind_35 : decode cX7_metersToFind 35 = .ok (.if_icmp .ge 50, 3) := by decide +kernel
theorem dX7_metersToFind_38 : decode cX7_metersToFind 38 = .ok (.aload_n 0, 1) := by decide +kernel
theorem dX7_metersToFind_39 : decode cX7_metersToFind 39 = .ok (.getfield 47, 3) := by decide +kernel
theorem dX7_metersToFind_42 : decode cX7_metersToFind 42 = .ok (.invokevirtual 201, 3) := by decide +kernel
theorem dX7_metersToFind_45 : decode cX7_metersToFind 45 = .ok (.istore_n 3, 1) := by decide +kernel
theorem dX7_metersToFind_46 : decode cX7_metersToFind 46 = .ok (.iload_n 3, 1) := by decide +kernel
theorem dX7_metersToFind_47 : decode cX7_metersToFind 47 = .ok (.iconst (-1), 1) := by decide +kernel
theorem dX7_metersToFind_48 : decode cX7_metersToFind 48 = .ok (.if_icmp .ne 6, 3) := by decide +kernel
theorem dX7_metersToFind_51 : decode cX7_metersToFind 51 = .ok (.goto 34, 3) := by decide +kernel
theorem dX7_metersToFind_54 : decode cX7_metersToFind 54 = .ok (.aload_n 0, 1) := by decide +kernel
theorem dX7_metersToFind_55 : decode cX7_metersToFind 55 = .ok (.getfield 47, 3) := by decide +kernel
theorem dX7_metersToFind_58 : decode cX7_metersToFind 58 = .ok (.iload_n 3, 1) := by decide +kernel
theorem dX7_metersToFind_59 : decode cX7_metersToFind 59 = .ok (.invokevirtual 204, 3) := by decide +kernel
theorem dX7_metersToFind_62 : decode cX7_metersToFind 62 = .ok (.aload_n 0, 1) := by decide +kernel
theorem dX7_metersToFind_63 : decode cX7_metersToFind 63 = .ok (.getfield 47, 3) := by decide +kernel
theorem dX7_metersToFind_66 : decode cX7_metersToFind 66 = .ok (.aload_n 0, 1) := by decide +kernel
theorem dX7_metersToFind_67 : decode cX7_metersToFind 67 = .ok (.getfield 10, 3) := by decide +kernel
theorem dX7_metersToFind_70 : decode cX7_metersToFind 70 = .ok (.getfield 72, 3) := by decide +kernel
theorem dX7_metersToFind_73 : decode cX7_metersToFind 73 = .ok (.invokevirtual 199, 3) := by decide +kernel
theorem dX7_metersToFind_76 : decode cX7_metersToFind 76 = .ok (.iinc 1 1, 3) := by decide +kernel
theorem dX7_metersToFind_79 : decode cX7_metersToFind 79 = .ok (.iinc 2 1, 3) := by decide +kernel
theorem dX7_metersToFind_82 : decode cX7_metersToFind 82 = .ok (.goto (-50), 3) := by decide +kernel
theorem dX7_metersToFind_85 : decode cX7_metersToFind 85 = .ok (.iload_n 1, 1) := by decide +kernel
theorem dX7_metersToFind_86 : decode cX7_metersToFind 86 = .ok (.ireturn, 1) := by decide +kernel
theorem dX7_supplyFor_0 : decode cX7_supplyFor 0 = .ok (.aload_n 0, 1) := by decide +kernel
theorem dX7_supplyFor_1 : decode cX7_supplyFor 1 = .ok (.iload_n 1, 1) := by decide +kernel
theorem dX7_supplyFor_2 : decode cX7_supplyFor 2 = .ok (.invokevirtual 94, 3) := by decide +kernel
theorem dX7_supplyFor_5 : decode cX7_supplyFor 5 = .ok (.iload_n 2, 1) := by decide +kernel
theorem dX7_supplyFor_6 : decode cX7_supplyFor 6 = .ok (.sipush (-200), 3) := by decide +kernel
theorem dX7_supplyFor_9 : decode cX7_supplyFor 9 = .ok (.sipush 1200, 3) := by decide +kernel
theorem dX7_supplyFor_12 : decode cX7_supplyFor 12 = .ok (.invokestatic 68, 3) := by decide +kernel
theorem dX7_supplyFor_15 : decode cX7_supplyFor 15 = .ok (.iconst 0, 1) := by decide +kernel
theorem dX7_supplyFor_16 : decode cX7_supplyFor 16 = .ok (.istore_n 3, 1) := by decide +kernel
theorem dX7_supplyFor_17 : decode cX7_supplyFor 17 = .ok (.iload_n 3, 1) := by decide +kernel
theorem dX7_supplyFor_18 : decode cX7_supplyFor 18 = .ok (.aload_n 0, 1) := by decide +kernel
theorem dX7_supplyFor_19 : decode cX7_supplyFor 19 = .ok (.getfield 10, 3) := by decide +kernel
theorem dX7_supplyFor_22 : decode cX7_supplyFor 22 = .ok (.getfield 72, 3) := by decide +kernel
theorem dX7_supplyFor_25 : decode cX7_supplyFor 25 = .ok (.getfield 75, 3) := by decide +kernel
theorem dX7_supplyFor_28 : decode cX7_supplyFor 28 = .ok (.if_icmp .ge 18, 3) := by decide +kernel
theorem dX7_supplyFor_31 : decode cX7_supplyFor 31 = .ok (.aload_n 0, 1) := by decide +kernel
theorem dX7_supplyFor_32 : decode cX7_supplyFor 32 = .ok (.getfield 57, 3) := by decide +kernel
theorem dX7_supplyFor_35 : decode cX7_supplyFor 35 = .ok (.iload_n 3, 1) := by decide +kernel
theorem dX7_supplyFor_36 : decode cX7_supplyFor 36 = .ok (.sipush (-1000), 3) := by decide +kernel
theorem dX7_supplyFor_39 : decode cX7_supplyFor 39 = .ok (.iastore, 1) := by decide +kernel
theorem dX7_supplyFor_40 : decode cX7_supplyFor 40 = .ok (.iinc 3 1, 3) := by decide +kernel
theorem dX7_supplyFor_43 : decode cX7_supplyFor 43 = .ok (.goto (-26), 3) := by decide +kernel
theorem dX7_supplyFor_46 : decode cX7_supplyFor 46 = .ok (.aload_n 0, 1) := by decide +kernel
theorem dX7_supplyFor_47 : decode cX7_supplyFor 47 = .ok (.getfield 57, 3) := by decide +kernel
theorem dX7_supplyFor_50 : decode cX7_supplyFor 50 = .ok (.iload_n 1, 1) := by decide +kernel
theorem dX7_supplyFor_51 : decode cX7_supplyFor 51 = .ok (.iload_n 2, 1) := by decide +kernel
theorem dX7_supplyFor_52 : decode cX7_supplyFor 52 = .ok (.iastore, 1) := by decide +kernel
theorem dX7_supplyFor_53 : decode cX7_supplyFor 53 = .ok (.aload_n 0, 1) := by decide +kernel
theorem dX7_supplyFor_54 : decode cX7_supplyFor 54 = .ok (.invokevirtual 207, 3) := by decide +kernel
theorem dX7_supplyFor_57 : decode cX7_supplyFor 57 = .ok (.ireturn, 1) := by decide +kernel
theorem dX7_cheapestSupply_0 : decode cX7_cheapestSupply 0 = .ok (.aload_n 0, 1) := by decide +kernel
theorem dX7_cheapestSupply_1 : decode cX7_cheapestSupply 1 = .ok (.getfield 10, 3) := by decide +kernel
theorem dX7_cheapestSupply_4 : decode cX7_cheapestSupply 4 = .ok (.getfield 72, 3) := by decide +kernel
theorem dX7_cheapestSupply_7 : decode cX7_cheapestSupply 7 = .ok (.astore_n 1, 1) := by decide +kernel
theorem dX7_cheapestSupply_8 : decode cX7_cheapestSupply 8 = .ok (.iconst 0, 1) := by decide +kernel
theorem dX7_cheapestSupply_9 : decode cX7_cheapestSupply 9 = .ok (.istore_n 2, 1) := by decide +kernel
theorem dX7_cheapestSupply_10 : decode cX7_cheapestSupply 10 = .ok (.iload_n 2, 1) := by decide +kernel
theorem dX7_cheapestSupply_11 : decode cX7_cheapestSupply 11 = .ok (.aload_n 1, 1) := by decide +kernel
theorem dX7_cheapestSupply_12 : decode cX7_cheapestSupply 12 = .ok (.getfield 75, 3) := by decide +kernel
theorem dX7_cheapestSupply_15 : decode cX7_cheapestSupply 15 = .ok (.if_icmp .ge 39, 3) := by decide +kernel
theorem dX7_cheapestSupply_18 : decode cX7_cheapestSupply 18 = .ok (.aload_n 0, 1) := by decide +kernel
theorem dX7_cheapestSupply_19 : decode cX7_cheapestSupply 19 = .ok (.getfield 57, 3) := by decide +kernel
theorem dX7_cheapestSupply_22 : decode cX7_cheapestSupply 22 = .ok (.iload_n 2, 1) := by decide +kernel
theorem dX7_cheapestSupply_23 : decode cX7_cheapestSupply 23 = .ok (.aload_n 1, 1) := by decide +kernel
theorem dX7_cheapestSupply_24 : decode cX7_cheapestSupply 24 = .ok (.getfield 97, 3) := by decide +kernel
theorem dX7_cheapestSupply_27 : decode cX7_cheapestSupply 27 = .ok (.iload_n 2, 1) := by decide +kernel
theorem dX7_cheapestSupply_28 : decode cX7_cheapestSupply 28 = .ok (.iaload, 1) := by decide +kernel
theorem dX7_cheapestSupply_29 : decode cX7_cheapestSupply 29 = .ok (.ifCond .le 15, 3) := by decide +kernel
theorem dX7_cheapestSupply_32 : decode cX7_cheapestSupply 32 = .ok (.aload_n 1, 1) := by decide +kernel
theorem dX7_cheapestSupply_33 : decode cX7_cheapestSupply 33 = .ok (.getfield 100, 3) := by decide +kernel
theorem dX7_cheapestSupply_36 : decode cX7_cheapestSupply 36 = .ok (.iload_n 2, 1) := by decide +kernel
theorem dX7_cheapestSupply_37 : decode cX7_cheapestSupply 37 = .ok (.iaload, 1) := by decide +kernel
theorem dX7_cheapestSupply_38 : decode cX7_cheapestSupply 38 = .ok (.bipush 100, 2) := by decide +kernel
theorem dX7_cheapestSupply_40 : decode cX7_cheapestSupply 40 = .ok (.iadd, 1) := by decide +kernel
theorem dX7_cheapestSupply_41 : decode cX7_cheapestSupply 41 = .ok (.goto 6, 3) := by decide +kernel
theorem dX7_cheapestSupply_44 : decode cX7_cheapestSupply 44 = .ok (.sipush (-1000), 3) := by decide +kernel
theorem dX7_cheapestSupply_47 : decode cX7_cheapestSupply 47 = .ok (.iastore, 1) := by decide +kernel
theorem dX7_cheapestSupply_48 : decode cX7_cheapestSupply 48 = .ok (.iinc 2 1, 3) := by decide +kernel
theorem dX7_cheapestSupply_51 : decode cX7_cheapestSupply 51 = .ok (.goto (-41), 3) := by decide +kernel
theorem dX7_cheapestSupply_54 : decode cX7_cheapestSupply 54 = .ok (.aload_n 0, 1) := by decide +kernel
theorem dX7_cheapestSupply_55 : decode cX7_cheapestSupply 55 = .ok (.invokevirtual 207, 3) := by decide +kernel
theorem dX7_cheapestSupply_58 : decode cX7_cheapestSupply 58 = .ok (.istore_n 2, 1) := by decide +kernel
theorem dX7_cheapestSupply_59 : decode cX7_cheapestSupply 59 = .ok (.iload_n 2, 1) := by decide +kernel
theorem dX7_cheapestSupply_60 : decode cX7_cheapestSupply 60 = .ok (.iconst (-1), 1) := by decide +kernel
theorem dX7_cheapestSupply_61 : decode cX7_cheapestSupply 61 = .ok (.if_icmp .ne 5, 3) := by decide +kernel
theorem dX7_cheapestSupply_64 : decode cX7_cheapestSupply 64 = .ok (.iconst (-1), 1) := by decide +kernel
theorem dX7_cheapestSupply_65 : decode cX7_cheapestSupply 65 = .ok (.ireturn, 1) := by decide +kernel
theorem dX7_cheapestSupply_66 : decode cX7_cheapestSupply 66 = .ok (.aload_n 0, 1) := by decide +kernel
theorem dX7_cheapestSupply_67 : decode cX7_cheapestSupply 67 = .ok (.getfield 44, 3) := by decide +kernel
theorem dX7_cheapestSupply_70 : decode cX7_cheapestSupply 70 = .ok (.aload_n 0, 1) := by decide +kernel
theorem dX7_cheapestSupply_71 : decode cX7_cheapestSupply 71 = .ok (.getfield 10, 3) := by decide +kernel
theorem dX7_cheapestSupply_74 : decode cX7_cheapestSupply 74 = .ok (.iload_n 2, 1) := by decide +kernel
theorem dX7_cheapestSupply_75 : decode cX7_cheapestSupply 75 = .ok (.invokevirtual 210, 3) := by decide +kernel
theorem dX7_cheapestSupply_78 : decode cX7_cheapestSupply 78 = .ok (.aload_n 0, 1) := by decide +kernel
theorem dX7_cheapestSupply_79 : decode cX7_cheapestSupply 79 = .ok (.getfield 44, 3) := by decide +kernel
theorem dX7_cheapestSupply_82 : decode cX7_cheapestSupply 82 = .ok (.getfield 213, 3) := by decide +kernel
theorem dX7_cheapestSupply_85 : decode cX7_cheapestSupply 85 = .ok (.ifCond .ne 7, 3) := by decide +kernel
theorem dX7_cheapestSupply_88 : decode cX7_cheapestSupply 88 = .ok (.iload_n 2, 1) := by decide +kernel
theorem dX7_cheapestSupply_89 : decode cX7_cheapestSupply 89 = .ok (.goto 4, 3) := by decide +kernel
theorem dX7_cheapestSupply_92 : decode cX7_cheapestSupply 92 = .ok (.iconst (-1), 1) := by decide +kernel
theorem dX7_cheapestSupply_93 : decode cX7_cheapestSupply 93 = .ok (.ireturn, 1) := by decide +kernel
theorem dX7_saves_0 : decode cX7_saves 0 = .ok (.aload_n 0, 1) := by decide +kernel
theorem dX7_saves_1 : decode cX7_saves 1 = .ok (.iload_n 1, 1) := by decide +kernel
theorem dX7_saves_2 : decode cX7_saves 2 = .ok (.invokevirtual 94, 3) := by decide +kernel
theorem dX7_saves_5 : decode cX7_saves 5 = .ok (.aload_n 0, 1) := by decide +kernel
theorem dX7_saves_6 : decode cX7_saves 6 = .ok (.getfield 10, 3) := by decide +kernel
theorem dX7_saves_9 : decode cX7_saves 9 = .ok (.getfield 72, 3) := by decide +kernel
theorem dX7_saves_12 : decode cX7_saves 12 = .ok (.getfield 103, 3) := by decide +kernel
theorem dX7_saves_15 : decode cX7_saves 15 = .ok (.iload_n 1, 1) := by decide +kernel
theorem dX7_saves_16 : decode cX7_saves 16 = .ok (.iaload, 1) := by decide +kernel
theorem dX7_saves_17 : decode cX7_saves 17 = .ok (.istore_n 2, 1) := by decide +kernel
theorem dX7_saves_18 : decode cX7_saves 18 = .ok (.aload_n 0, 1) := by decide +kernel
theorem dX7_saves_19 : decode cX7_saves 19 = .ok (.getfield 10, 3) := by decide +kernel
theorem dX7_saves_22 : decode cX7_saves 22 = .ok (.getfield 72, 3) := by decide +kernel
theorem dX7_saves_25 : decode cX7_saves 25 = .ok (.getfield 103, 3) := by decide +kernel
theorem dX7_saves_28 : decode cX7_saves 28 = .ok (.iload_n 1, 1) := by decide +kernel
theorem dX7_saves_29 : decode cX7_saves 29 = .ok (.iconst 0, 1) := by decide +kernel
theorem dX7_saves_30 : decode cX7_saves 30 = .ok (.iastore, 1) := by decide +kernel
theorem dX7_saves_31 : decode cX7_saves 31 = .ok (.aload_n 0, 1) := by decide +kernel
theorem dX7_saves_32 : decode cX7_saves 32 = .ok (.getfield 44, 3) := by decide +kernel
theorem dX7_saves_35 : decode cX7_saves 35 = .ok (.aload_n 0, 1) := by decide +kernel
theorem dX7_saves_36 : decode cX7_saves 36 = .ok (.getfield 10, 3) := by decide +kernel
theorem dX7_saves_39 : decode cX7_saves 39 = .ok (.aload_n 0, 1) := by decide +kernel
theorem dX7_saves_40 : decode cX7_saves 40 = .ok (.getfield 10, 3) := by decide +kernel
theorem dX7_saves_43 : decode cX7_saves 43 = .ok (.getfield 106, 3) := by decide +kernel
theorem dX7_saves_46 : decode cX7_saves 46 = .ok (.invokevirtual 210, 3) := by decide +kernel
theorem dX7_saves_49 : decode cX7_saves 49 = .ok (.aload_n 0, 1) := by decide +kernel
theorem dX7_saves_50 : decode cX7_saves 50 = .ok (.getfield 10, 3) := by decide +kernel
theorem dX7_saves_53 : decode cX7_saves 53 = .ok (.getfield 72, 3) := by decide +kernel
theorem dX7_saves_56 : decode cX7_saves 56 = .ok (.getfield 103, 3) := by decide +kernel
theorem dX7_saves_59 : decode cX7_saves 59 = .ok (.iload_n 1, 1) := by decide +kernel
theorem dX7_saves_60 : decode cX7_saves 60 = .ok (.iload_n 2, 1) := by decide +kernel
theorem dX7_saves_61 : decode cX7_saves 61 = .ok (.iastore, 1) := by decide +kernel
theorem dX7_saves_62 : decode cX7_saves 62 = .ok (.aload_n 0, 1) := by decide +kernel
theorem dX7_saves_63 : decode cX7_saves 63 = .ok (.getfield 33, 3) := by decide +kernel
theorem dX7_saves_66 : decode cX7_saves 66 = .ok (.getfield 172, 3) := by decide +kernel
theorem dX7_saves_69 : decode cX7_saves 69 = .ok (.aload_n 0, 1) := by decide +kernel
theorem dX7_saves_70 : decode cX7_saves 70 = .ok (.getfield 44, 3) := by decide +kernel
theorem dX7_saves_73 : decode cX7_saves 73 = .ok (.getfield 172, 3) := by decide +kernel
theorem dX7_saves_76 : decode cX7_saves 76 = .ok (.isub, 1) := by decide +kernel
theorem dX7_saves_77 : decode cX7_saves 77 = .ok (.ireturn, 1) := by decide +kernel
theorem dX7_efficiency_0 : decode cX7_efficiency 0 = .ok (.aload_n 0, 1) := by decide +kernel
theorem dX7_efficiency_1 : decode cX7_efficiency 1 = .ok (.getfield 33, 3) := by decide +kernel
theorem dX7_efficiency_4 : decode cX7_efficiency 4 = .ok (.getfield 216, 3) := by decide +kernel
theorem dX7_efficiency_7 : decode cX7_efficiency 7 = .ok (.iconst 0, 1) := by decide +kernel
theorem dX7_efficiency_8 : decode cX7_efficiency 8 = .ok (.iaload, 1) := by decide +kernel
theorem dX7_efficiency_9 : decode cX7_efficiency 9 = .ok (.aload_n 0, 1) := by decide +kernel
theorem dX7_efficiency_10 : decode cX7_efficiency 10 = .ok (.getfield 10, 3) := by decide +kernel
theorem dX7_efficiency_13 : decode cX7_efficiency 13 = .ok (.getfield 106, 3) := by decide +kernel
theorem dX7_efficiency_16 : decode cX7_efficiency 16 = .ok (.imul, 1) := by decide +kernel
theorem dX7_efficiency_17 : decode cX7_efficiency 17 = .ok (.istore_n 1, 1) := by decide +kernel
theorem dX7_efficiency_18 : decode cX7_efficiency 18 = .ok (.iload_n 1, 1) := by decide +kernel
theorem dX7_efficiency_19 : decode cX7_efficiency 19 = .ok (.ifCond .ne 5, 3) := by decide +kernel
theorem dX7_efficiency_22 : decode cX7_efficiency 22 = .ok (.dconst 0, 1) := by decide +kernel
theorem dX7_efficiency_23 : decode cX7_efficiency 23 = .ok (.dreturn, 1) := by decide +kernel
theorem dX7_efficiency_24 : decode cX7_efficiency 24 = .ok (.aload_n 0, 1) := by decide +kernel
theorem dX7_efficiency_25 : decode cX7_efficiency 25 = .ok (.iconst 0, 1) := by decide +kernel
theorem dX7_efficiency_26 : decode cX7_efficiency 26 = .ok (.invokevirtual 123, 3) := by decide +kernel
theorem dX7_efficiency_29 : decode cX7_efficiency 29 = .ok (.i2d, 1) := by decide +kernel
theorem dX7_efficiency_30 : decode cX7_efficiency 30 = .ok (.iload_n 1, 1) := by decide +kernel
theorem dX7_efficiency_31 : decode cX7_efficiency 31 = .ok (.i2d, 1) := by decide +kernel
theorem dX7_efficiency_32 : decode cX7_efficiency 32 = .ok (.ddiv, 1) := by decide +kernel
theorem dX7_efficiency_33 : decode cX7_efficiency 33 = .ok (.dreturn, 1) := by decide +kernel
theorem dX7_append_0 : decode cX7_append 0 = .ok (.iload_n 1, 1) := by decide +kernel
theorem dX7_append_1 : decode cX7_append 1 = .ok (.iconst 0, 1) := by decide +kernel
theorem dX7_append_2 : decode cX7_append 2 = .ok (.bipush 127, 2) := by decide +kernel
theorem dX7_append_4 : decode cX7_append 4 = .ok (.invokestatic 68, 3) := by decide +kernel
theorem dX7_append_7 : decode cX7_append 7 = .ok (.aload_n 0, 1) := by decide +kernel
theorem dX7_append_8 : decode cX7_append 8 = .ok (.getfield 26, 3) := by decide +kernel
theorem dX7_append_11 : decode cX7_append 11 = .ok (.getfield 219, 3) := by decide +kernel
theorem dX7_append_14 : decode cX7_append 14 = .ok (.sipush 180, 3) := by decide +kernel
theorem dX7_append_17 : decode cX7_append 17 = .ok (.if_icmp .lt 13, 3) := by decide +kernel
theorem dX7_append_20 : decode cX7_append 20 = .ok (.new 79, 3) := by decide +kernel
theorem dX7_append_23 : decode cX7_append 23 = .ok (.dup, 1) := by decide +kernel
theorem dX7_append_24 : decode cX7_append 24 = .ok (.ldc 222, 2) := by decide +kernel
theorem dX7_append_26 : decode cX7_append 26 = .ok (.invokespecial 83, 3) := by decide +kernel
theorem dX7_append_29 : decode cX7_append 29 = .ok (.athrow, 1) := by decide +kernel
theorem dX7_append_30 : decode cX7_append 30 = .ok (.aload_n 0, 1) := by decide +kernel
theorem dX7_append_31 : decode cX7_append 31 = .ok (.getfield 26, 3) := by decide +kernel
theorem dX7_append_34 : decode cX7_append 34 = .ok (.iload_n 1, 1) := by decide +kernel
theorem dX7_append_35 : decode cX7_append 35 = .ok (.invokevirtual 224, 3) := by decide +kernel
theorem dX7_append_38 : decode cX7_append 38 = .ok (.aload_n 0, 1) := by decide +kernel
theorem dX7_append_39 : decode cX7_append 39 = .ok (.getfield 26, 3) := by decide +kernel
theorem dX7_append_42 : decode cX7_append 42 = .ok (.getfield 219, 3) := by decide +kernel
theorem dX7_append_45 : decode cX7_append 45 = .ok (.ireturn, 1) := by decide +kernel
theorem dX7_clearText_0 : decode cX7_clearText 0 = .ok (.aload_n 0, 1) := by decide +kernel
theorem dX7_clearText_1 : decode cX7_clearText 1 = .ok (.getfield 26, 3) := by decide +kernel
theorem dX7_clearText_4 : decode cX7_clearText 4 = .ok (.getfield 219, 3) := by decide +kernel
theorem dX7_clearText_7 : decode cX7_clearText 7 = .ok (.istore_n 1, 1) := by decide +kernel
theorem dX7_clearText_8 : decode cX7_clearText 8 = .ok (.aload_n 0, 1) := by decide +kernel
theorem dX7_clearText_9 : decode cX7_clearText 9 = .ok (.getfield 26, 3) := by decide +kernel
theorem dX7_clearText_12 : decode cX7_clearText 12 = .ok (.iconst 0, 1) := by decide +kernel
theorem dX7_clearText_13 : decode cX7_clearText 13 = .ok (.putfield 219, 3) := by decide +kernel
theorem dX7_clearText_16 : decode cX7_clearText 16 = .ok (.iload_n 1, 1) := by decide +kernel
theorem dX7_clearText_17 : decode cX7_clearText 17 = .ok (.ireturn, 1) := by decide +kernel
theorem dX7_parse_0 : decode cX7_parse 0 = .ok (.aload_n 0, 1) := by decide +kernel
theorem dX7_parse_1 : decode cX7_parse 1 = .ok (.getfield 26, 3) := by decide +kernel
theorem dX7_parse_4 : decode cX7_parse 4 = .ok (.aload_n 0, 1) := by decide +kernel
theorem dX7_parse_5 : decode cX7_parse 5 = .ok (.getfield 53, 3) := by decide +kernel
theorem dX7_parse_8 : decode cX7_parse 8 = .ok (.invokevirtual 227, 3) := by decide +kernel
theorem dX7_parse_11 : decode cX7_parse 11 = .ok (.istore_n 1, 1) := by decide +kernel
theorem dX7_parse_12 : decode cX7_parse 12 = .ok (.iload_n 1, 1) := by decide +kernel
theorem dX7_parse_13 : decode cX7_parse 13 = .ok (.iconst (-1), 1) := by decide +kernel
theorem dX7_parse_14 : decode cX7_parse 14 = .ok (.if_icmp .eq 8, 3) := by decide +kernel
theorem dX7_parse_17 : decode cX7_parse 17 = .ok (.bipush (-10), 2) := by decide +kernel
theorem dX7_parse_19 : decode cX7_parse 19 = .ok (.iload_n 1, 1) := by decide +kernel
theorem dX7_parse_20 : decode cX7_parse 20 = .ok (.isub, 1) := by decide +kernel
theorem dX7_parse_21 : decode cX7_parse 21 = .ok (.ireturn, 1) := by decide +kernel
theorem dX7_parse_22 : decode cX7_parse 22 = .ok (.aload_n 0, 1) := by decide +kernel
theorem dX7_parse_23 : decode cX7_parse 23 = .ok (.getfield 19, 3) := by decide +kernel
theorem dX7_parse_26 : decode cX7_parse 26 = .ok (.aload_n 0, 1) := by decide +kernel
theorem dX7_parse_27 : decode cX7_parse 27 = .ok (.getfield 10, 3) := by decide +kernel
theorem dX7_parse_30 : decode cX7_parse 30 = .ok (.invokevirtual 86, 3) := by decide +kernel
theorem dX7_parse_33 : decode cX7_parse 33 = .ok (.aload_n 0, 1) := by decide +kernel
theorem dX7_parse_34 : decode cX7_parse 34 = .ok (.getfield 10, 3) := by decide +kernel
theorem dX7_parse_37 : decode cX7_parse 37 = .ok (.getfield 72, 3) := by decide +kernel
theorem dX7_parse_40 : decode cX7_parse 40 = .ok (.aload_n 0, 1) := by decide +kernel
theorem dX7_parse_41 : decode cX7_parse 41 = .ok (.getfield 53, 3) := by decide +kernel
theorem dX7_parse_44 : decode cX7_parse 44 = .ok (.invokevirtual 231, 3) := by decide +kernel
theorem dX7_parse_47 : decode cX7_parse 47 = .ok (.aload_n 0, 1) := by decide +kernel
theorem dX7_parse_48 : decode cX7_parse 48 = .ok (.invokevirtual 61, 3) := by decide +kernel
theorem dX7_parse_51 : decode cX7_parse 51 = .ok (.aload_n 0, 1) := by decide +kernel
theorem dX7_parse_52 : decode cX7_parse 52 = .ok (.getfield 10, 3) := by decide +kernel
theorem dX7_parse_55 : decode cX7_parse 55 = .ok (.getfield 72, 3) := by decide +kernel
theorem dX7_parse_58 : decode cX7_parse 58 = .ok (.getfield 75, 3) := by decide +kernel
theorem dX7_parse_61 : decode cX7_parse 61 = .ok (.ireturn, 1) := by decide +kernel
theorem dX7_undo_0 : decode cX7_undo 0 = .ok (.aload_n 0, 1) := by decide +kernel
theorem dX7_undo_1 : decode cX7_undo 1 = .ok (.getfield 19, 3) := by decide +kernel
theorem dX7_undo_4 : decode cX7_undo 4 = .ok (.getfield 234, 3) := by decide +kernel
theorem dX7_undo_7 : decode cX7_undo 7 = .ok (.ifCond .gt 13, 3) := by decide +kernel
theorem dX7_undo_10 : decode cX7_undo 10 = .ok (.new 79, 3) := by decide +kernel
theorem dX7_undo_13 : decode cX7_undo 13 = .ok (.dup, 1) := by decide +kernel
theorem dX7_undo_14 : decode cX7_undo 14 = .ok (.ldc 235, 2) := by decide +kernel
theorem dX7_undo_16 : decode cX7_undo 16 = .ok (.invokespecial 83, 3) := by decide +kernel
theorem dX7_undo_19 : decode cX7_undo 19 = .ok (.athrow, 1) := by decide +kernel
theorem dX7_undo_20 : decode cX7_undo 20 = .ok (.aload_n 0, 1) := by decide +kernel
theorem dX7_undo_21 : decode cX7_undo 21 = .ok (.getfield 19, 3) := by decide +kernel
theorem dX7_undo_24 : decode cX7_undo 24 = .ok (.aload_n 0, 1) := by decide +kernel
theorem dX7_undo_25 : decode cX7_undo 25 = .ok (.getfield 10, 3) := by decide +kernel
theorem dX7_undo_28 : decode cX7_undo 28 = .ok (.invokevirtual 237, 3) := by decide +kernel
theorem dX7_undo_31 : decode cX7_undo 31 = .ok (.aload_n 0, 1) := by decide +kernel
theorem dX7_undo_32 : decode cX7_undo 32 = .ok (.invokevirtual 61, 3) := by decide +kernel
theorem dX7_undo_35 : decode cX7_undo 35 = .ok (.aload_n 0, 1) := by decide +kernel
theorem dX7_undo_36 : decode cX7_undo 36 = .ok (.getfield 19, 3) := by decide +kernel
theorem dX7_undo_39 : decode cX7_undo 39 = .ok (.getfield 234, 3) := by decide +kernel
theorem dX7_undo_42 : decode cX7_undo 42 = .ok (.ireturn, 1) := by decide +kernel
theorem dX7_digest_0 : decode cX7_digest 0 = .ok (.ldc2_w 240, 3) := by decide +kernel
theorem dX7_digest_3 : decode cX7_digest 3 = .ok (.aload_n 0, 1) := by decide +kernel
theorem dX7_digest_4 : decode cX7_digest 4 = .ok (.getfield 26, 3) := by decide +kernel
theorem dX7_digest_7 : decode cX7_digest 7 = .ok (.getfield 219, 3) := by decide +kernel
theorem dX7_digest_10 : decode cX7_digest 10 = .ok (.i2l, 1) := by decide +kernel
theorem dX7_digest_11 : decode cX7_digest 11 = .ok (.invokestatic 242, 3) := by decide +kernel
theorem dX7_digest_14 : decode cX7_digest 14 = .ok (.lstore_n 1, 1) := by decide +kernel
theorem dX7_digest_15 : decode cX7_digest 15 = .ok (.iconst 0, 1) := by decide +kernel
theorem dX7_digest_16 : decode cX7_digest 16 = .ok (.istore_n 3, 1) := by decide +kernel
theorem dX7_digest_17 : decode cX7_digest 17 = .ok (.iload_n 3, 1) := by decide +kernel
theorem dX7_digest_18 : decode cX7_digest 18 = .ok (.bipush 14, 2) := by decide +kernel
theorem dX7_digest_20 : decode cX7_digest 20 = .ok (.if_icmp .gt 20, 3) := by decide +kernel
theorem dX7_digest_23 : decode cX7_digest 23 = .ok (.lload_n 1, 1) := by decide +kernel
theorem dX7_digest_24 : decode cX7_digest 24 = .ok (.aload_n 0, 1) := by decide +kernel
theorem dX7_digest_25 : decode cX7_digest 25 = .ok (.iload_n 3, 1) := by decide +kernel
theorem dX7_digest_26 : decode cX7_digest 26 = .ok (.invokevirtual 119, 3) := by decide +kernel
theorem dX7_digest_29 : decode cX7_digest 29 = .ok (.i2l, 1) := by decide +kernel
theorem dX7_digest_30 : decode cX7_digest 30 = .ok (.invokestatic 242, 3) := by decide +kernel
theorem dX7_digest_33 : decode cX7_digest 33 = .ok (.lstore_n 1, 1) := by decide +kernel
theorem dX7_digest_34 : decode cX7_digest 34 = .ok (.iinc 3 1, 3) := by decide +kernel
theorem dX7_digest_37 : decode cX7_digest 37 = .ok (.goto (-20), 3) := by decide +kernel
theorem dX7_digest_40 : decode cX7_digest 40 = .ok (.iconst 0, 1) := by decide +kernel
theorem dX7_digest_41 : decode cX7_digest 41 = .ok (.istore_n 3, 1) := by decide +kernel
theorem dX7_digest_42 : decode cX7_digest 42 = .ok (.iload_n 3, 1) := by decide +kernel
theorem dX7_digest_43 : decode cX7_digest 43 = .ok (.iconst 2, 1) := by decide +kernel
theorem dX7_digest_44 : decode cX7_digest 44 = .ok (.if_icmp .gt 20, 3) := by decide +kernel
theorem dX7_digest_47 : decode cX7_digest 47 = .ok (.lload_n 1, 1) := by decide +kernel
theorem dX7_digest_48 : decode cX7_digest 48 = .ok (.aload_n 0, 1) := by decide +kernel
theorem dX7_digest_49 : decode cX7_digest 49 = .ok (.iload_n 3, 1) := by decide +kernel
theorem dX7_digest_50 : decode cX7_digest 50 = .ok (.invokevirtual 123, 3) := by decide +kernel
theorem dX7_digest_53 : decode cX7_digest 53 = .ok (.i2l, 1) := by decide +kernel
theorem dX7_digest_54 : decode cX7_digest 54 = .ok (.invokestatic 242, 3) := by decide +kernel
theorem dX7_digest_57 : decode cX7_digest 57 = .ok (.lstore_n 1, 1) := by decide +kernel
theorem dX7_digest_58 : decode cX7_digest 58 = .ok (.iinc 3 1, 3) := by decide +kernel
theorem dX7_digest_61 : decode cX7_digest 61 = .ok (.goto (-19), 3) := by decide +kernel
theorem dX7_digest_64 : decode cX7_digest 64 = .ok (.aload_n 0, 1) := by decide +kernel
theorem dX7_digest_65 : decode cX7_digest 65 = .ok (.lload_n 1, 1) := by decide +kernel
theorem dX7_digest_66 : decode cX7_digest 66 = .ok (.invokevirtual 246, 3) := by decide +kernel
theorem dX7_digest_69 : decode cX7_digest 69 = .ok (.lstore_n 1, 1) := by decide +kernel
theorem dX7_digest_70 : decode cX7_digest 70 = .ok (.aload_n 0, 1) := by decide +kernel
theorem dX7_digest_71 : decode cX7_digest 71 = .ok (.lload_n 1, 1) := by decide +kernel
theorem dX7_digest_72 : decode cX7_digest 72 = .ok (.invokevirtual 250, 3) := by decide +kernel
theorem dX7_digest_75 : decode cX7_digest 75 = .ok (.lstore_n 1, 1) := by decide +kernel
theorem dX7_digest_76 : decode cX7_digest 76 = .ok (.aload_n 0, 1) := by decide +kernel
theorem dX7_digest_77 : decode cX7_digest 77 = .ok (.lload_n 1, 1) := by decide +kernel
theorem dX7_digest_78 : decode cX7_digest 78 = .ok (.invokevirtual 253, 3) := by decide +kernel
theorem dX7_digest_81 : decode cX7_digest 81 = .ok (.lstore_n 1, 1) := by decide +kernel
theorem dX7_digest_82 : decode cX7_digest 82 = .ok (.lload_n 1, 1) := by decide +kernel
theorem dX7_digest_83 : decode cX7_digest 83 = .ok (.aload_n 0, 1) := by decide +kernel
theorem dX7_digest_84 : decode cX7_digest 84 = .ok (.getfield 40, 3) := by decide +kernel
theorem dX7_digest_87 : decode cX7_digest 87 = .ok (.invokevirtual 192, 3) := by decide +kernel
theorem dX7_digest_90 : decode cX7_digest 90 = .ok (.i2l, 1) := by decide +kernel
theorem dX7_digest_91 : decode cX7_digest 91 = .ok (.invokestatic 242, 3) := by decide +kernel
theorem dX7_digest_94 : decode cX7_digest 94 = .ok (.lstore_n 1, 1) := by decide +kernel
theorem dX7_digest_95 : decode cX7_digest 95 = .ok (.lload_n 1, 1) := by decide +kernel
theorem dX7_digest_96 : decode cX7_digest 96 = .ok (.aload_n 0, 1) := by decide +kernel
theorem dX7_digest_97 : decode cX7_digest 97 = .ok (.getfield 19, 3) := by decide +kernel
theorem dX7_digest_100 : decode cX7_digest 100 = .ok (.getfield 234, 3) := by decide +kernel
theorem dX7_digest_103 : decode cX7_digest 103 = .ok (.i2l, 1) := by decide +kernel
theorem dX7_digest_104 : decode cX7_digest 104 = .ok (.invokestatic 242, 3) := by decide +kernel
theorem dX7_digest_107 : decode cX7_digest 107 = .ok (.lreturn, 1) := by decide +kernel
theorem dX7_settle_0 : decode cX7_settle 0 = .ok (.aload_n 0, 1) := by decide +kernel
theorem dX7_settle_1 : decode cX7_settle 1 = .ok (.getfield 33, 3) := by decide +kernel
theorem dX7_settle_4 : decode cX7_settle 4 = .ok (.aload_n 0, 1) := by decide +kernel
theorem dX7_settle_5 : decode cX7_settle 5 = .ok (.getfield 10, 3) := by decide +kernel
theorem dX7_settle_8 : decode cX7_settle 8 = .ok (.aload_n 0, 1) := by decide +kernel
theorem dX7_settle_9 : decode cX7_settle 9 = .ok (.getfield 10, 3) := by decide +kernel
theorem dX7_settle_12 : decode cX7_settle 12 = .ok (.getfield 106, 3) := by decide +kernel
theorem dX7_settle_15 : decode cX7_settle 15 = .ok (.invokevirtual 210, 3) := by decide +kernel
theorem dX7_settle_18 : decode cX7_settle 18 = .ok (.aload_n 0, 1) := by decide +kernel
theorem dX7_settle_19 : decode cX7_settle 19 = .ok (.getfield 40, 3) := by decide +kernel
theorem dX7_settle_22 : decode cX7_settle 22 = .ok (.aload_n 0, 1) := by decide +kernel
theorem dX7_settle_23 : decode cX7_settle 23 = .ok (.getfield 10, 3) := by decide +kernel
theorem dX7_settle_26 : decode cX7_settle 26 = .ok (.getfield 72, 3) := by decide +kernel
theorem dX7_settle_29 : decode cX7_settle 29 = .ok (.invokevirtual 195, 3) := by decide +kernel
theorem dX7_settle_32 : decode cX7_settle 32 = .ok (.aload_n 0, 1) := by decide +kernel
theorem dX7_settle_33 : decode cX7_settle 33 = .ok (.getfield 40, 3) := by decide +kernel
theorem dX7_settle_36 : decode cX7_settle 36 = .ok (.aload_n 0, 1) := by decide +kernel
theorem dX7_settle_37 : decode cX7_settle 37 = .ok (.getfield 10, 3) := by decide +kernel
theorem dX7_settle_40 : decode cX7_settle 40 = .ok (.getfield 72, 3) := by decide +kernel
theorem dX7_settle_43 : decode cX7_settle 43 = .ok (.invokevirtual 199, 3) := by decide +kernel
theorem dX7_settle_46 : decode cX7_settle 46 = .ok (.return_, 1) := by decide +kernel
theorem dX7_requireNode_0 : decode cX7_requireNode 0 = .ok (.iload_n 1, 1) := by decide +kernel
theorem dX7_requireNode_1 : decode cX7_requireNode 1 = .ok (.ifCond .lt 17, 3) := by decide +kernel
theorem dX7_requireNode_4 : decode cX7_requireNode 4 = .ok (.iload_n 1, 1) := by decide +kernel
theorem dX7_requireNode_5 : decode cX7_requireNode 5 = .ok (.aload_n 0, 1) := by decide +kernel
theorem dX7_requireNode_6 : decode cX7_requireNode 6 = .ok (.getfield 10, 3) := by decide +kernel
theorem dX7_requireNode_9 : decode cX7_requireNode 9 = .ok (.getfield 72, 3) := by decide +kernel
theorem dX7_requireNode_12 : decode cX7_requireNode 12 = .ok (.getfield 75, 3) := by decide +kernel
theorem dX7_requireNode_15 : decode cX7_requireNode 15 = .ok (.if_icmp .lt 14, 3) := by decide +kernel
theorem dX7_requireNode_18 : decode cX7_requireNode 18 = .ok (.new 256, 3) := by decide +kernel
theorem dX7_requireNode_21 : decode cX7_requireNode 21 = .ok (.dup, 1) := by decide +kernel
theorem dX7_requireNode_22 : decode cX7_requireNode 22 = .ok (.ldc_w 258, 3) := by decide +kernel
theorem dX7_requireNode_25 : decode cX7_requireNode 25 = .ok (.invokespecial 260, 3) := by decide +kernel
theorem dX7_requireNode_28 : decode cX7_requireNode 28 = .ok (.athrow, 1) := by decide +kernel
theorem dX7_requireNode_29 : decode cX7_requireNode 29 = .ok (.return_, 1) := by decide +kernel
theorem dX7_requirePipe_0 : decode cX7_requirePipe 0 = .ok (.iload_n 1, 1) := by decide +kernel
theorem dX7_requirePipe_1 : decode cX7_requirePipe 1 = .ok (.iconst 1, 1) := by decide +kernel
theorem dX7_requirePipe_2 : decode cX7_requirePipe 2 = .ok (.if_icmp .lt 17, 3) := by decide +kernel
theorem dX7_requirePipe_5 : decode cX7_requirePipe 5 = .ok (.iload_n 1, 1) := by decide +kernel
theorem dX7_requirePipe_6 : decode cX7_requirePipe 6 = .ok (.aload_n 0, 1) := by decide +kernel
theorem dX7_requirePipe_7 : decode cX7_requirePipe 7 = .ok (.getfield 10, 3) := by decide +kernel
theorem dX7_requirePipe_10 : decode cX7_requirePipe 10 = .ok (.getfield 72, 3) := by decide +kernel
theorem dX7_requirePipe_13 : decode cX7_requirePipe 13 = .ok (.getfield 75, 3) := by decide +kernel
theorem dX7_requirePipe_16 : decode cX7_requirePipe 16 = .ok (.if_icmp .lt 14, 3) := by decide +kernel
theorem dX7_requirePipe_19 : decode cX7_requirePipe 19 = .ok (.new 256, 3) := by decide +kernel
theorem dX7_requirePipe_22 : decode cX7_requirePipe 22 = .ok (.dup, 1) := by decide +kernel
theorem dX7_requirePipe_23 : decode cX7_requirePipe 23 = .ok (.ldc_w 261, 3) := by decide +kernel
theorem dX7_requirePipe_26 : decode cX7_requirePipe 26 = .ok (.invokespecial 260, 3) := by decide +kernel
theorem dX7_requirePipe_29 : decode cX7_requirePipe 29 = .ok (.athrow, 1) := by decide +kernel
theorem dX7_requirePipe_30 : decode cX7_requirePipe 30 = .ok (.return_, 1) := by decide +kernel
theorem dX7_requireBoiler_0 : decode cX7_requireBoiler 0 = .ok (.iload_n 1, 1) := by decide +kernel
theorem dX7_requireBoiler_1 : decode cX7_requireBoiler 1 = .ok (.ifCond .lt 17, 3) := by decide +kernel
theorem dX7_requireBoiler_4 : decode cX7_requireBoiler 4 = .ok (.iload_n 1, 1) := by decide +kernel
theorem dX7_requireBoiler_5 : decode cX7_requireBoiler 5 = .ok (.aload_n 0, 1) := by decide +kernel
theorem dX7_requireBoiler_6 : decode cX7_requireBoiler 6 = .ok (.getfield 10, 3) := by decide +kernel
theorem dX7_requireBoiler_9 : decode cX7_requireBoiler 9 = .ok (.getfield 127, 3) := by decide +kernel
theorem dX7_requireBoiler_12 : decode cX7_requireBoiler 12 = .ok (.getfield 131, 3) := by decide +kernel
theorem dX7_requireBoiler_15 : decode cX7_requireBoiler 15 = .ok (.if_icmp .lt 14, 3) := by decide +kernel
theorem dX7_requireBoiler_18 : decode cX7_requireBoiler 18 = .ok (.new 256, 3) := by decide +kernel
theorem dX7_requireBoiler_21 : decode cX7_requireBoiler 21 = .ok (.dup, 1) := by decide +kernel
theorem dX7_requireBoiler_22 : decode cX7_requireBoiler 22 = .ok (.ldc_w 263, 3) := by decide +kernel
theorem dX7_requireBoiler_25 : decode cX7_requireBoiler 25 = .ok (.invokespecial 260, 3) := by decide +kernel
theorem dX7_requireBoiler_28 : decode cX7_requireBoiler 28 = .ok (.athrow, 1) := by decide +kernel
theorem dX7_requireBoiler_29 : decode cX7_requireBoiler 29 = .ok (.return_, 1) := by decide +kernel
theorem dX7_requireWithin_0 : decode cX7_requireWithin 0 = .ok (.iload_n 0, 1) := by decide +kernel
theorem dX7_requireWithin_1 : decode cX7_requireWithin 1 = .ok (.iload_n 1, 1) := by decide +kernel
theorem dX7_requireWithin_2 : decode cX7_requireWithin 2 = .ok (.if_icmp .lt 8, 3) := by decide +kernel
theorem dX7_requireWithin_5 : decode cX7_requireWithin 5 = .ok (.iload_n 0, 1) := by decide +kernel
theorem dX7_requireWithin_6 : decode cX7_requireWithin 6 = .ok (.iload_n 2, 1) := by decide +kernel
theorem dX7_requireWithin_7 : decode cX7_requireWithin 7 = .ok (.if_icmp .le 14, 3) := by decide +kernel
theorem dX7_requireWithin_10 : decode cX7_requireWithin 10 = .ok (.new 265, 3) := by decide +kernel
theorem dX7_requireWithin_13 : decode cX7_requireWithin 13 = .ok (.dup, 1) := by decide +kernel
theorem dX7_requireWithin_14 : decode cX7_requireWithin 14 = .ok (.ldc_w 267, 3) := by decide +kernel
theorem dX7_requireWithin_17 : decode cX7_requireWithin 17 = .ok (.invokespecial 269, 3) := by decide +kernel
theorem dX7_requireWithin_20 : decode cX7_requireWithin 20 = .ok (.athrow, 1) := by decide +kernel
theorem dX7_requireWithin_21 : decode cX7_requireWithin 21 = .ok (.return_, 1) := by decide +kernel
theorem dX7_nodeFact_0 : decode cX7_nodeFact 0 = .ok (.aload_n 0, 1) := by decide +kernel
theorem dX7_nodeFact_1 : decode cX7_nodeFact 1 = .ok (.getfield 10, 3) := by decide +kernel
theorem dX7_nodeFact_4 : decode cX7_nodeFact 4 = .ok (.getfield 72, 3) := by decide +kernel
theorem dX7_nodeFact_7 : decode cX7_nodeFact 7 = .ok (.astore_n 3, 1) := by decide +kernel
theorem dX7_nodeFact_8 : decode cX7_nodeFact 8 = .ok (.iload_n 2, 1) := by decide +kernel
theorem dX7_nodeFact_9 : decode cX7_nodeFact 9 = .ok (.tableswitch 151 0 10 #[59, 66, 73, 80, 87, 94, 101, 111, 121, 139, 145], 59) := by decide +kernel
theorem dX7_nodeFact_68 : decode cX7_nodeFact 68 = .ok (.aload_n 3, 1) := by decide +kernel
theorem dX7_nodeFact_69 : decode cX7_nodeFact 69 = .ok (.getfield 270, 3) := by decide +kernel
theorem dX7_nodeFact_72 : decode cX7_nodeFact 72 = .ok (.iload_n 1, 1) := by decide +kernel
theorem dX7_nodeFact_73 : decode cX7_nodeFact 73 = .ok (.iaload, 1) := by decide +kernel
theorem dX7_nodeFact_74 : decode cX7_nodeFact 74 = .ok (.ireturn, 1) := by decide +kernel
theorem dX7_nodeFact_75 : decode cX7_nodeFact 75 = .ok (.aload_n 3, 1) := by decide +kernel
theorem dX7_nodeFact_76 : decode cX7_nodeFact 76 = .ok (.getfield 273, 3) := by decide +kernel
theorem dX7_nodeFact_79 : decode cX7_nodeFact 79 = .ok (.iload_n 1, 1) := by decide +kernel
theorem dX7_nodeFact_80 : decode cX7_nodeFact 80 = .ok (.iaload, 1) := by decide +kernel
theorem dX7_nodeFact_81 : decode cX7_nodeFact 81 = .ok (.ireturn, 1) := by decide +kernel
theorem dX7_nodeFact_82 : decode cX7_nodeFact 82 = .ok (.aload_n 3, 1) := by decide +kernel
theorem dX7_nodeFact_83 : decode cX7_nodeFact 83 = .ok (.getfield 275, 3) := by decide +kernel
theorem dX7_nodeFact_86 : decode cX7_nodeFact 86 = .ok (.iload_n 1, 1) := by decide +kernel
theorem dX7_nodeFact_87 : decode cX7_nodeFact 87 = .ok (.iaload, 1) := by decide +kernel
theorem dX7_nodeFact_88 : decode cX7_nodeFact 88 = .ok (.ireturn, 1) := by decide +kernel
theorem dX7_nodeFact_89 : decode cX7_nodeFact 89 = .ok (.aload_n 3, 1) := by decide +kernel
theorem dX7_nodeFact_90 : decode cX7_nodeFact 90 = .ok (.getfield 97, 3) := by decide +kernel
theorem dX7_nodeFact_93 : decode cX7_nodeFact 93 = .ok (.iload_n 1, 1) := by decide +kernel
theorem dX7_nodeFact_94 : decode cX7_nodeFact 94 = .ok (.iaload, 1) := by decide +kernel
theorem dX7_nodeFact_95 : decode cX7_nodeFact 95 = .ok (.ireturn, 1) := by decide +kernel
theorem dX7_nodeFact_96 : decode cX7_nodeFact 96 = .ok (.aload_n 3, 1) := by decide +kernel
theorem dX7_nodeFact_97 : decode cX7_nodeFact 97 = .ok (.getfield 100, 3) := by decide +kernel
theorem dX7_nodeFact_100 : decode cX7_nodeFact 100 = .ok (.iload_n 1, 1) := by decide +kernel
theorem dX7_nodeFact_101 : decode cX7_nodeFact 101 = .ok (.iaload, 1) := by decide +kernel
theorem dX7_nodeFact_102 : decode cX7_nodeFact 102 = .ok (.ireturn, 1) := by decide +kernel
theorem dX7_nodeFact_103 : decode cX7_nodeFact 103 = .ok (.aload_n 3, 1) := by decide +kernel
theorem dX7_nodeFact_104 : decode cX7_nodeFact 104 = .ok (.getfield 103, 3) := by decide +kernel
theorem dX7_nodeFact_107 : decode cX7_nodeFact 107 = .ok (.iload_n 1, 1) := by decide +kernel
theorem dX7_nodeFact_108 : decode cX7_nodeFact 108 = .ok (.iaload, 1) := by decide +kernel
theorem dX7_nodeFact_109 : decode cX7_nodeFact 109 = .ok (.ireturn, 1) := by decide +kernel
theorem dX7_nodeFact_110 : decode cX7_nodeFact 110 = .ok (.aload_n 0, 1) := by decide +kernel
theorem dX7_nodeFact_111 : decode cX7_nodeFact 111 = .ok (.getfield 33, 3) := by decide +kernel
theorem dX7_nodeFact_114 : decode cX7_nodeFact 114 = .ok (.getfield 216, 3) := by decide +kernel
theorem dX7_nodeFact_117 : decode cX7_nodeFact 117 = .ok (.iload_n 1, 1) := by decide +kernel
theorem dX7_nodeFact_118 : decode cX7_nodeFact 118 = .ok (.iaload, 1) := by decide +kernel
theorem dX7_nodeFact_119 : decode cX7_nodeFact 119 = .ok (.ireturn, 1) := by decide +kernel
theorem dX7_nodeFact_120 : decode cX7_nodeFact 120 = .ok (.aload_n 0, 1) := by decide +kernel
theorem dX7_nodeFact_121 : decode cX7_nodeFact 121 = .ok (.getfield 33, 3) := by decide +kernel
theorem dX7_nodeFact_124 : decode cX7_nodeFact 124 = .ok (.getfield 278, 3) := by decide +kernel
theorem dX7_nodeFact_127 : decode cX7_nodeFact 127 = .ok (.iload_n 1, 1) := by decide +kernel
theorem dX7_nodeFact_128 : decode cX7_nodeFact 128 = .ok (.iaload, 1) := by decide +kernel
theorem dX7_nodeFact_129 : decode cX7_nodeFact 129 = .ok (.ireturn, 1) := by decide +kernel
theorem dX7_nodeFact_130 : decode cX7_nodeFact 130 = .ok (.iload_n 1, 1) := by decide +kernel
theorem dX7_nodeFact_131 : decode cX7_nodeFact 131 = .ok (.ifCond .ne 7, 3) := by decide +kernel
theorem dX7_nodeFact_134 : decode cX7_nodeFact 134 = .ok (.iconst (-1), 1) := by decide +kernel
theorem dX7_nodeFact_135 : decode cX7_nodeFact 135 = .ok (.goto 12, 3) := by decide +kernel
theorem dX7_nodeFact_138 : decode cX7_nodeFact 138 = .ok (.aload_n 0, 1) := by decide +kernel
theorem dX7_nodeFact_139 : decode cX7_nodeFact 139 = .ok (.getfield 33, 3) := by decide +kernel
theorem dX7_nodeFact_142 : decode cX7_nodeFact 142 = .ok (.aload_n 3, 1) := by decide +kernel
theorem dX7_nodeFact_143 : decode cX7_nodeFact 143 = .ok (.iload_n 1, 1) := by decide +kernel
theorem dX7_nodeFact_144 : decode cX7_nodeFact 144 = .ok (.invokevirtual 281, 3) := by decide +kernel
theorem dX7_nodeFact_147 : decode cX7_nodeFact 147 = .ok (.ireturn, 1) := by decide +kernel
theorem dX7_nodeFact_148 : decode cX7_nodeFact 148 = .ok (.aload_n 3, 1) := by decide +kernel
theorem dX7_nodeFact_149 : decode cX7_nodeFact 149 = .ok (.iload_n 1, 1) := by decide +kernel
theorem dX7_nodeFact_150 : decode cX7_nodeFact 150 = .ok (.invokevirtual 285, 3) := by decide +kernel
theorem dX7_nodeFact_153 : decode cX7_nodeFact 153 = .ok (.ireturn, 1) := by decide +kernel
theorem dX7_nodeFact_154 : decode cX7_nodeFact 154 = .ok (.aload_n 3, 1) := by decide +kernel
theorem dX7_nodeFact_155 : decode cX7_nodeFact 155 = .ok (.iload_n 1, 1) := by decide +kernel
theorem dX7_nodeFact_156 : decode cX7_nodeFact 156 = .ok (.invokevirtual 288, 3) := by decide +kernel
theorem dX7_nodeFact_159 : decode cX7_nodeFact 159 = .ok (.ireturn, 1) := by decide +kernel
theorem dX7_nodeFact_160 : decode cX7_nodeFact 160 = .ok (.aload_n 3, 1) := by decide +kernel
theorem dX7_nodeFact_161 : decode cX7_nodeFact 161 = .ok (.getfield 163, 3) := by decide +kernel
theorem dX7_nodeFact_164 : decode cX7_nodeFact 164 = .ok (.iload_n 1, 1) := by decide +kernel
theorem dX7_nodeFact_165 : decode cX7_nodeFact 165 = .ok (.iaload, 1) := by decide +kernel
theorem dX7_nodeFact_166 : decode cX7_nodeFact 166 = .ok (.ireturn, 1) := by decide +kernel
theorem dX7_heatOf_0 : decode cX7_heatOf 0 = .ok (.aload_n 0, 1) := by decide +kernel
theorem dX7_heatOf_1 : decode cX7_heatOf 1 = .ok (.getfield 10, 3) := by decide +kernel
theorem dX7_heatOf_4 : decode cX7_heatOf 4 = .ok (.getfield 72, 3) := by decide +kernel
theorem dX7_heatOf_7 : decode cX7_heatOf 7 = .ok (.astore_n 3, 1) := by decide +kernel
theorem dX7_heatOf_8 : decode cX7_heatOf 8 = .ok (.iload_n 2, 1) := by decide +kernel
theorem dX7_heatOf_9 : decode cX7_heatOf 9 = .ok (.tableswitch 118 0 4 #[35, 41, 71, 88, 98], 35) := by decide +kernel
theorem dX7_heatOf_44 : decode cX7_heatOf 44 = .ok (.aload_n 0, 1) := by decide +kernel
theorem dX7_heatOf_45 : decode cX7_heatOf 45 = .ok (.iload_n 1, 1) := by decide +kernel
theorem dX7_heatOf_46 : decode cX7_heatOf 46 = .ok (.invokevirtual 291, 3) := by decide +kernel
theorem dX7_heatOf_49 : decode cX7_heatOf 49 = .ok (.ireturn, 1) := by decide +kernel
theorem dX7_heatOf_50 : decode cX7_heatOf 50 = .ok (.aload_n 0, 1) := by decide +kernel
theorem dX7_heatOf_51 : decode cX7_heatOf 51 = .ok (.getfield 33, 3) := by decide +kernel
theorem dX7_heatOf_54 : decode cX7_heatOf 54 = .ok (.getfield 216, 3) := by decide +kernel
theorem dX7_heatOf_57 : decode cX7_heatOf 57 = .ok (.iload_n 1, 1) := by decide +kernel
theorem dX7_heatOf_58 : decode cX7_heatOf 58 = .ok (.iaload, 1) := by decide +kernel
theorem dX7_heatOf_59 : decode cX7_heatOf 59 = .ok (.aload_n 0, 1) := by decide +kernel
theorem dX7_heatOf_60 : decode cX7_heatOf 60 = .ok (.getfield 33, 3) := by decide +kernel
theorem dX7_heatOf_63 : decode cX7_heatOf 63 = .ok (.aload_n 3, 1) := by decide +kernel
theorem dX7_heatOf_64 : decode cX7_heatOf 64 = .ok (.iload_n 1, 1) := by decide +kernel
theorem dX7_heatOf_65 : decode cX7_heatOf 65 = .ok (.invokevirtual 294, 3) := by decide +kernel
theorem dX7_heatOf_68 : decode cX7_heatOf 68 = .ok (.aload_n 0, 1) := by decide +kernel
theorem dX7_heatOf_69 : decode cX7_heatOf 69 = .ok (.getfield 33, 3) := by decide +kernel
theorem dX7_heatOf_72 : decode cX7_heatOf 72 = .ok (.getfield 278, 3) := by decide +kernel
theorem dX7_heatOf_75 : decode cX7_heatOf 75 = .ok (.iload_n 1, 1) := by decide +kernel
theorem dX7_heatOf_76 : decode cX7_heatOf 76 = .ok (.iaload, 1) := by decide +kernel
theorem dX7_heatOf_77 : decode cX7_heatOf 77 = .ok (.isub, 1) := by decide +kernel
theorem dX7_heatOf_78 : decode cX7_heatOf 78 = .ok (.imul, 1) := by decide +kernel
theorem dX7_heatOf_79 : decode cX7_heatOf 79 = .ok (.ireturn, 1) := by decide +kernel
theorem dX7_heatOf_80 : decode cX7_heatOf 80 = .ok (.aload_n 3, 1) := by decide +kernel
theorem dX7_heatOf_81 : decode cX7_heatOf 81 = .ok (.getfield 103, 3) := by decide +kernel
theorem dX7_heatOf_84 : decode cX7_heatOf 84 = .ok (.iload_n 1, 1) := by decide +kernel
theorem dX7_heatOf_85 : decode cX7_heatOf 85 = .ok (.iaload, 1) := by decide +kernel
theorem dX7_heatOf_86 : decode cX7_heatOf 86 = .ok (.aload_n 0, 1) := by decide +kernel
theorem dX7_heatOf_87 : decode cX7_heatOf 87 = .ok (.getfield 33, 3) := by decide +kernel
theorem dX7_heatOf_90 : decode cX7_heatOf 90 = .ok (.getfield 278, 3) := by decide +kernel
theorem dX7_heatOf_93 : decode cX7_heatOf 93 = .ok (.iload_n 1, 1) := by decide +kernel
theorem dX7_heatOf_94 : decode cX7_heatOf 94 = .ok (.iaload, 1) := by decide +kernel
theorem dX7_heatOf_95 : decode cX7_heatOf 95 = .ok (.imul, 1) := by decide +kernel
theorem dX7_heatOf_96 : decode cX7_heatOf 96 = .ok (.ireturn, 1) := by decide +kernel
theorem dX7_heatOf_97 : decode cX7_heatOf 97 = .ok (.aload_n 0, 1) := by decide +kernel
theorem dX7_heatOf_98 : decode cX7_heatOf 98 = .ok (.getfield 33, 3) := by decide +kernel
theorem dX7_heatOf_101 : decode cX7_heatOf 101 = .ok (.getfield 297, 3) := by decide +kernel
theorem dX7_heatOf_104 : decode cX7_heatOf 104 = .ok (.iload_n 1, 1) := by decide +kernel
theorem dX7_heatOf_105 : decode cX7_heatOf 105 = .ok (.iaload, 1) := by decide +kernel
theorem dX7_heatOf_106 : decode cX7_heatOf 106 = .ok (.ireturn, 1) := by decide +kernel
theorem dX7_heatOf_107 : decode cX7_heatOf 107 = .ok (.aload_n 0, 1) := by decide +kernel
theorem dX7_heatOf_108 : decode cX7_heatOf 108 = .ok (.getfield 33, 3) := by decide +kernel
theorem dX7_heatOf_111 : decode cX7_heatOf 111 = .ok (.getfield 216, 3) := by decide +kernel
theorem dX7_heatOf_114 : decode cX7_heatOf 114 = .ok (.iload_n 1, 1) := by decide +kernel
theorem dX7_heatOf_115 : decode cX7_heatOf 115 = .ok (.iaload, 1) := by decide +kernel
theorem dX7_heatOf_116 : decode cX7_heatOf 116 = .ok (.aload_n 0, 1) := by decide +kernel
theorem dX7_heatOf_117 : decode cX7_heatOf 117 = .ok (.getfield 33, 3) := by decide +kernel
theorem dX7_heatOf_120 : decode cX7_heatOf 120 = .ok (.aload_n 3, 1) := by decide +kernel
theorem dX7_heatOf_121 : decode cX7_heatOf 121 = .ok (.iload_n 1, 1) := by decide +kernel
theorem dX7_heatOf_122 : decode cX7_heatOf 122 = .ok (.invokevirtual 294, 3) := by decide +kernel
theorem dX7_heatOf_125 : decode cX7_heatOf 125 = .ok (.imul, 1) := by decide +kernel
theorem dX7_heatOf_126 : decode cX7_heatOf 126 = .ok (.ireturn, 1) := by decide +kernel
theorem dX7_heatOf_127 : decode cX7_heatOf 127 = .ok (.aload_n 0, 1) := by decide +kernel
theorem dX7_heatOf_128 : decode cX7_heatOf 128 = .ok (.iload_n 1, 1) := by decide +kernel
theorem dX7_heatOf_129 : decode cX7_heatOf 129 = .ok (.invokevirtual 166, 3) := by decide +kernel
theorem dX7_heatOf_132 : decode cX7_heatOf 132 = .ok (.ireturn, 1) := by decide +kernel
theorem dX7_deliveredBy_0 : decode cX7_deliveredBy 0 = .ok (.aload_n 0, 1) := by decide +kernel
theorem dX7_deliveredBy_1 : decode cX7_deliveredBy 1 = .ok (.getfield 10, 3) := by decide +kernel
theorem dX7_deliveredBy_4 : decode cX7_deliveredBy 4 = .ok (.getfield 72, 3) := by decide +kernel
theorem dX7_deliveredBy_7 : decode cX7_deliveredBy 7 = .ok (.getfield 97, 3) := by decide +kernel
theorem dX7_deliveredBy_10 : decode cX7_deliveredBy 10 = .ok (.iload_n 1, 1) := by decide +kernel
theorem dX7_deliveredBy_11 : decode cX7_deliveredBy 11 = .ok (.iaload, 1) := by decide +kernel
theorem dX7_deliveredBy_12 : decode cX7_deliveredBy 12 = .ok (.aload_n 0, 1) := by decide +kernel
theorem dX7_deliveredBy_13 : decode cX7_deliveredBy 13 = .ok (.getfield 33, 3) := by decide +kernel
theorem dX7_deliveredBy_16 : decode cX7_deliveredBy 16 = .ok (.getfield 278, 3) := by decide +kernel
theorem dX7_deliveredBy_19 : decode cX7_deliveredBy 19 = .ok (.iload_n 1, 1) := by decide +kernel
theorem dX7_deliveredBy_20 : decode cX7_deliveredBy 20 = .ok (.iaload, 1) := by decide +kernel
theorem dX7_deliveredBy_21 : decode cX7_deliveredBy 21 = .ok (.aload_n 0, 1) := by decide +kernel
theorem dX7_deliveredBy_22 : decode cX7_deliveredBy 22 = .ok (.getfield 33, 3) := by decide +kernel
theorem dX7_deliveredBy_25 : decode cX7_deliveredBy 25 = .ok (.aload_n 0, 1) := by decide +kernel
theorem dX7_deliveredBy_26 : decode cX7_deliveredBy 26 = .ok (.getfield 10, 3) := by decide +kernel
theorem dX7_deliveredBy_29 : decode cX7_deliveredBy 29 = .ok (.getfield 72, 3) := by decide +kernel
theorem dX7_deliveredBy_32 : decode cX7_deliveredBy 32 = .ok (.iload_n 1, 1) := by decide +kernel
theorem dX7_deliveredBy_33 : decode cX7_deliveredBy 33 = .ok (.invokevirtual 281, 3) := by decide +kernel
theorem dX7_deliveredBy_36 : decode cX7_deliveredBy 36 = .ok (.isub, 1) := by decide +kernel
theorem dX7_deliveredBy_37 : decode cX7_deliveredBy 37 = .ok (.imul, 1) := by decide +kernel
theorem dX7_deliveredBy_38 : decode cX7_deliveredBy 38 = .ok (.ireturn, 1) := by decide +kernel
theorem dX7_billOf_0 : decode cX7_billOf 0 = .ok (.aload_n 0, 1) := by decide +kernel
theorem dX7_billOf_1 : decode cX7_billOf 1 = .ok (.getfield 33, 3) := by decide +kernel
theorem dX7_billOf_4 : decode cX7_billOf 4 = .ok (.aload_n 0, 1) := by decide +kernel
theorem dX7_billOf_5 : decode cX7_billOf 5 = .ok (.getfield 10, 3) := by decide +kernel
theorem dX7_billOf_8 : decode cX7_billOf 8 = .ok (.getfield 72, 3) := by decide +kernel
theorem dX7_billOf_11 : decode cX7_billOf 11 = .ok (.iload_n 1, 1) := by decide +kernel
theorem dX7_billOf_12 : decode cX7_billOf 12 = .ok (.invokevirtual 281, 3) := by decide +kernel
theorem dX7_billOf_15 : decode cX7_billOf 15 = .ok (.aload_n 0, 1) := by decide +kernel
theorem dX7_billOf_16 : decode cX7_billOf 16 = .ok (.getfield 10, 3) := by decide +kernel
theorem dX7_billOf_19 : decode cX7_billOf 19 = .ok (.getfield 152, 3) := by decide +kernel
theorem dX7_billOf_22 : decode cX7_billOf 22 = .ok (.isub, 1) := by decide +kernel
theorem dX7_billOf_23 : decode cX7_billOf 23 = .ok (.istore_n 2, 1) := by decide +kernel
theorem dX7_billOf_24 : decode cX7_billOf 24 = .ok (.aload_n 0, 1) := by decide +kernel
theorem dX7_billOf_25 : decode cX7_billOf 25 = .ok (.iload_n 1, 1) := by decide +kernel
theorem dX7_billOf_26 : decode cX7_billOf 26 = .ok (.invokevirtual 291, 3) := by decide +kernel
theorem dX7_billOf_29 : decode cX7_billOf 29 = .ok (.aload_n 0, 1) := by decide +kernel
theorem dX7_billOf_30 : decode cX7_billOf 30 = .ok (.getfield 10, 3) := by decide +kernel
theorem dX7_billOf_33 : decode cX7_billOf 33 = .ok (.getfield 149, 3) := by decide +kernel
theorem dX7_billOf_36 : decode cX7_billOf 36 = .ok (.imul, 1) := by decide +kernel
theorem dX7_billOf_37 : decode cX7_billOf 37 = .ok (.sipush 1000, 3) := by decide +kernel
theorem dX7_billOf_40 : decode cX7_billOf 40 = .ok (.idiv, 1) := by decide +kernel
theorem dX7_billOf_41 : decode cX7_billOf 41 = .ok (.aload_n 0, 1) := by decide +kernel
theorem dX7_billOf_42 : decode cX7_billOf 42 = .ok (.getfield 10, 3) := by decide +kernel
theorem dX7_billOf_45 : decode cX7_billOf 45 = .ok (.getfield 72, 3) := by decide +kernel
theorem dX7_billOf_48 : decode cX7_billOf 48 = .ok (.getfield 97, 3) := by decide +kernel
theorem dX7_billOf_51 : decode cX7_billOf 51 = .ok (.iload_n 1, 1) := by decide +kernel
theorem dX7_billOf_52 : decode cX7_billOf 52 = .ok (.iaload, 1) := by decide +kernel
theorem dX7_billOf_53 : decode cX7_billOf 53 = .ok (.iload_n 2, 1) := by decide +kernel
theorem dX7_billOf_54 : decode cX7_billOf 54 = .ok (.imul, 1) := by decide +kernel
theorem dX7_billOf_55 : decode cX7_billOf 55 = .ok (.aload_n 0, 1) := by decide +kernel
theorem dX7_billOf_56 : decode cX7_billOf 56 = .ok (.getfield 10, 3) := by decide +kernel
theorem dX7_billOf_59 : decode cX7_billOf 59 = .ok (.getfield 155, 3) := by decide +kernel
theorem dX7_billOf_62 : decode cX7_billOf 62 = .ok (.imul, 1) := by decide +kernel
theorem dX7_billOf_63 : decode cX7_billOf 63 = .ok (.sipush 1000, 3) := by decide +kernel
theorem dX7_billOf_66 : decode cX7_billOf 66 = .ok (.idiv, 1) := by decide +kernel
theorem dX7_billOf_67 : decode cX7_billOf 67 = .ok (.iadd, 1) := by decide +kernel
theorem dX7_billOf_68 : decode cX7_billOf 68 = .ok (.ireturn, 1) := by decide +kernel
theorem dX7_number_0 : decode cX7_number 0 = .ok (.iload_n 1, 1) := by decide +kernel
theorem dX7_number_1 : decode cX7_number 1 = .ok (.tableswitch 194 0 13 #[71, 79, 87, 95, 103, 111, 122, 133, 141, 149, 157, 165, 173, 184], 71) := by decide +kernel
theorem dX7_number_72 : decode cX7_number 72 = .ok (.aload_n 0, 1) := by decide +kernel
theorem dX7_number_73 : decode cX7_number 73 = .ok (.getfield 10, 3) := by decide +kernel
theorem dX7_number_76 : decode cX7_number 76 = .ok (.getfield 106, 3) := by decide +kernel
theorem dX7_number_79 : decode cX7_number 79 = .ok (.ireturn, 1) := by decide +kernel
theorem dX7_number_80 : decode cX7_number 80 = .ok (.aload_n 0, 1) := by decide +kernel
theorem dX7_number_81 : decode cX7_number 81 = .ok (.getfield 10, 3) := by decide +kernel
theorem dX7_number_84 : decode cX7_number 84 = .ok (.getfield 109, 3) := by decide +kernel
theorem dX7_number_87 : decode cX7_number 87 = .ok (.ireturn, 1) := by decide +kernel
theorem dX7_number_88 : decode cX7_number 88 = .ok (.aload_n 0, 1) := by decide +kernel
theorem dX7_number_89 : decode cX7_number 89 = .ok (.getfield 10, 3) := by decide +kernel
theorem dX7_number_92 : decode cX7_number 92 = .ok (.getfield 149, 3) := by decide +kernel
theorem dX7_number_95 : decode cX7_number 95 = .ok (.ireturn, 1) := by decide +kernel
theorem dX7_number_96 : decode cX7_number 96 = .ok (.aload_n 0, 1) := by decide +kernel
theorem dX7_number_97 : decode cX7_number 97 = .ok (.getfield 10, 3) := by decide +kernel
theorem dX7_number_100 : decode cX7_number 100 = .ok (.getfield 152, 3) := by decide +kernel
theorem dX7_number_103 : decode cX7_number 103 = .ok (.ireturn, 1) := by decide +kernel
theorem dX7_number_104 : decode cX7_number 104 = .ok (.aload_n 0, 1) := by decide +kernel
theorem dX7_number_105 : decode cX7_number 105 = .ok (.getfield 10, 3) := by decide +kernel
theorem dX7_number_108 : decode cX7_number 108 = .ok (.getfield 155, 3) := by decide +kernel
theorem dX7_number_111 : decode cX7_number 111 = .ok (.ireturn, 1) := by decide +kernel
theorem dX7_number_112 : decode cX7_number 112 = .ok (.aload_n 0, 1) := by decide +kernel
theorem dX7_number_113 : decode cX7_number 113 = .ok (.getfield 10, 3) := by decide +kernel
theorem dX7_number_116 : decode cX7_number 116 = .ok (.getfield 72, 3) := by decide +kernel
theorem dX7_number_119 : decode cX7_number 119 = .ok (.getfield 75, 3) := by decide +kernel
theorem dX7_number_122 : decode cX7_number 122 = .ok (.ireturn, 1) := by decide +kernel
theorem dX7_number_123 : decode cX7_number 123 = .ok (.aload_n 0, 1) := by decide +kernel
theorem dX7_number_124 : decode cX7_number 124 = .ok (.getfield 10, 3) := by decide +kernel
theorem dX7_number_127 : decode cX7_number 127 = .ok (.getfield 127, 3) := by decide +kernel
theorem dX7_number_130 : decode cX7_number 130 = .ok (.getfield 131, 3) := by decide +kernel
theorem dX7_number_133 : decode cX7_number 133 = .ok (.ireturn, 1) := by decide +kernel
theorem dX7_number_134 : decode cX7_number 134 = .ok (.aload_n 0, 1) := by decide +kernel
theorem dX7_number_135 : decode cX7_number 135 = .ok (.getfield 33, 3) := by decide +kernel
theorem dX7_number_138 : decode cX7_number 138 = .ok (.getfield 300, 3) := by decide +kernel
theorem dX7_number_141 : decode cX7_number 141 = .ok (.ireturn, 1) := by decide +kernel
theorem dX7_number_142 : decode cX7_number 142 = .ok (.aload_n 0, 1) := by decide +kernel
theorem dX7_number_143 : decode cX7_number 143 = .ok (.getfield 33, 3) := by decide +kernel
theorem dX7_number_146 : decode cX7_number 146 = .ok (.getfield 213, 3) := by decide +kernel
theorem dX7_number_149 : decode cX7_number 149 = .ok (.ireturn, 1) := by decide +kernel
theorem dX7_number_150 : decode cX7_number 150 = .ok (.aload_n 0, 1) := by decide +kernel
theorem dX7_number_151 : decode cX7_number 151 = .ok (.getfield 33, 3) := by decide +kernel
theorem dX7_number_154 : decode cX7_number 154 = .ok (.getfield 172, 3) := by decide +kernel
theorem dX7_number_157 : decode cX7_number 157 = .ok (.ireturn, 1) := by decide +kernel
theorem dX7_number_158 : decode cX7_number 158 = .ok (.aload_n 0, 1) := by decide +kernel
theorem dX7_number_159 : decode cX7_number 159 = .ok (.getfield 10, 3) := by decide +kernel
theorem dX7_number_162 : decode cX7_number 162 = .ok (.getfield 169, 3) := by decide +kernel
theorem dX7_number_165 : decode cX7_number 165 = .ok (.ireturn, 1) := by decide +kernel
theorem dX7_number_166 : decode cX7_number 166 = .ok (.aload_n 0, 1) := by decide +kernel
theorem dX7_number_167 : decode cX7_number 167 = .ok (.getfield 10, 3) := by decide +kernel
theorem dX7_number_170 : decode cX7_number 170 = .ok (.getfield 158, 3) := by decide +kernel
theorem dX7_number_173 : decode cX7_number 173 = .ok (.ireturn, 1) := by decide +kernel
theorem dX7_number_174 : decode cX7_number 174 = .ok (.aload_n 0, 1) := by decide +kernel
theorem dX7_number_175 : decode cX7_number 175 = .ok (.getfield 10, 3) := by decide +kernel
theorem dX7_number_178 : decode cX7_number 178 = .ok (.getfield 72, 3) := by decide +kernel
theorem dX7_number_181 : decode cX7_number 181 = .ok (.invokevirtual 303, 3) := by decide +kernel
theorem dX7_number_184 : decode cX7_number 184 = .ok (.ireturn, 1) := by decide +kernel
theorem dX7_number_185 : decode cX7_number 185 = .ok (.aload_n 0, 1) := by decide +kernel
theorem dX7_number_186 : decode cX7_number 186 = .ok (.getfield 33, 3) := by decide +kernel
theorem dX7_number_189 : decode cX7_number 189 = .ok (.getfield 297, 3) := by decide +kernel
theorem dX7_number_192 : decode cX7_number 192 = .ok (.iconst 0, 1) := by decide +kernel
theorem dX7_number_193 : decode cX7_number 193 = .ok (.iaload, 1) := by decide +kernel
theorem dX7_number_194 : decode cX7_number 194 = .ok (.ireturn, 1) := by decide +kernel
theorem dX7_number_195 : decode cX7_number 195 = .ok (.aload_n 0, 1) := by decide +kernel
theorem dX7_number_196 : decode cX7_number 196 = .ok (.getfield 10, 3) := by decide +kernel
theorem dX7_number_199 : decode cX7_number 199 = .ok (.getfield 72, 3) := by decide +kernel
theorem dX7_number_202 : decode cX7_number 202 = .ok (.invokevirtual 176, 3) := by decide +kernel
theorem dX7_number_205 : decode cX7_number 205 = .ok (.ireturn, 1) := by decide +kernel
theorem dX7_sumOfHeats_0 : decode cX7_sumOfHeats 0 = .ok (.iconst 0, 1) := by decide +kernel
theorem dX7_sumOfHeats_1 : decode cX7_sumOfHeats 1 = .ok (.istore_n 2, 1) := by decide +kernel
theorem dX7_sumOfHeats_2 : decode cX7_sumOfHeats 2 = .ok (.iconst 1, 1) := by decide +kernel
theorem dX7_sumOfHeats_3 : decode cX7_sumOfHeats 3 = .ok (.istore_n 3, 1) := by decide +kernel
theorem dX7_sumOfHeats_4 : decode cX7_sumOfHeats 4 = .ok (.iload_n 3, 1) := by decide +kernel
theorem dX7_sumOfHeats_5 : decode cX7_sumOfHeats 5 = .ok (.aload_n 0, 1) := by decide +kernel
theorem dX7_sumOfHeats_6 : decode cX7_sumOfHeats 6 = .ok (.getfield 10, 3) := by decide +kernel
theorem dX7_sumOfHeats_9 : decode cX7_sumOfHeats 9 = .ok (.getfield 72, 3) := by decide +kernel
theorem dX7_sumOfHeats_12 : decode cX7_sumOfHeats 12 = .ok (.getfield 75, 3) := by decide +kernel
theorem dX7_sumOfHeats_15 : decode cX7_sumOfHeats 15 = .ok (.if_icmp .ge 18, 3) := by decide +kernel
theorem dX7_sumOfHeats_18 : decode cX7_sumOfHeats 18 = .ok (.iload_n 2, 1) := by decide +kernel
theorem dX7_sumOfHeats_19 : decode cX7_sumOfHeats 19 = .ok (.aload_n 0, 1) := by decide +kernel
theorem dX7_sumOfHeats_20 : decode cX7_sumOfHeats 20 = .ok (.iload_n 3, 1) := by decide +kernel
theorem dX7_sumOfHeats_21 : decode cX7_sumOfHeats 21 = .ok (.iload_n 1, 1) := by decide +kernel
theorem dX7_sumOfHeats_22 : decode cX7_sumOfHeats 22 = .ok (.invokevirtual 116, 3) := by decide +kernel
theorem dX7_sumOfHeats_25 : decode cX7_sumOfHeats 25 = .ok (.iadd, 1) := by decide +kernel
theorem dX7_sumOfHeats_26 : decode cX7_sumOfHeats 26 = .ok (.istore_n 2, 1) := by decide +kernel
theorem dX7_sumOfHeats_27 : decode cX7_sumOfHeats 27 = .ok (.iinc 3 1, 3) := by decide +kernel
theorem dX7_sumOfHeats_30 : decode cX7_sumOfHeats 30 = .ok (.goto (-26), 3) := by decide +kernel
theorem dX7_sumOfHeats_33 : decode cX7_sumOfHeats 33 = .ok (.iload_n 2, 1) := by decide +kernel
theorem dX7_sumOfHeats_34 : decode cX7_sumOfHeats 34 = .ok (.ireturn, 1) := by decide +kernel
theorem dX7_boilerFact_0 : decode cX7_boilerFact 0 = .ok (.aload_n 0, 1) := by decide +kernel
theorem dX7_boilerFact_1 : decode cX7_boilerFact 1 = .ok (.getfield 10, 3) := by decide +kernel
theorem dX7_boilerFact_4 : decode cX7_boilerFact 4 = .ok (.getfield 127, 3) := by decide +kernel
theorem dX7_boilerFact_7 : decode cX7_boilerFact 7 = .ok (.astore_n 3, 1) := by decide +kernel
theorem dX7_boilerFact_8 : decode cX7_boilerFact 8 = .ok (.iload_n 2, 1) := by decide +kernel
theorem dX7_boilerFact_9 : decode cX7_boilerFact 9 = .ok (.tableswitch 62 0 3 #[31, 38, 45, 52], 31) := by decide +kernel
theorem dX7_boilerFact_40 : decode cX7_boilerFact 40 = .ok (.aload_n 3, 1) := by decide +kernel
theorem dX7_boilerFact_41 : decode cX7_boilerFact 41 = .ok (.getfield 306, 3) := by decide +kernel
theorem dX7_boilerFact_44 : decode cX7_boilerFact 44 = .ok (.iload_n 1, 1) := by decide +kernel
theorem dX7_boilerFact_45 : decode cX7_boilerFact 45 = .ok (.iaload, 1) := by decide +kernel
theorem dX7_boilerFact_46 : decode cX7_boilerFact 46 = .ok (.ireturn, 1) := by decide +kernel
theorem dX7_boilerFact_47 : decode cX7_boilerFact 47 = .ok (.aload_n 3, 1) := by decide +kernel
theorem dX7_boilerFact_48 : decode cX7_boilerFact 48 = .ok (.getfield 309, 3) := by decide +kernel
theorem dX7_boilerFact_51 : decode cX7_boilerFact 51 = .ok (.iload_n 1, 1) := by decide +kernel
theorem dX7_boilerFact_52 : decode cX7_boilerFact 52 = .ok (.iaload, 1) := by decide +kernel
theorem dX7_boilerFact_53 : decode cX7_boilerFact 53 = .ok (.ireturn, 1) := by decide +kernel
theorem dX7_boilerFact_54 : decode cX7_boilerFact 54 = .ok (.aload_n 3, 1) := by decide +kernel
theorem dX7_boilerFact_55 : decode cX7_boilerFact 55 = .ok (.getfield 143, 3) := by decide +kernel
theorem dX7_boilerFact_58 : decode cX7_boilerFact 58 = .ok (.iload_n 1, 1) := by decide +kernel
theorem dX7_boilerFact_59 : decode cX7_boilerFact 59 = .ok (.iaload, 1) := by decide +kernel
theorem dX7_boilerFact_60 : decode cX7_boilerFact 60 = .ok (.ireturn, 1) := by decide +kernel
theorem dX7_boilerFact_61 : decode cX7_boilerFact 61 = .ok (.aload_n 0, 1) := by decide +kernel
theorem dX7_boilerFact_62 : decode cX7_boilerFact 62 = .ok (.getfield 33, 3) := by decide +kernel
theorem dX7_boilerFact_65 : decode cX7_boilerFact 65 = .ok (.getfield 312, 3) := by decide +kernel
theorem dX7_boilerFact_68 : decode cX7_boilerFact 68 = .ok (.iload_n 1, 1) := by decide +kernel
theorem dX7_boilerFact_69 : decode cX7_boilerFact 69 = .ok (.iaload, 1) := by decide +kernel
theorem dX7_boilerFact_70 : decode cX7_boilerFact 70 = .ok (.ireturn, 1) := by decide +kernel
theorem dX7_boilerFact_71 : decode cX7_boilerFact 71 = .ok (.aload_n 3, 1) := by decide +kernel
theorem dX7_boilerFact_72 : decode cX7_boilerFact 72 = .ok (.iload_n 1, 1) := by decide +kernel
theorem dX7_boilerFact_73 : decode cX7_boilerFact 73 = .ok (.invokevirtual 315, 3) := by decide +kernel
theorem dX7_boilerFact_76 : decode cX7_boilerFact 76 = .ok (.ireturn, 1) := by decide +kernel
theorem dX7_lowestSupplyForWishes_0 : decode cX7_lowestSupplyForWishes 0 = .ok (.aload_n 0, 1) := by decide +kernel
theorem dX7_lowestSupplyForWishes_1 : decode cX7_lowestSupplyForWishes 1 = .ok (.getfield 44, 3) := by decide +kernel
theorem dX7_lowestSupplyForWishes_4 : decode cX7_lowestSupplyForWishes 4 = .ok (.aload_n 0, 1) := by decide +kernel
theorem dX7_lowestSupplyForWishes_5 : decode cX7_lowestSupplyForWishes 5 = .ok (.getfield 10, 3) := by decide +kernel
theorem dX7_lowestSupplyForWishes_8 : decode cX7_lowestSupplyForWishes 8 = .ok (.getfield 72, 3) := by decide +kernel
theorem dX7_lowestSupplyForWishes_11 : decode cX7_lowestSupplyForWishes 11 = .ok (.invokevirtual 318, 3) := by decide +kernel
theorem dX7_lowestSupplyForWishes_14 : decode cX7_lowestSupplyForWishes 14 = .ok (.sipush 399, 3) := by decide +kernel
theorem dX7_lowestSupplyForWishes_17 : decode cX7_lowestSupplyForWishes 17 = .ok (.istore_n 1, 1) := by decide +kernel
theorem dX7_lowestSupplyForWishes_18 : decode cX7_lowestSupplyForWishes 18 = .ok (.sipush 512, 3) := by decide +kernel
theorem dX7_lowestSupplyForWishes_21 : decode cX7_lowestSupplyForWishes 21 = .ok (.istore_n 2, 1) := by decide +kernel
theorem dX7_lowestSupplyForWishes_22 : decode cX7_lowestSupplyForWishes 22 = .ok (.iload_n 2, 1) := by decide +kernel
theorem dX7_lowestSupplyForWishes_23 : decode cX7_lowestSupplyForWishes 23 = .ok (.ifCond .le 31, 3) := by decide +kernel
theorem dX7_lowestSupplyForWishes_26 : decode cX7_lowestSupplyForWishes 26 = .ok (.iload_n 1, 1) := by decide +kernel
theorem dX7_lowestSupplyForWishes_27 : decode cX7_lowestSupplyForWishes 27 = .ok (.iload_n 2, 1) := by decide +kernel
theorem dX7_lowestSupplyForWishes_28 : decode cX7_lowestSupplyForWishes 28 = .ok (.iadd, 1) := by decide +kernel
theorem dX7_lowestSupplyForWishes_29 : decode cX7_lowestSupplyForWishes 29 = .ok (.istore_n 3, 1) := by decide +kernel
theorem dX7_lowestSupplyForWishes_30 : decode cX7_lowestSupplyForWishes 30 = .ok (.iload_n 3, 1) := by decide +kernel
theorem dX7_lowestSupplyForWishes_31 : decode cX7_lowestSupplyForWishes 31 = .ok (.sipush 1200, 3) := by decide +kernel
theorem dX7_lowestSupplyForWishes_34 : decode cX7_lowestSupplyForWishes 34 = .ok (.if_icmp .gt 13, 3) := by decide +kernel
theorem dX7_lowestSupplyForWishes_37 : decode cX7_lowestSupplyForWishes 37 = .ok (.aload_n 0, 1) := by decide +kernel
theorem dX7_lowestSupplyForWishes_38 : decode cX7_lowestSupplyForWishes 38 = .ok (.iload_n 3, 1) := by decide +kernel
theorem dX7_lowestSupplyForWishes_39 : decode cX7_lowestSupplyForWishes 39 = .ok (.invokevirtual 321, 3) := by decide +kernel
theorem dX7_lowestSupplyForWishes_42 : decode cX7_lowestSupplyForWishes 42 = .ok (.ifCond .ne 5, 3) := by decide +kernel
theorem dX7_lowestSupplyForWishes_45 : decode cX7_lowestSupplyForWishes 45 = .ok (.iload_n 3, 1) := by decide +kernel
theorem dX7_lowestSupplyForWishes_46 : decode cX7_lowestSupplyForWishes 46 = .ok (.istore_n 1, 1) := by decide +kernel
theorem dX7_lowestSupplyForWishes_47 : decode cX7_lowestSupplyForWishes 47 = .ok (.iload_n 2, 1) := by decide +kernel
theorem dX7_lowestSupplyForWishes_48 : decode cX7_lowestSupplyForWishes 48 = .ok (.iconst 2, 1) := by decide +kernel
theorem dX7_lowestSupplyForWishes_49 : decode cX7_lowestSupplyForWishes 49 = .ok (.idiv, 1) := by decide +kernel
theorem dX7_lowestSupplyForWishes_50 : decode cX7_lowestSupplyForWishes 50 = .ok (.istore_n 2, 1) := by decide +kernel
theorem dX7_lowestSupplyForWishes_51 : decode cX7_lowestSupplyForWishes 51 = .ok (.goto (-29), 3) := by decide +kernel
theorem dX7_lowestSupplyForWishes_54 : decode cX7_lowestSupplyForWishes 54 = .ok (.iload_n 1, 1) := by decide +kernel
theorem dX7_lowestSupplyForWishes_55 : decode cX7_lowestSupplyForWishes 55 = .ok (.sipush 1200, 3) := by decide +kernel
theorem dX7_lowestSupplyForWishes_58 : decode cX7_lowestSupplyForWishes 58 = .ok (.if_icmp .ge 9, 3) := by decide +kernel
theorem dX7_lowestSupplyForWishes_61 : decode cX7_lowestSupplyForWishes 61 = .ok (.iload_n 1, 1) := by decide +kernel
theorem dX7_lowestSupplyForWishes_62 : decode cX7_lowestSupplyForWishes 62 = .ok (.iconst 1, 1) := by decide +kernel
theorem dX7_lowestSupplyForWishes_63 : decode cX7_lowestSupplyForWishes 63 = .ok (.iadd, 1) := by decide +kernel
theorem dX7_lowestSupplyForWishes_64 : decode cX7_lowestSupplyForWishes 64 = .ok (.goto 4, 3) := by decide +kernel
theorem dX7_lowestSupplyForWishes_67 : decode cX7_lowestSupplyForWishes 67 = .ok (.iconst (-1), 1) := by decide +kernel
theorem dX7_lowestSupplyForWishes_68 : decode cX7_lowestSupplyForWishes 68 = .ok (.ireturn, 1) := by decide +kernel
theorem dX7_grantsWishes_0 : decode cX7_grantsWishes 0 = .ok (.aload_n 0, 1) := by decide +kernel
theorem dX7_grantsWishes_1 : decode cX7_grantsWishes 1 = .ok (.getfield 44, 3) := by decide +kernel
theorem dX7_grantsWishes_4 : decode cX7_grantsWishes 4 = .ok (.aload_n 0, 1) := by decide +kernel
theorem dX7_grantsWishes_5 : decode cX7_grantsWishes 5 = .ok (.getfield 10, 3) := by decide +kernel
theorem dX7_grantsWishes_8 : decode cX7_grantsWishes 8 = .ok (.iload_n 1, 1) := by decide +kernel
theorem dX7_grantsWishes_9 : decode cX7_grantsWishes 9 = .ok (.invokevirtual 325, 3) := by decide +kernel
theorem dX7_grantsWishes_12 : decode cX7_grantsWishes 12 = .ok (.iconst 1, 1) := by decide +kernel
theorem dX7_grantsWishes_13 : decode cX7_grantsWishes 13 = .ok (.istore_n 2, 1) := by decide +kernel
theorem dX7_grantsWishes_14 : decode cX7_grantsWishes 14 = .ok (.iload_n 2, 1) := by decide +kernel
theorem dX7_grantsWishes_15 : decode cX7_grantsWishes 15 = .ok (.aload_n 0, 1) := by decide +kernel
theorem dX7_grantsWishes_16 : decode cX7_grantsWishes 16 = .ok (.getfield 10, 3) := by decide +kernel
theorem dX7_grantsWishes_19 : decode cX7_grantsWishes 19 = .ok (.getfield 72, 3) := by decide +kernel
theorem dX7_grantsWishes_22 : decode cX7_grantsWishes 22 = .ok (.getfield 75, 3) := by decide +kernel
theorem dX7_grantsWishes_25 : decode cX7_grantsWishes 25 = .ok (.if_icmp .ge 29, 3) := by decide +kernel
theorem dX7_grantsWishes_28 : decode cX7_grantsWishes 28 = .ok (.aload_n 0, 1) := by decide +kernel
theorem dX7_grantsWishes_29 : decode cX7_grantsWishes 29 = .ok (.getfield 44, 3) := by decide +kernel
theorem dX7_grantsWishes_32 : decode cX7_grantsWishes 32 = .ok (.getfield 278, 3) := by decide +kernel
theorem dX7_grantsWishes_35 : decode cX7_grantsWishes 35 = .ok (.iload_n 2, 1) := by decide +kernel
theorem dX7_grantsWishes_36 : decode cX7_grantsWishes 36 = .ok (.iaload, 1) := by decide +kernel
theorem dX7_grantsWishes_37 : decode cX7_grantsWishes 37 = .ok (.aload_n 0, 1) := by decide +kernel
theorem dX7_grantsWishes_38 : decode cX7_grantsWishes 38 = .ok (.getfield 57, 3) := by decide +kernel
theorem dX7_grantsWishes_41 : decode cX7_grantsWishes 41 = .ok (.iload_n 2, 1) := by decide +kernel
theorem dX7_grantsWishes_42 : decode cX7_grantsWishes 42 = .ok (.iaload, 1) := by decide +kernel
theorem dX7_grantsWishes_43 : decode cX7_grantsWishes 43 = .ok (.if_icmp .ge 5, 3) := by decide +kernel
theorem dX7_grantsWishes_46 : decode cX7_grantsWishes 46 = .ok (.iconst 0, 1) := by decide +kernel
theorem dX7_grantsWishes_47 : decode cX7_grantsWishes 47 = .ok (.ireturn, 1) := by decide +kernel
theorem dX7_grantsWishes_48 : decode cX7_grantsWishes 48 = .ok (.iinc 2 1, 3) := by decide +kernel
theorem dX7_grantsWishes_51 : decode cX7_grantsWishes 51 = .ok (.goto (-37), 3) := by decide +kernel
theorem dX7_grantsWishes_54 : decode cX7_grantsWishes 54 = .ok (.iconst 1, 1) := by decide +kernel
theorem dX7_grantsWishes_55 : decode cX7_grantsWishes 55 = .ok (.ireturn, 1) := by decide +kernel
theorem dX7_fold_0 : decode cX7_fold 0 = .ok (.ldc2_w 328, 3) := by decide +kernel
theorem dX7_fold_3 : decode cX7_fold 3 = .ok (.lload_n 0, 1) := by decide +kernel
theorem dX7_fold_4 : decode cX7_fold 4 = .ok (.lmul, 1) := by decide +kernel
theorem dX7_fold_5 : decode cX7_fold 5 = .ok (.lload_n 2, 1) := by decide +kernel
theorem dX7_fold_6 : decode cX7_fold 6 = .ok (.ladd, 1) := by decide +kernel
theorem dX7_fold_7 : decode cX7_fold 7 = .ok (.lreturn, 1) := by decide +kernel
theorem dX7_foldNodes_0 : decode cX7_foldNodes 0 = .ok (.lload_n 1, 1) := by decide +kernel
theorem dX7_foldNodes_1 : decode cX7_foldNodes 1 = .ok (.lstore_n 3, 1) := by decide +kernel
theorem dX7_foldNodes_2 : decode cX7_foldNodes 2 = .ok (.iconst 0, 1) := by decide +kernel
theorem dX7_foldNodes_3 : decode cX7_foldNodes 3 = .ok (.istore 5, 2) := by decide +kernel
theorem dX7_foldNodes_5 : decode cX7_foldNodes 5 = .ok (.iload 5, 2) := by decide +kernel
theorem dX7_foldNodes_7 : decode cX7_foldNodes 7 = .ok (.aload_n 0, 1) := by decide +kernel
theorem dX7_foldNodes_8 : decode cX7_foldNodes 8 = .ok (.getfield 10, 3) := by decide +kernel
theorem dX7_foldNodes_11 : decode cX7_foldNodes 11 = .ok (.getfield 72, 3) := by decide +kernel
theorem dX7_foldNodes_14 : decode cX7_foldNodes 14 = .ok (.getfield 75, 3) := by decide +kernel
theorem dX7_foldNodes_17 : decode cX7_foldNodes 17 = .ok (.if_icmp .ge 84, 3) := by decide +kernel
theorem dX7_foldNodes_20 : decode cX7_foldNodes 20 = .ok (.iconst 0, 1) := by decide +kernel
theorem dX7_foldNodes_21 : decode cX7_foldNodes 21 = .ok (.istore 6, 2) := by decide +kernel
theorem dX7_foldNodes_23 : decode cX7_foldNodes 23 = .ok (.iload 6, 2) := by decide +kernel
theorem dX7_foldNodes_25 : decode cX7_foldNodes 25 = .ok (.bipush 11, 2) := by decide +kernel
theorem dX7_foldNodes_27 : decode cX7_foldNodes 27 = .ok (.if_icmp .gt 23, 3) := by decide +kernel
theorem dX7_foldNodes_30 : decode cX7_foldNodes 30 = .ok (.lload_n 3, 1) := by decide +kernel
theorem dX7_foldNodes_31 : decode cX7_foldNodes 31 = .ok (.aload_n 0, 1) := by decide +kernel
theorem dX7_foldNodes_32 : decode cX7_foldNodes 32 = .ok (.iload 5, 2) := by decide +kernel
theorem dX7_foldNodes_34 : decode cX7_foldNodes 34 = .ok (.iload 6, 2) := by decide +kernel
theorem dX7_foldNodes_36 : decode cX7_foldNodes 36 = .ok (.invokevirtual 112, 3) := by decide +kernel
theorem dX7_foldNodes_39 : decode cX7_foldNodes 39 = .ok (.i2l, 1) := by decide +kernel
theorem dX7_foldNodes_40 : decode cX7_foldNodes 40 = .ok (.invokestatic 242, 3) := by decide +kernel
theorem dX7_foldNodes_43 : decode cX7_foldNodes 43 = .ok (.lstore_n 3, 1) := by decide +kernel
theorem dX7_foldNodes_44 : decode cX7_foldNodes 44 = .ok (.iinc 6 1, 3) := by decide +kernel
theorem dX7_foldNodes_47 : decode cX7_foldNodes 47 = .ok (.goto (-24), 3) := by decide +kernel
theorem dX7_foldNodes_50 : decode cX7_foldNodes 50 = .ok (.lload_n 3, 1) := by decide +kernel
theorem dX7_foldNodes_51 : decode cX7_foldNodes 51 = .ok (.aload_n 0, 1) := by decide +kernel
theorem dX7_foldNodes_52 : decode cX7_foldNodes 52 = .ok (.getfield 40, 3) := by decide +kernel
theorem dX7_foldNodes_55 : decode cX7_foldNodes 55 = .ok (.iload 5, 2) := by decide +kernel
theorem dX7_foldNodes_57 : decode cX7_foldNodes 57 = .ok (.invokevirtual 180, 3) := by decide +kernel
theorem dX7_foldNodes_60 : decode cX7_foldNodes 60 = .ok (.i2l, 1) := by decide +kernel
theorem dX7_foldNodes_61 : decode cX7_foldNodes 61 = .ok (.invokestatic 242, 3) := by decide +kernel
theorem dX7_foldNodes_64 : decode cX7_foldNodes 64 = .ok (.lstore_n 3, 1) := by decide +kernel
theorem dX7_foldNodes_65 : decode cX7_foldNodes 65 = .ok (.lload_n 3, 1) := by decide +kernel
theorem dX7_foldNodes_66 : decode cX7_foldNodes 66 = .ok (.aload_n 0, 1) := by decide +kernel
theorem dX7_foldNodes_67 : decode cX7_foldNodes 67 = .ok (.getfield 40, 3) := by decide +kernel
theorem dX7_foldNodes_70 : decode cX7_foldNodes 70 = .ok (.iload 5, 2) := by decide +kernel
theorem dX7_foldNodes_72 : decode cX7_foldNodes 72 = .ok (.invokevirtual 183, 3) := by decide +kernel
theorem dX7_foldNodes_75 : decode cX7_foldNodes 75 = .ok (.i2l, 1) := by decide +kernel
theorem dX7_foldNodes_76 : decode cX7_foldNodes 76 = .ok (.invokestatic 242, 3) := by decide +kernel
theorem dX7_foldNodes_79 : decode cX7_foldNodes 79 = .ok (.lstore_n 3, 1) := by decide +kernel
theorem dX7_foldNodes_80 : decode cX7_foldNodes 80 = .ok (.lload_n 3, 1) := by decide +kernel
theorem dX7_foldNodes_81 : decode cX7_foldNodes 81 = .ok (.aload_n 0, 1) := by decide +kernel
theorem dX7_foldNodes_82 : decode cX7_foldNodes 82 = .ok (.getfield 40, 3) := by decide +kernel
theorem dX7_foldNodes_85 : decode cX7_foldNodes 85 = .ok (.iload 5, 2) := by decide +kernel
theorem dX7_foldNodes_87 : decode cX7_foldNodes 87 = .ok (.invokevirtual 189, 3) := by decide +kernel
theorem dX7_foldNodes_90 : decode cX7_foldNodes 90 = .ok (.i2l, 1) := by decide +kernel
theorem dX7_foldNodes_91 : decode cX7_foldNodes 91 = .ok (.invokestatic 242, 3) := by decide +kernel
theorem dX7_foldNodes_94 : decode cX7_foldNodes 94 = .ok (.lstore_n 3, 1) := by decide +kernel
theorem dX7_foldNodes_95 : decode cX7_foldNodes 95 = .ok (.iinc 5 1, 3) := by decide +kernel
theorem dX7_foldNodes_98 : decode cX7_foldNodes 98 = .ok (.goto (-93), 3) := by decide +kernel
theorem dX7_foldNodes_101 : decode cX7_foldNodes 101 = .ok (.lload_n 3, 1) := by decide +kernel
theorem dX7_foldNodes_102 : decode cX7_foldNodes 102 = .ok (.lreturn, 1) := by decide +kernel
theorem dX7_foldHeats_0 : decode cX7_foldHeats 0 = .ok (.lload_n 1, 1) := by decide +kernel
theorem dX7_foldHeats_1 : decode cX7_foldHeats 1 = .ok (.lstore_n 3, 1) := by decide +kernel
theorem dX7_foldHeats_2 : decode cX7_foldHeats 2 = .ok (.iconst 1, 1) := by decide +kernel
theorem dX7_foldHeats_3 : decode cX7_foldHeats 3 = .ok (.istore 5, 2) := by decide +kernel
theorem dX7_foldHeats_5 : decode cX7_foldHeats 5 = .ok (.iload 5, 2) := by decide +kernel
theorem dX7_foldHeats_7 : decode cX7_foldHeats 7 = .ok (.aload_n 0, 1) := by decide +kernel
theorem dX7_foldHeats_8 : decode cX7_foldHeats 8 = .ok (.getfield 10, 3) := by decide +kernel
theorem dX7_foldHeats_11 : decode cX7_foldHeats 11 = .ok (.getfield 72, 3) := by decide +kernel
theorem dX7_foldHeats_14 : decode cX7_foldHeats 14 = .ok (.getfield 75, 3) := by decide +kernel
theorem dX7_foldHeats_17 : decode cX7_foldHeats 17 = .ok (.if_icmp .ge 38, 3) := by decide +kernel
theorem dX7_foldHeats_20 : decode cX7_foldHeats 20 = .ok (.iconst 0, 1) := by decide +kernel
theorem dX7_foldHeats_21 : decode cX7_foldHeats 21 = .ok (.istore 6, 2) := by decide +kernel
theorem dX7_foldHeats_23 : decode cX7_foldHeats 23 = .ok (.iload 6, 2) := by decide +kernel
theorem dX7_foldHeats_25 : decode cX7_foldHeats 25 = .ok (.iconst 5, 1) := by decide +kernel
theorem dX7_foldHeats_26 : decode cX7_foldHeats 26 = .ok (.if_icmp .gt 23, 3) := by decide +kernel
theorem dX7_foldHeats_29 : decode cX7_foldHeats 29 = .ok (.lload_n 3, 1) := by decide +kernel
theorem dX7_foldHeats_30 : decode cX7_foldHeats 30 = .ok (.aload_n 0, 1) := by decide +kernel
theorem dX7_foldHeats_31 : decode cX7_foldHeats 31 = .ok (.iload 5, 2) := by decide +kernel
theorem dX7_foldHeats_33 : decode cX7_foldHeats 33 = .ok (.iload 6, 2) := by decide +kernel
theorem dX7_foldHeats_35 : decode cX7_foldHeats 35 = .ok (.invokevirtual 116, 3) := by decide +kernel
theorem dX7_foldHeats_38 : decode cX7_foldHeats 38 = .ok (.i2l, 1) := by decide +kernel
theorem dX7_foldHeats_39 : decode cX7_foldHeats 39 = .ok (.invokestatic 242, 3) := by decide +kernel
theorem dX7_foldHeats_42 : decode cX7_foldHeats 42 = .ok (.lstore_n 3, 1) := by decide +kernel
theorem dX7_foldHeats_43 : decode cX7_foldHeats 43 = .ok (.iinc 6 1, 3) := by decide +kernel
theorem dX7_foldHeats_46 : decode cX7_foldHeats 46 = .ok (.goto (-23), 3) := by decide +kernel
theorem dX7_foldHeats_49 : decode cX7_foldHeats 49 = .ok (.iinc 5 1, 3) := by decide +kernel
theorem dX7_foldHeats_52 : decode cX7_foldHeats 52 = .ok (.goto (-47), 3) := by decide +kernel
theorem dX7_foldHeats_55 : decode cX7_foldHeats 55 = .ok (.lload_n 3, 1) := by decide +kernel
theorem dX7_foldHeats_56 : decode cX7_foldHeats 56 = .ok (.lreturn, 1) := by decide +kernel
theorem dX7_foldBoilers_0 : decode cX7_foldBoilers 0 = .ok (.lload_n 1, 1) := by decide +kernel
theorem dX7_foldBoilers_1 : decode cX7_foldBoilers 1 = .ok (.lstore_n 3, 1) := by decide +kernel
theorem dX7_foldBoilers_2 : decode cX7_foldBoilers 2 = .ok (.iconst 0, 1) := by decide +kernel
theorem dX7_foldBoilers_3 : decode cX7_foldBoilers 3 = .ok (.istore 5, 2) := by decide +kernel
theorem dX7_foldBoilers_5 : decode cX7_foldBoilers 5 = .ok (.iload 5, 2) := by decide +kernel
theorem dX7_foldBoilers_7 : decode cX7_foldBoilers 7 = .ok (.aload_n 0, 1) := by decide +kernel
theorem dX7_foldBoilers_8 : decode cX7_foldBoilers 8 = .ok (.getfield 10, 3) := by decide +kernel
theorem dX7_foldBoilers_11 : decode cX7_foldBoilers 11 = .ok (.getfield 127, 3) := by decide +kernel
theorem dX7_foldBoilers_14 : decode cX7_foldBoilers 14 = .ok (.getfield 131, 3) := by decide +kernel
theorem dX7_foldBoilers_17 : decode cX7_foldBoilers 17 = .ok (.if_icmp .ge 38, 3) := by decide +kernel
theorem dX7_foldBoilers_20 : decode cX7_foldBoilers 20 = .ok (.iconst 0, 1) := by decide +kernel
theorem dX7_foldBoilers_21 : decode cX7_foldBoilers 21 = .ok (.istore 6, 2) := by decide +kernel
theorem dX7_foldBoilers_23 : decode cX7_foldBoilers 23 = .ok (.iload 6, 2) := by decide +kernel
theorem dX7_foldBoilers_25 : decode cX7_foldBoilers 25 = .ok (.iconst 4, 1) := by decide +kernel
theorem dX7_foldBoilers_26 : decode cX7_foldBoilers 26 = .ok (.if_icmp .gt 23, 3) := by decide +kernel
theorem dX7_foldBoilers_29 : decode cX7_foldBoilers 29 = .ok (.lload_n 3, 1) := by decide +kernel
theorem dX7_foldBoilers_30 : decode cX7_foldBoilers 30 = .ok (.aload_n 0, 1) := by decide +kernel
theorem dX7_foldBoilers_31 : decode cX7_foldBoilers 31 = .ok (.iload 5, 2) := by decide +kernel
theorem dX7_foldBoilers_33 : decode cX7_foldBoilers 33 = .ok (.iload 6, 2) := by decide +kernel
theorem dX7_foldBoilers_35 : decode cX7_foldBoilers 35 = .ok (.invokevirtual 146, 3) := by decide +kernel
theorem dX7_foldBoilers_38 : decode cX7_foldBoilers 38 = .ok (.i2l, 1) := by decide +kernel
theorem dX7_foldBoilers_39 : decode cX7_foldBoilers 39 = .ok (.invokestatic 242, 3) := by decide +kernel
theorem dX7_foldBoilers_42 : decode cX7_foldBoilers 42 = .ok (.lstore_n 3, 1) := by decide +kernel
theorem dX7_foldBoilers_43 : decode cX7_foldBoilers 43 = .ok (.iinc 6 1, 3) := by decide +kernel
theorem dX7_foldBoilers_46 : decode cX7_foldBoilers 46 = .ok (.goto (-23), 3) := by decide +kernel
theorem dX7_foldBoilers_49 : decode cX7_foldBoilers 49 = .ok (.iinc 5 1, 3) := by decide +kernel
theorem dX7_foldBoilers_52 : decode cX7_foldBoilers 52 = .ok (.goto (-47), 3) := by decide +kernel
theorem dX7_foldBoilers_55 : decode cX7_foldBoilers 55 = .ok (.lload_n 3, 1) := by decide +kernel
theorem dX7_foldBoilers_56 : decode cX7_foldBoilers 56 = .ok (.lreturn, 1) := by decide +kernel
theorem dX7_copyRow_0 : decode cX7_copyRow 0 = .ok (.aload_n 0, 1) := by decide +kernel
theorem dX7_copyRow_1 : decode cX7_copyRow 1 = .ok (.iconst 0, 1) := by decide +kernel
theorem dX7_copyRow_2 : decode cX7_copyRow 2 = .ok (.aload_n 1, 1) := by decide +kernel
theorem dX7_copyRow_3 : decode cX7_copyRow 3 = .ok (.iconst 0, 1) := by decide +kernel
theorem dX7_copyRow_4 : decode cX7_copyRow 4 = .ok (.aload_n 0, 1) := by decide +kernel
theorem dX7_copyRow_5 : decode cX7_copyRow 5 = .ok (.arraylength, 1) := by decide +kernel
theorem dX7_copyRow_6 : decode cX7_copyRow 6 = .ok (.aload_n 1, 1) := by decide +kernel
theorem dX7_copyRow_7 : decode cX7_copyRow 7 = .ok (.arraylength, 1) := by decide +kernel
theorem dX7_copyRow_8 : decode cX7_copyRow 8 = .ok (.invokestatic 330, 3) := by decide +kernel
theorem dX7_copyRow_11 : decode cX7_copyRow 11 = .ok (.invokestatic 335, 3) := by decide +kernel
theorem dX7_copyRow_14 : decode cX7_copyRow 14 = .ok (.return_, 1) := by decide +kernel
theorem dX8_init_0 : decode cX8_init 0 = .ok (.aload_n 0, 1) := by decide +kernel
theorem dX8_init_1 : decode cX8_init 1 = .ok (.invokespecial 1, 3) := by decide +kernel
theorem dX8_init_4 : decode cX8_init 4 = .ok (.aload_n 0, 1) := by decide +kernel
theorem dX8_init_5 : decode cX8_init 5 = .ok (.sipush 149, 3) := by decide +kernel
theorem dX8_init_8 : decode cX8_init 8 = .ok (.newarray .int, 2) := by decide +kernel
theorem dX8_init_10 : decode cX8_init 10 = .ok (.putfield 7, 3) := by decide +kernel
theorem dX8_init_13 : decode cX8_init 13 = .ok (.aload_n 0, 1) := by decide +kernel
theorem dX8_init_14 : decode cX8_init 14 = .ok (.sipush 596, 3) := by decide +kernel
theorem dX8_init_17 : decode cX8_init 17 = .ok (.newarray .int, 2) := by decide +kernel
theorem dX8_init_19 : decode cX8_init 19 = .ok (.putfield 13, 3) := by decide +kernel
theorem dX8_init_22 : decode cX8_init 22 = .ok (.aload_n 0, 1) := by decide +kernel
theorem dX8_init_23 : decode cX8_init 23 = .ok (.sipush 149, 3) := by decide +kernel
theorem dX8_init_26 : decode cX8_init 26 = .ok (.newarray .int, 2) := by decide +kernel
theorem dX8_init_28 : decode cX8_init 28 = .ok (.putfield 16, 3) := by decide +kernel
theorem dX8_init_31 : decode cX8_init 31 = .ok (.aload_n 0, 1) := by decide +kernel
theorem dX8_init_32 : decode cX8_init 32 = .ok (.sipush 180, 3) := by decide +kernel
theorem dX8_init_35 : decode cX8_init 35 = .ok (.newarray .int, 2) := by decide +kernel
theorem dX8_init_37 : decode cX8_init 37 = .ok (.putfield 19, 3) := by decide +kernel
theorem dX8_init_40 : decode cX8_init 40 = .ok (.aload_n 0, 1) := by decide +kernel
theorem dX8_init_41 : decode cX8_init 41 = .ok (.bipush 16, 2) := by decide +kernel
theorem dX8_init_43 : decode cX8_init 43 = .ok (.newarray .int, 2) := by decide +kernel
theorem dX8_init_45 : decode cX8_init 45 = .ok (.putfield 22, 3) := by decide +kernel
theorem dX8_init_48 : decode cX8_init 48 = .ok (.aload_n 0, 1) := by decide +kernel
theorem dX8_init_49 : decode cX8_init 49 = .ok (.bipush 16, 2) := by decide +kernel
theorem dX8_init_51 : decode cX8_init 51 = .ok (.newarray .int, 2) := by decide +kernel
theorem dX8_init_53 : decode cX8_init 53 = .ok (.putfield 25, 3) := by decide +kernel
theorem dX8_init_56 : decode cX8_init 56 = .ok (.aload_n 0, 1) := by decide +kernel
theorem dX8_init_57 : decode cX8_init 57 = .ok (.bipush 16, 2) := by decide +kernel
theorem dX8_init_59 : decode cX8_init 59 = .ok (.newarray .int, 2) := by decide +kernel
theorem dX8_init_61 : decode cX8_init 61 = .ok (.putfield 28, 3) := by decide +kernel
theorem dX8_init_64 : decode cX8_init 64 = .ok (.aload_n 0, 1) := by decide +kernel
theorem dX8_init_65 : decode cX8_init 65 = .ok (.bipush 16, 2) := by decide +kernel
theorem dX8_init_67 : decode cX8_init 67 = .ok (.newarray .int, 2) := by decide +kernel
theorem dX8_init_69 : decode cX8_init 69 = .ok (.putfield 31, 3) := by decide +kernel
theorem dX8_init_72 : decode cX8_init 72 = .ok (.aload_n 0, 1) := by decide +kernel
theorem dX8_init_73 : decode cX8_init 73 = .ok (.iconst 4, 1) := by decide +kernel
theorem dX8_init_74 : decode cX8_init 74 = .ok (.newarray .int, 2) := by decide +kernel
theorem dX8_init_76 : decode cX8_init 76 = .ok (.putfield 34, 3) := by decide +kernel
theorem dX8_init_79 : decode cX8_init 79 = .ok (.aload_n 0, 1) := by decide +kernel
theorem dX8_init_80 : decode cX8_init 80 = .ok (.getfield 7, 3) := by decide +kernel
theorem dX8_init_83 : decode cX8_init 83 = .ok (.iconst 0, 1) := by decide +kernel
theorem dX8_init_84 : decode cX8_init 84 = .ok (.sipush 800, 3) := by decide +kernel
theorem dX8_init_87 : decode cX8_init 87 = .ok (.iastore, 1) := by decide +kernel
theorem dX8_init_88 : decode cX8_init 88 = .ok (.aload_n 0, 1) := by decide +kernel
theorem dX8_init_89 : decode cX8_init 89 = .ok (.getfield 7, 3) := by decide +kernel
theorem dX8_init_92 : decode cX8_init 92 = .ok (.iconst 1, 1) := by decide +kernel
theorem dX8_init_93 : decode cX8_init 93 = .ok (.bipush 80, 2) := by decide +kernel
theorem dX8_init_95 : decode cX8_init 95 = .ok (.iastore, 1) := by decide +kernel
theorem dX8_init_96 : decode cX8_init 96 = .ok (.aload_n 0, 1) := by decide +kernel
theorem dX8_init_97 : decode cX8_init 97 = .ok (.getfield 7, 3) := by decide +kernel
theorem dX8_init_100 : decode cX8_init 100 = .ok (.iconst 2, 1) := by decide +kernel
theorem dX8_init_101 : decode cX8_init 101 = .ok (.bipush 50, 2) := by decide +kernel
theorem dX8_init_103 : decode cX8_init 103 = .ok (.iastore, 1) := by decide +kernel
theorem dX8_init_104 : decode cX8_init 104 = .ok (.aload_n 0, 1) := by decide +kernel
theorem dX8_init_105 : decode cX8_init 105 = .ok (.getfield 7, 3) := by decide +kernel
theorem dX8_init_108 : decode cX8_init 108 = .ok (.iconst 3, 1) := by decide +kernel
theorem dX8_init_109 : decode cX8_init 109 = .ok (.sipush 400, 3) := by decide +kernel
theorem dX8_init_112 : decode cX8_init 112 = .ok (.iastore, 1) := by decide +kernel
theorem dX8_init_113 : decode cX8_init 113 = .ok (.aload_n 0, 1) := by decide +kernel
theorem dX8_init_114 : decode cX8_init 114 = .ok (.getfield 7, 3) := by decide +kernel
theorem dX8_init_117 : decode cX8_init 117 = .ok (.iconst 4, 1) := by decide +kernel
theorem dX8_init_118 : decode cX8_init 118 = .ok (.bipush 10, 2) := by decide +kernel
theorem dX8_init_120 : decode cX8_init 120 = .ok (.iastore, 1) := by decide +kernel
theorem dX8_init_121 : decode cX8_init 121 = .ok (.aload_n 0, 1) := by decide +kernel
theorem dX8_init_122 : decode cX8_init 122 = .ok (.getfield 7, 3) := by decide +kernel
theorem dX8_init_125 : decode cX8_init 125 = .ok (.iconst 5, 1) := by decide +kernel
theorem dX8_init_126 : decode cX8_init 126 = .ok (.iconst 1, 1) := by decide +kernel
theorem dX8_init_127 : decode cX8_init 127 = .ok (.iastore, 1) := by decide +kernel
theorem dX8_init_128 : decode cX8_init 128 = .ok (.aload_n 0, 1) := by decide +kernel
theorem dX8_init_129 : decode cX8_init 129 = .ok (.getfield 7, 3) := by decide +kernel
theorem dX8_init_132 : decode cX8_init 132 = .ok (.bipush 9, 2) := by decide +kernel
theorem dX8_init_134 : decode cX8_init 134 = .ok (.iconst (-1), 1) := by decide +kernel
theorem dX8_init_135 : decode cX8_init 135 = .ok (.iastore, 1) := by decide +kernel
theorem dX8_init_136 : decode cX8_init 136 = .ok (.return_, 1) := by decide +kernel
theorem dX8_thrown_0 : decode cX8_thrown 0 = .ok (.aload_n 0, 1) := by decide +kernel
theorem dX8_thrown_1 : decode cX8_thrown 1 = .ok (.getfield 37, 3) := by decide +kernel
theorem dX8_thrown_4 : decode cX8_thrown 4 = .ok (.ireturn, 1) := by decide +kernel
theorem dX8_in_0 : decode cX8_in 0 = .ok (.iload_n 0, 1) := by decide +kernel
theorem dX8_in_1 : decode cX8_in 1 = .ok (.iload_n 1, 1) := by decide +kernel
theorem dX8_in_2 : decode cX8_in 2 = .ok (.if_icmp .lt 12, 3) := by decide +kernel
theorem dX8_in_5 : decode cX8_in 5 = .ok (.iload_n 0, 1) := by decide +kernel
theorem dX8_in_6 : decode cX8_in 6 = .ok (.iload_n 2, 1) := by decide +kernel
theorem dX8_in_7 : decode cX8_in 7 = .ok (.if_icmp .gt 7, 3) := by decide +kernel
theorem dX8_in_10 : decode cX8_in 10 = .ok (.iconst 1, 1) := by decide +kernel
theorem dX8_in_11 : decode cX8_in 11 = .ok (.goto 4, 3) := by decide +kernel
theorem dX8_in_14 : decode cX8_in 14 = .ok (.iconst 0, 1) := by decide +kernel
theorem dX8_in_15 : decode cX8_in 15 = .ok (.ireturn, 1) := by decide +kernel
theorem dX8_fails_0 : decode cX8_fails 0 = .ok (.aload_n 0, 1) := by decide +kernel
theorem dX8_fails_1 : decode cX8_fails 1 = .ok (.iload_n 1, 1) := by decide +kernel
theorem dX8_fails_2 : decode cX8_fails 2 = .ok (.putfield 37, 3) := by decide +kernel
theorem dX8_fails_5 : decode cX8_fails 5 = .ok (.iconst 0, 1) := by decide +kernel
theorem dX8_fails_6 : decode cX8_fails 6 = .ok (.ireturn, 1) := by decide +kernel
theorem dX8_tells_0 : decode cX8_tells 0 = .ok (.aload_n 0, 1) := by decide +kernel
theorem dX8_tells_1 : decode cX8_tells 1 = .ok (.iconst 0, 1) := by decide +kernel
theorem dX8_tells_2 : decode cX8_tells 2 = .ok (.putfield 37, 3) := by decide +kernel
theorem dX8_tells_5 : decode cX8_tells 5 = .ok (.iload_n 1, 1) := by decide +kernel
theorem dX8_tells_6 : decode cX8_tells 6 = .ok (.ireturn, 1) := by decide +kernel
theorem dX8_hold_0 : decode cX8_hold 0 = .ok (.iconst 0, 1) := by decide +kernel
theorem dX8_hold_1 : decode cX8_hold 1 = .ok (.istore_n 1, 1) := by decide +kernel
theorem dX8_hold_2 : decode cX8_hold 2 = .ok (.iload_n 1, 1) := by decide +kernel
theorem dX8_hold_3 : decode cX8_hold 3 = .ok (.sipush 149, 3) := by decide +kernel
theorem dX8_hold_6 : decode cX8_hold 6 = .ok (.if_icmp .ge 21, 3) := by decide +kernel
theorem dX8_hold_9 : decode cX8_hold 9 = .ok (.aload_n 0, 1) := by decide +kernel
theorem dX8_hold_10 : decode cX8_hold 10 = .ok (.getfield 16, 3) := by decide +kernel
theorem dX8_hold_13 : decode cX8_hold 13 = .ok (.iload_n 1, 1) := by decide +kernel
theorem dX8_hold_14 : decode cX8_hold 14 = .ok (.aload_n 0, 1) := by decide +kernel
theorem dX8_hold_15 : decode cX8_hold 15 = .ok (.getfield 7, 3) := by decide +kernel
theorem dX8_hold_18 : decode cX8_hold 18 = .ok (.iload_n 1, 1) := by decide +kernel
theorem dX8_hold_19 : decode cX8_hold 19 = .ok (.iaload, 1) := by decide +kernel
theorem dX8_hold_20 : decode cX8_hold 20 = .ok (.iastore, 1) := by decide +kernel
theorem dX8_hold_21 : decode cX8_hold 21 = .ok (.iinc 1 1, 3) := by decide +kernel
theorem dX8_hold_24 : decode cX8_hold 24 = .ok (.goto (-22), 3) := by decide +kernel
theorem dX8_hold_27 : decode cX8_hold 27 = .ok (.return_, 1) := by decide +kernel
theorem dX8_ends_0 : decode cX8_ends 0 = .ok (.aload_n 0, 1) := by decide +kernel
theorem dX8_ends_1 : decode cX8_ends 1 = .ok (.getfield 41, 3) := by decide +kernel
theorem dX8_ends_4 : decode cX8_ends 4 = .ok (.iconst 4, 1) := by decide +kernel
theorem dX8_ends_5 : decode cX8_ends 5 = .ok (.if_icmp .ne 44, 3) := by decide +kernel
theorem dX8_ends_8 : decode cX8_ends 8 = .ok (.iconst 0, 1) := by decide +kernel
theorem dX8_ends_9 : decode cX8_ends 9 = .ok (.istore_n 2, 1) := by decide +kernel
theorem dX8_ends_10 : decode cX8_ends 10 = .ok (.iload_n 2, 1) := by decide +kernel
theorem dX8_ends_11 : decode cX8_ends 11 = .ok (.sipush 447, 3) := by decide +kernel
theorem dX8_ends_14 : decode cX8_ends 14 = .ok (.if_icmp .ge 25, 3) := by decide +kernel
theorem dX8_ends_17 : decode cX8_ends 17 = .ok (.aload_n 0, 1) := by decide +kernel
theorem dX8_ends_18 : decode cX8_ends 18 = .ok (.getfield 13, 3) := by decide +kernel
theorem dX8_ends_21 : decode cX8_ends 21 = .ok (.iload_n 2, 1) := by decide +kernel
theorem dX8_ends_22 : decode cX8_ends 22 = .ok (.aload_n 0, 1) := by decide +kernel
theorem dX8_ends_23 : decode cX8_ends 23 = .ok (.getfield 13, 3) := by decide +kernel
theorem dX8_ends_26 : decode cX8_ends 26 = .ok (.iload_n 2, 1) := by decide +kernel
theorem dX8_ends_27 : decode cX8_ends 27 = .ok (.sipush 149, 3) := by decide +kernel
theorem dX8_ends_30 : decode cX8_ends 30 = .ok (.iadd, 1) := by decide +kernel
theorem dX8_ends_31 : decode cX8_ends 31 = .ok (.iaload, 1) := by decide +kernel
theorem dX8_ends_32 : decode cX8_ends 32 = .ok (.iastore, 1) := by decide +kernel
theorem dX8_ends_33 : decode cX8_ends 33 = .ok (.iinc 2 1, 3) := by decide +kernel
theorem dX8_ends_36 : decode cX8_ends 36 = .ok (.goto (-26), 3) := by decide +kernel
theorem dX8_ends_39 : decode cX8_ends 39 = .ok (.aload_n 0, 1) := by decide +kernel
theorem dX8_ends_40 : decode cX8_ends 40 = .ok (.dup, 1) := by decide +kernel
theorem dX8_ends_41 : decode cX8_ends 41 = .ok (.getfield 41, 3) := by decide +kernel
theorem dX8_ends_44 : decode cX8_ends 44 = .ok (.iconst 1, 1) := by decide +kernel
theorem dX8_ends_45 : decode cX8_ends 45 = .ok (.isub, 1) := by decide +kernel
theorem dX8_ends_46 : decode cX8_ends 46 = .ok (.putfield 41, 3) := by decide +kernel
theorem dX8_ends_49 : decode cX8_ends 49 = .ok (.iconst 0, 1) := by decide +kernel
theorem dX8_ends_50 : decode cX8_ends 50 = .ok (.istore_n 2, 1) := by decide +kernel
theorem dX8_ends_51 : decode cX8_ends 51 = .ok (.iload_n 2, 1) := by decide +kernel
theorem dX8_ends_52 : decode cX8_ends 52 = .ok (.sipush 149, 3) := by decide +kernel
theorem dX8_ends_55 : decode cX8_ends 55 = .ok (.if_icmp .ge 30, 3) := by decide +kernel
theorem dX8_ends_58 : decode cX8_ends 58 = .ok (.aload_n 0, 1) := by decide +kernel
theorem dX8_ends_59 : decode cX8_ends 59 = .ok (.getfield 13, 3) := by decide +kernel
theorem dX8_ends_62 : decode cX8_ends 62 = .ok (.sipush 149, 3) := by decide +kernel
theorem dX8_ends_65 : decode cX8_ends 65 = .ok (.aload_n 0, 1) := by decide +kernel
theorem dX8_ends_66 : decode cX8_ends 66 = .ok (.getfield 41, 3) := by decide +kernel
theorem dX8_ends_69 : decode cX8_ends 69 = .ok (.imul, 1) := by decide +kernel
theorem dX8_ends_70 : decode cX8_ends 70 = .ok (.iload_n 2, 1) := by decide +kernel
theorem dX8_ends_71 : decode cX8_ends 71 = .ok (.iadd, 1) := by decide +kernel
theorem dX8_ends_72 : decode cX8_ends 72 = .ok (.aload_n 0, 1) := by decide +kernel
theorem dX8_ends_73 : decode cX8_ends 73 = .ok (.getfield 16, 3) := by decide +kernel
theorem dX8_ends_76 : decode cX8_ends 76 = .ok (.iload_n 2, 1) := by decide +kernel
theorem dX8_ends_77 : decode cX8_ends 77 = .ok (.iaload, 1) := by decide +kernel
theorem dX8_ends_78 : decode cX8_ends 78 = .ok (.iastore, 1) := by decide +kernel
theorem dX8_ends_79 : decode cX8_ends 79 = .ok (.iinc 2 1, 3) := by decide +kernel
theorem dX8_ends_82 : decode cX8_ends 82 = .ok (.goto (-31), 3) := by decide +kernel
theorem dX8_ends_85 : decode cX8_ends 85 = .ok (.aload_n 0, 1) := by decide +kernel
theorem dX8_ends_86 : decode cX8_ends 86 = .ok (.dup, 1) := by decide +kernel
theorem dX8_ends_87 : decode cX8_ends 87 = .ok (.getfield 41, 3) := by decide +kernel
theorem dX8_ends_90 : decode cX8_ends 90 = .ok (.iconst 1, 1) := by decide +kernel
theorem dX8_ends_91 : decode cX8_ends 91 = .ok (.iadd, 1) := by decide +kernel
theorem dX8_ends_92 : decode cX8_ends 92 = .ok (.putfield 41, 3) := by decide +kernel
theorem dX8_ends_95 : decode cX8_ends 95 = .ok (.aload_n 0, 1) := by decide +kernel
theorem dX8_ends_96 : decode cX8_ends 96 = .ok (.iload_n 1, 1) := by decide +kernel
theorem dX8_ends_97 : decode cX8_ends 97 = .ok (.invokevirtual 44, 3) := by decide +kernel
theorem dX8_ends_100 : decode cX8_ends 100 = .ok (.ireturn, 1) := by decide +kernel
theorem dX8_of_0 : decode cX8_of 0 = .ok (.aload_n 0, 1) := by decide +kernel
theorem dX8_of_1 : decode cX8_of 1 = .ok (.getfield 7, 3) := by decide +kernel
theorem dX8_of_4 : decode cX8_of 4 = .ok (.bipush 9, 2) := by decide +kernel
theorem dX8_of_6 : decode cX8_of 6 = .ok (.bipush 8, 2) := by decide +kernel
theorem dX8_of_8 : decode cX8_of 8 = .ok (.iload_n 1, 1) := by decide +kernel
theorem dX8_of_9 : decode cX8_of 9 = .ok (.imul, 1) := by decide +kernel
theorem dX8_of_10 : decode cX8_of 10 = .ok (.iadd, 1) := by decide +kernel
theorem dX8_of_11 : decode cX8_of 11 = .ok (.iload_n 2, 1) := by decide +kernel
theorem dX8_of_12 : decode cX8_of 12 = .ok (.iadd, 1) := by decide +kernel
theorem dX8_of_13 : decode cX8_of 13 = .ok (.iaload, 1) := by decide +kernel
theorem dX8_of_14 : decode cX8_of 14 = .ok (.ireturn, 1) := by decide +kernel
theorem dX8_puts_0 : decode cX8_puts 0 = .ok (.aload_n 0, 1) := by decide +kernel
theorem dX8_puts_1 : decode cX8_puts 1 = .ok (.getfield 7, 3) := by decide +kernel
theorem dX8_puts_4 : decode cX8_puts 4 = .ok (.bipush 9, 2) := by decide +kernel
theorem dX8_puts_6 : decode cX8_puts 6 = .ok (.bipush 8, 2) := by decide +kernel
theorem dX8_puts_8 : decode cX8_puts 8 = .ok (.iload_n 1, 1) := by decide +kernel
theorem dX8_puts_9 : decode cX8_puts 9 = .ok (.imul, 1) := by decide +kernel
theorem dX8_puts_10 : decode cX8_puts 10 = .ok (.iadd, 1) := by decide +kernel
theorem dX8_puts_11 : decode cX8_puts 11 = .ok (.iload_n 2, 1) := by decide +kernel
theorem dX8_puts_12 : decode cX8_puts 12 = .ok (.iadd, 1) := by decide +kernel
theorem dX8_puts_13 : decode cX8_puts 13 = .ok (.iload_n 3, 1) := by decide +kernel
theorem dX8_puts_14 : decode cX8_puts 14 = .ok (.iastore, 1) := by decide +kernel
theorem dX8_puts_15 : decode cX8_puts 15 = .ok (.return_, 1) := by decide +kernel
theorem dX8_isNode_0 : decode cX8_isNode 0 = .ok (.iload_n 1, 1) := by decide +kernel
theorem dX8_isNode_1 : decode cX8_isNode 1 = .ok (.ifCond .lt 17, 3) := by decide +kernel
theorem dX8_isNode_4 : decode cX8_isNode 4 = .ok (.iload_n 1, 1) := by decide +kernel
theorem dX8_isNode_5 : decode cX8_isNode 5 = .ok (.aload_n 0, 1) := by decide +kernel
theorem dX8_isNode_6 : decode cX8_isNode 6 = .ok (.getfield 7, 3) := by decide +kernel
theorem dX8_isNode_9 : decode cX8_isNode 9 = .ok (.iconst 5, 1) := by decide +kernel
theorem dX8_isNode_10 : decode cX8_isNode 10 = .ok (.iaload, 1) := by decide +kernel
theorem dX8_isNode_11 : decode cX8_isNode 11 = .ok (.if_icmp .ge 7, 3) := by decide +kernel
theorem dX8_isNode_14 : decode cX8_isNode 14 = .ok (.iconst 1, 1) := by decide +kernel
theorem dX8_isNode_15 : decode cX8_isNode 15 = .ok (.goto 4, 3) := by decide +kernel
theorem dX8_isNode_18 : decode cX8_isNode 18 = .ok (.iconst 0, 1) := by decide +kernel
theorem dX8_isNode_19 : decode cX8_isNode 19 = .ok (.ireturn, 1) := by decide +kernel
theorem dX8_isPipe_0 : decode cX8_isPipe 0 = .ok (.iload_n 1, 1) := by decide +kernel
theorem dX8_isPipe_1 : decode cX8_isPipe 1 = .ok (.ifCond .le 17, 3) := by decide +kernel
theorem dX8_isPipe_4 : decode cX8_isPipe 4 = .ok (.iload_n 1, 1) := by decide +kernel
theorem dX8_isPipe_5 : decode cX8_isPipe 5 = .ok (.aload_n 0, 1) := by decide +kernel
theorem dX8_isPipe_6 : decode cX8_isPipe 6 = .ok (.getfield 7, 3) := by decide +kernel
theorem dX8_isPipe_9 : decode cX8_isPipe 9 = .ok (.iconst 5, 1) := by decide +kernel
theorem dX8_isPipe_10 : decode cX8_isPipe 10 = .ok (.iaload, 1) := by decide +kernel
theorem dX8_isPipe_11 : decode cX8_isPipe 11 = .ok (.if_icmp .ge 7, 3) := by decide +kernel
theorem dX8_isPipe_14 : decode cX8_isPipe 14 = .ok (.iconst 1, 1) := by decide +kernel
theorem dX8_isPipe_15 : decode cX8_isPipe 15 = .ok (.goto 4, 3) := by decide +kernel
theorem dX8_isPipe_18 : decode cX8_isPipe 18 = .ok (.iconst 0, 1) := by decide +kernel
theorem dX8_isPipe_19 : decode cX8_isPipe 19 = .ok (.ireturn, 1) := by decide +kernel
theorem dX8_less_0 : decode cX8_less 0 = .ok (.iload_n 0, 1) := by decide +kernel
theorem dX8_less_1 : decode cX8_less 1 = .ok (.iload_n 1, 1) := by decide +kernel
theorem dX8_less_2 : decode cX8_less 2 = .ok (.if_icmp .ge 7, 3) := by decide +kernel
theorem dX8_less_5 : decode cX8_less 5 = .ok (.iload_n 0, 1) := by decide +kernel
theorem dX8_less_6 : decode cX8_less 6 = .ok (.goto 4, 3) := by decide +kernel
theorem dX8_less_9 : decode cX8_less 9 = .ok (.iload_n 1, 1) := by decide +kernel
theorem dX8_less_10 : decode cX8_less 10 = .ok (.ireturn, 1) := by decide +kernel
theorem dX8_warmth_0 : decode cX8_warmth 0 = .ok (.aload_n 0, 1) := by decide +kernel
theorem dX8_warmth_1 : decode cX8_warmth 1 = .ok (.getfield 25, 3) := by decide +kernel
theorem dX8_warmth_4 : decode cX8_warmth 4 = .ok (.aload_n 0, 1) := by decide +kernel
theorem dX8_warmth_5 : decode cX8_warmth 5 = .ok (.iload_n 1, 1) := by decide +kernel
theorem dX8_warmth_6 : decode cX8_warmth 6 = .ok (.iconst 0, 1) := by decide +kernel
theorem dX8_warmth_7 : decode cX8_warmth 7 = .ok (.invokevirtual 48, 3) := by decide +kernel
theorem dX8_warmth_10 : decode cX8_warmth 10 = .ok (.iaload, 1) := by decide +kernel
theorem dX8_warmth_11 : decode cX8_warmth 11 = .ok (.istore_n 2, 1) := by decide +kernel
theorem dX8_warmth_12 : decode cX8_warmth 12 = .ok (.aload_n 0, 1) := by decide +kernel
theorem dX8_warmth_13 : decode cX8_warmth 13 = .ok (.getfield 7, 3) := by decide +kernel
theorem dX8_warmth_16 : decode cX8_warmth 16 = .ok (.iconst 1, 1) := by decide +kernel
theorem dX8_warmth_17 : decode cX8_warmth 17 = .ok (.iaload, 1) := by decide +kernel
theorem dX8_warmth_18 : decode cX8_warmth 18 = .ok (.istore_n 3, 1) := by decide +kernel
theorem dX8_warmth_19 : decode cX8_warmth 19 = .ok (.aload_n 0, 1) := by decide +kernel
theorem dX8_warmth_20 : decode cX8_warmth 20 = .ok (.getfield 22, 3) := by decide +kernel
theorem dX8_warmth_23 : decode cX8_warmth 23 = .ok (.iload_n 1, 1) := by decide +kernel
theorem dX8_warmth_24 : decode cX8_warmth 24 = .ok (.iaload, 1) := by decide +kernel
theorem dX8_warmth_25 : decode cX8_warmth 25 = .ok (.ifCond .ne 9, 3) := by decide +kernel
theorem dX8_warmth_28 : decode cX8_warmth 28 = .ok (.iload_n 2, 1) := by decide +kernel
theorem dX8_warmth_29 : decode cX8_warmth 29 = .ok (.iload_n 3, 1) := by decide +kernel
theorem dX8_warmth_30 : decode cX8_warmth 30 = .ok (.invokestatic 52, 3) := by decide +kernel
theorem dX8_warmth_33 : decode cX8_warmth 33 = .ok (.ireturn, 1) := by decide +kernel
theorem dX8_warmth_34 : decode cX8_warmth 34 = .ok (.iload_n 2, 1) := by decide +kernel
theorem dX8_warmth_35 : decode cX8_warmth 35 = .ok (.iload_n 3, 1) := by decide +kernel
theorem dX8_warmth_36 : decode cX8_warmth 36 = .ok (.if_icmp .gt 5, 3) := by decide +kernel
theorem dX8_warmth_39 : decode cX8_warmth 39 = .ok (.iload_n 2, 1) := by decide +kernel
theorem dX8_warmth_40 : decode cX8_warmth 40 = .ok (.ireturn, 1) := by decide +kernel
theorem dX8_warmth_41 : decode cX8_warmth 41 = .ok (.iload_n 2, 1) := by decide +kernel
theorem dX8_warmth_42 : decode cX8_warmth 42 = .ok (.iload_n 3, 1) := by decide +kernel
theorem dX8_warmth_43 : decode cX8_warmth 43 = .ok (.isub, 1) := by decide +kernel
theorem dX8_warmth_44 : decode cX8_warmth 44 = .ok (.aload_n 0, 1) := by decide +kernel
theorem dX8_warmth_45 : decode cX8_warmth 45 = .ok (.iload_n 1, 1) := by decide +kernel
theorem dX8_warmth_46 : decode cX8_warmth 46 = .ok (.iconst 2, 1) := by decide +kernel
theorem dX8_warmth_47 : decode cX8_warmth 47 = .ok (.invokevirtual 48, 3) := by decide +kernel
theorem dX8_warmth_50 : decode cX8_warmth 50 = .ok (.imul, 1) := by decide +kernel
theorem dX8_warmth_51 : decode cX8_warmth 51 = .ok (.aload_n 0, 1) := by decide +kernel
theorem dX8_warmth_52 : decode cX8_warmth 52 = .ok (.iload_n 1, 1) := by decide +kernel
theorem dX8_warmth_53 : decode cX8_warmth 53 = .ok (.iconst 1, 1) := by decide +kernel
theorem dX8_warmth_54 : decode cX8_warmth 54 = .ok (.invokevirtual 48, 3) := by decide +kernel
theorem dX8_warmth_57 : decode cX8_warmth 57 = .ok (.imul, 1) := by decide +kernel
theorem dX8_warmth_58 : decode cX8_warmth 58 = .ok (.sipush 1000, 3) := by decide +kernel
theorem dX8_warmth_61 : decode cX8_warmth 61 = .ok (.aload_n 0, 1) := by decide +kernel
theorem dX8_warmth_62 : decode cX8_warmth 62 = .ok (.getfield 22, 3) := by decide +kernel
theorem dX8_warmth_65 : decode cX8_warmth 65 = .ok (.iload_n 1, 1) := by decide +kernel
theorem dX8_warmth_66 : decode cX8_warmth 66 = .ok (.iaload, 1) := by decide +kernel
theorem dX8_warmth_67 : decode cX8_warmth 67 = .ok (.imul, 1) := by decide +kernel
theorem dX8_warmth_68 : decode cX8_warmth 68 = .ok (.idiv, 1) := by decide +kernel
theorem dX8_warmth_69 : decode cX8_warmth 69 = .ok (.istore 4, 2) := by decide +kernel
theorem dX8_warmth_71 : decode cX8_warmth 71 = .ok (.iload_n 2, 1) := by decide +kernel
theorem dX8_warmth_72 : decode cX8_warmth 72 = .ok (.iload_n 2, 1) := by decide +kernel
theorem dX8_warmth_73 : decode cX8_warmth 73 = .ok (.iload_n 3, 1) := by decide +kernel
theorem dX8_warmth_74 : decode cX8_warmth 74 = .ok (.isub, 1) := by decide +kernel
theorem dX8_warmth_75 : decode cX8_warmth 75 = .ok (.iload 4, 2) := by decide +kernel
theorem dX8_warmth_77 : decode cX8_warmth 77 = .ok (.invokestatic 52, 3) := by decide +kernel
theorem dX8_warmth_80 : decode cX8_warmth 80 = .ok (.isub, 1) := by decide +kernel
theorem dX8_warmth_81 : decode cX8_warmth 81 = .ok (.ireturn, 1) := by decide +kernel
theorem dX8_works_0 : decode cX8_works 0 = .ok (.aload_n 0, 1) := by decide +kernel
theorem dX8_works_1 : decode cX8_works 1 = .ok (.getfield 7, 3) := by decide +kernel
theorem dX8_works_4 : decode cX8_works 4 = .ok (.iconst 5, 1) := by decide +kernel
theorem dX8_works_5 : decode cX8_works 5 = .ok (.iaload, 1) := by decide +kernel
theorem dX8_works_6 : decode cX8_works 6 = .ok (.istore_n 1, 1) := by decide +kernel
theorem dX8_works_7 : decode cX8_works 7 = .ok (.iconst 0, 1) := by decide +kernel
theorem dX8_works_8 : decode cX8_works 8 = .ok (.istore_n 2, 1) := by decide +kernel
theorem dX8_works_9 : decode cX8_works 9 = .ok (.iload_n 2, 1) := by decide +kernel
theorem dX8_works_10 : decode cX8_works 10 = .ok (.iload_n 1, 1) := by decide +kernel
theorem dX8_works_11 : decode cX8_works 11 = .ok (.if_icmp .ge 43, 3) := by decide +kernel
theorem dX8_works_14 : decode cX8_works 14 = .ok (.aload_n 0, 1) := by decide +kernel
theorem dX8_works_15 : decode cX8_works 15 = .ok (.getfield 22, 3) := by decide +kernel
theorem dX8_works_18 : decode cX8_works 18 = .ok (.iload_n 2, 1) := by decide +kernel
theorem dX8_works_19 : decode cX8_works 19 = .ok (.iload_n 2, 1) := by decide +kernel
theorem dX8_works_20 : decode cX8_works 20 = .ok (.ifCond .ne 7, 3) := by decide +kernel
theorem dX8_works_23 : decode cX8_works 23 = .ok (.iconst 0, 1) := by decide +kernel
theorem dX8_works_24 : decode cX8_works 24 = .ok (.goto 16, 3) := by decide +kernel
theorem dX8_works_27 : decode cX8_works 27 = .ok (.aload_n 0, 1) := by decide +kernel
theorem dX8_works_28 : decode cX8_works 28 = .ok (.iload_n 2, 1) := by decide +kernel
theorem dX8_works_29 : decode cX8_works 29 = .ok (.iconst 3, 1) := by decide +kernel
theorem dX8_works_30 : decode cX8_works 30 = .ok (.invokevirtual 48, 3) := by decide +kernel
theorem dX8_works_33 : decode cX8_works 33 = .ok (.aload_n 0, 1) := by decide +kernel
theorem dX8_works_34 : decode cX8_works 34 = .ok (.iload_n 2, 1) := by decide +kernel
theorem dX8_works_35 : decode cX8_works 35 = .ok (.iconst 5, 1) := by decide +kernel
theorem dX8_works_36 : decode cX8_works 36 = .ok (.invokevirtual 48, 3) := by decide +kernel
theorem dX8_works_39 : decode cX8_works 39 = .ok (.iadd, 1) := by decide +kernel
theorem dX8_works_40 : decode cX8_works 40 = .ok (.iastore, 1) := by decide +kernel
theorem dX8_works_41 : decode cX8_works 41 = .ok (.aload_n 0, 1) := by decide +kernel
theorem dX8_works_42 : decode cX8_works 42 = .ok (.getfield 31, 3) := by decide +kernel
theorem dX8_works_45 : decode cX8_works 45 = .ok (.iload_n 2, 1) := by decide +kernel
theorem dX8_works_46 : decode cX8_works 46 = .ok (.iconst 0, 1) := by decide +kernel
theorem dX8_works_47 : decode cX8_works 47 = .ok (.iastore, 1) := by decide +kernel
theorem dX8_works_48 : decode cX8_works 48 = .ok (.iinc 2 1, 3) := by decide +kernel
theorem dX8_works_51 : decode cX8_works 51 = .ok (.goto (-42), 3) := by decide +kernel
theorem dX8_works_54 : decode cX8_works 54 = .ok (.iload_n 1, 1) := by decide +kernel
theorem dX8_works_55 : decode cX8_works 55 = .ok (.iconst 1, 1) := by decide +kernel
theorem dX8_works_56 : decode cX8_works 56 = .ok (.isub, 1) := by decide +kernel
theorem dX8_works_57 : decode cX8_works 57 = .ok (.istore_n 2, 1) := by decide +kernel
theorem dX8_works_58 : decode cX8_works 58 = .ok (.iload_n 2, 1) := by decide +kernel
theorem dX8_works_59 : decode cX8_works 59 = .ok (.ifCond .le 29, 3) := by decide +kernel
theorem dX8_works_62 : decode cX8_works 62 = .ok (.aload_n 0, 1) := by decide +kernel
theorem dX8_works_63 : decode cX8_works 63 = .ok (.getfield 22, 3) := by decide +kernel
theorem dX8_works_66 : decode cX8_works 66 = .ok (.aload_n 0, 1) := by decide +kernel
theorem dX8_works_67 : decode cX8_works 67 = .ok (.iload_n 2, 1) := by decide +kernel
theorem dX8_works_68 : decode cX8_works 68 = .ok (.iconst 0, 1) := by decide +kernel
theorem dX8_works_69 : decode cX8_works 69 = .ok (.invokevirtual 48, 3) := by decide +kernel
theorem dX8_works_72 : decode cX8_works 72 = .ok (.dup2, 1) := by decide +kernel
theorem dX8_works_73 : decode cX8_works 73 = .ok (.iaload, 1) := by decide +kernel
theorem dX8_works_74 : decode cX8_works 74 = .ok (.aload_n 0, 1) := by decide +kernel
theorem dX8_works_75 : decode cX8_works 75 = .ok (.getfield 22, 3) := by decide +kernel
theorem dX8_works_78 : decode cX8_works 78 = .ok (.iload_n 2, 1) := by decide +kernel
theorem dX8_works_79 : decode cX8_works 79 = .ok (.iaload, 1) := by decide +kernel
theorem dX8_works_80 : decode cX8_works 80 = .ok (.iadd, 1) := by decide +kernel
theorem dX8_works_81 : decode cX8_works 81 = .ok (.iastore, 1) := by decide +kernel
theorem dX8_works_82 : decode cX8_works 82 = .ok (.iinc 2 (-1), 3) := by decide +kernel
theorem dX8_works_85 : decode cX8_works 85 = .ok (.goto (-27), 3) := by decide +kernel
theorem dX8_works_88 : decode cX8_works 88 = .ok (.aload_n 0, 1) := by decide +kernel
theorem dX8_works_89 : decode cX8_works 89 = .ok (.getfield 25, 3) := by decide +kernel
theorem dX8_works_92 : decode cX8_works 92 = .ok (.iconst 0, 1) := by decide +kernel
theorem dX8_works_93 : decode cX8_works 93 = .ok (.aload_n 0, 1) := by decide +kernel
theorem dX8_works_94 : decode cX8_works 94 = .ok (.getfield 7, 3) := by decide +kernel
theorem dX8_works_97 : decode cX8_works 97 = .ok (.iconst 0, 1) := by decide +kernel
theorem dX8_works_98 : decode cX8_works 98 = .ok (.iaload, 1) := by decide +kernel
theorem dX8_works_99 : decode cX8_works 99 = .ok (.iastore, 1) := by decide +kernel
theorem dX8_works_100 : decode cX8_works 100 = .ok (.aload_n 0, 1) := by decide +kernel
theorem dX8_works_101 : decode cX8_works 101 = .ok (.getfield 28, 3) := by decide +kernel
theorem dX8_works_104 : decode cX8_works 104 = .ok (.iconst 0, 1) := by decide +kernel
theorem dX8_works_105 : decode cX8_works 105 = .ok (.iconst (-1), 1) := by decide +kernel
theorem dX8_works_106 : decode cX8_works 106 = .ok (.iastore, 1) := by decide +kernel
theorem dX8_works_107 : decode cX8_works 107 = .ok (.iconst 1, 1) := by decide +kernel
theorem dX8_works_108 : decode cX8_works 108 = .ok (.istore_n 2, 1) := by decide +kernel
theorem dX8_works_109 : decode cX8_works 109 = .ok (.iload_n 2, 1) := by decide +kernel
theorem dX8_works_110 : decode cX8_works 110 = .ok (.iload_n 1, 1) := by decide +kernel
theorem dX8_works_111 : decode cX8_works 111 = .ok (.if_icmp .ge 41, 3) := by decide +kernel
theorem dX8_works_114 : decode cX8_works 114 = .ok (.aload_n 0, 1) := by decide +kernel
theorem dX8_works_115 : decode cX8_works 115 = .ok (.getfield 25, 3) := by decide +kernel
theorem dX8_works_118 : decode cX8_works 118 = .ok (.iload_n 2, 1) := by decide +kernel
theorem dX8_works_119 : decode cX8_works 119 = .ok (.aload_n 0, 1) := by decide +kernel
theorem dX8_works_120 : decode cX8_works 120 = .ok (.iload_n 2, 1) := by decide +kernel
theorem dX8_works_121 : decode cX8_works 121 = .ok (.invokevirtual 55, 3) := by decide +kernel
theorem dX8_works_124 : decode cX8_works 124 = .ok (.iastore, 1) := by decide +kernel
theorem dX8_works_125 : decode cX8_works 125 = .ok (.aload_n 0, 1) := by decide +kernel
theorem dX8_works_126 : decode cX8_works 126 = .ok (.getfield 28, 3) := by decide +kernel
theorem dX8_works_129 : decode cX8_works 129 = .ok (.iload_n 2, 1) := by decide +kernel
theorem dX8_works_130 : decode cX8_works 130 = .ok (.aload_n 0, 1) := by decide +kernel
theorem dX8_works_131 : decode cX8_works 131 = .ok (.iload_n 2, 1) := by decide +kernel
theorem dX8_works_132 : decode cX8_works 132 = .ok (.iconst 4, 1) := by decide +kernel
theorem dX8_works_133 : decode cX8_works 133 = .ok (.invokevirtual 48, 3) := by decide +kernel
theorem dX8_works_136 : decode cX8_works 136 = .ok (.aload_n 0, 1) := by decide +kernel
theorem dX8_works_137 : decode cX8_works 137 = .ok (.getfield 25, 3) := by decide +kernel
theorem dX8_works_140 : decode cX8_works 140 = .ok (.iload_n 2, 1) := by decide +kernel
theorem dX8_works_141 : decode cX8_works 141 = .ok (.iaload, 1) := by decide +kernel
theorem dX8_works_142 : decode cX8_works 142 = .ok (.invokestatic 52, 3) := by decide +kernel
theorem dX8_works_145 : decode cX8_works 145 = .ok (.iastore, 1) := by decide +kernel
theorem dX8_works_146 : decode cX8_works 146 = .ok (.iinc 2 1, 3) := by decide +kernel
theorem dX8_works_149 : decode cX8_works 149 = .ok (.goto (-40), 3) := by decide +kernel
theorem dX8_works_152 : decode cX8_works 152 = .ok (.iload_n 1, 1) := by decide +kernel
theorem dX8_works_153 : decode cX8_works 153 = .ok (.iconst 1, 1) := by decide +kernel
theorem dX8_works_154 : decode cX8_works 154 = .ok (.isub, 1) := by decide +kernel
theorem dX8_works_155 : decode cX8_works 155 = .ok (.istore_n 2, 1) := by decide +kernel
theorem dX8_works_156 : decode cX8_works 156 = .ok (.iload_n 2, 1) := by decide +kernel
theorem dX8_works_157 : decode cX8_works 157 = .ok (.ifCond .le 51, 3) := by decide +kernel
theorem dX8_works_160 : decode cX8_works 160 = .ok (.aload_n 0, 1) := by decide +kernel
theorem dX8_works_161 : decode cX8_works 161 = .ok (.getfield 31, 3) := by decide +kernel
theorem dX8_works_164 : decode cX8_works 164 = .ok (.iload_n 2, 1) := by decide +kernel
theorem dX8_works_165 : decode cX8_works 165 = .ok (.dup2, 1) := by decide +kernel
theorem dX8_works_166 : decode cX8_works 166 = .ok (.iaload, 1) := by decide +kernel
theorem dX8_works_167 : decode cX8_works 167 = .ok (.aload_n 0, 1) := by decide +kernel
theorem dX8_works_168 : decode cX8_works 168 = .ok (.iload_n 2, 1) := by decide +kernel
theorem dX8_works_169 : decode cX8_works 169 = .ok (.iconst 3, 1) := by decide +kernel
theorem dX8_works_170 : decode cX8_works 170 = .ok (.invokevirtual 48, 3) := by decide +kernel
theorem dX8_works_173 : decode cX8_works 173 = .ok (.aload_n 0, 1) := by decide +kernel
theorem dX8_works_174 : decode cX8_works 174 = .ok (.getfield 28, 3) := by decide +kernel
theorem dX8_works_177 : decode cX8_works 177 = .ok (.iload_n 2, 1) := by decide +kernel
theorem dX8_works_178 : decode cX8_works 178 = .ok (.iaload, 1) := by decide +kernel
theorem dX8_works_179 : decode cX8_works 179 = .ok (.imul, 1) := by decide +kernel
theorem dX8_works_180 : decode cX8_works 180 = .ok (.iadd, 1) := by decide +kernel
theorem dX8_works_181 : decode cX8_works 181 = .ok (.iastore, 1) := by decide +kernel
theorem dX8_works_182 : decode cX8_works 182 = .ok (.aload_n 0, 1) := by decide +kernel
theorem dX8_works_183 : decode cX8_works 183 = .ok (.getfield 31, 3) := by decide +kernel
theorem dX8_works_186 : decode cX8_works 186 = .ok (.aload_n 0, 1) := by decide +kernel
theorem dX8_works_187 : decode cX8_works 187 = .ok (.iload_n 2, 1) := by decide +kernel
theorem dX8_works_188 : decode cX8_works 188 = .ok (.iconst 0, 1) := by decide +kernel
theorem dX8_works_189 : decode cX8_works 189 = .ok (.invokevirtual 48, 3) := by decide +kernel
theorem dX8_works_192 : decode cX8_works 192 = .ok (.dup2, 1) := by decide +kernel
theorem dX8_works_193 : decode cX8_works 193 = .ok (.iaload, 1) := by decide +kernel
theorem dX8_works_194 : decode cX8_works 194 = .ok (.aload_n 0, 1) := by decide +kernel
theorem dX8_works_195 : decode cX8_works 195 = .ok (.getfield 31, 3) := by decide +kernel
theorem dX8_works_198 : decode cX8_works 198 = .ok (.iload_n 2, 1) := by decide +kernel
theorem dX8_works_199 : decode cX8_works 199 = .ok (.iaload, 1) := by decide +kernel
theorem dX8_works_200 : decode cX8_works 200 = .ok (.iadd, 1) := by decide +kernel
theorem dX8_works_201 : decode cX8_works 201 = .ok (.iastore, 1) := by decide +kernel
theorem dX8_works_202 : decode cX8_works 202 = .ok (.iinc 2 (-1), 3) := by decide +kernel
theorem dX8_works_205 : decode cX8_works 205 = .ok (.goto (-49), 3) := by decide +kernel
theorem dX8_works_208 : decode cX8_works 208 = .ok (.return_, 1) := by decide +kernel
theorem dX8_need_0 : decode cX8_need 0 = .ok (.aload_n 0, 1) := by decide +kernel
theorem dX8_need_1 : decode cX8_need 1 = .ok (.getfield 22, 3) := by decide +kernel
theorem dX8_need_4 : decode cX8_need 4 = .ok (.iconst 0, 1) := by decide +kernel
theorem dX8_need_5 : decode cX8_need 5 = .ok (.iaload, 1) := by decide +kernel
theorem dX8_need_6 : decode cX8_need 6 = .ok (.aload_n 0, 1) := by decide +kernel
theorem dX8_need_7 : decode cX8_need 7 = .ok (.getfield 7, 3) := by decide +kernel
theorem dX8_need_10 : decode cX8_need 10 = .ok (.iconst 0, 1) := by decide +kernel
theorem dX8_need_11 : decode cX8_need 11 = .ok (.iaload, 1) := by decide +kernel
theorem dX8_need_12 : decode cX8_need 12 = .ok (.imul, 1) := by decide +kernel
theorem dX8_need_13 : decode cX8_need 13 = .ok (.aload_n 0, 1) := by decide +kernel
theorem dX8_need_14 : decode cX8_need 14 = .ok (.getfield 31, 3) := by decide +kernel
theorem dX8_need_17 : decode cX8_need 17 = .ok (.iconst 0, 1) := by decide +kernel
theorem dX8_need_18 : decode cX8_need 18 = .ok (.iaload, 1) := by decide +kernel
theorem dX8_need_19 : decode cX8_need 19 = .ok (.isub, 1) := by decide +kernel
theorem dX8_need_20 : decode cX8_need 20 = .ok (.istore_n 1, 1) := by decide +kernel
theorem dX8_need_21 : decode cX8_need 21 = .ok (.iload_n 1, 1) := by decide +kernel
theorem dX8_need_22 : decode cX8_need 22 = .ok (.ifCond .ge 7, 3) := by decide +kernel
theorem dX8_need_25 : decode cX8_need 25 = .ok (.iconst 0, 1) := by decide +kernel
theorem dX8_need_26 : decode cX8_need 26 = .ok (.goto 4, 3) := by decide +kernel
theorem dX8_need_29 : decode cX8_need 29 = .ok (.iload_n 1, 1) := by decide +kernel
theorem dX8_need_30 : decode cX8_need 30 = .ok (.ireturn, 1) := by decide +kernel
theorem dX8_delivered_0 : decode cX8_delivered 0 = .ok (.aload_n 0, 1) := by decide +kernel
theorem dX8_delivered_1 : decode cX8_delivered 1 = .ok (.iload_n 1, 1) := by decide +kernel
theorem dX8_delivered_2 : decode cX8_delivered 2 = .ok (.iconst 3, 1) := by decide +kernel
theorem dX8_delivered_3 : decode cX8_delivered 3 = .ok (.invokevirtual 48, 3) := by decide +kernel
theorem dX8_delivered_6 : decode cX8_delivered 6 = .ok (.aload_n 0, 1) := by decide +kernel
theorem dX8_delivered_7 : decode cX8_delivered 7 = .ok (.getfield 25, 3) := by decide +kernel
theorem dX8_delivered_10 : decode cX8_delivered 10 = .ok (.iload_n 1, 1) := by decide +kernel
theorem dX8_delivered_11 : decode cX8_delivered 11 = .ok (.iaload, 1) := by decide +kernel
theorem dX8_delivered_12 : decode cX8_delivered 12 = .ok (.aload_n 0, 1) := by decide +kernel
theorem dX8_delivered_13 : decode cX8_delivered 13 = .ok (.getfield 28, 3) := by decide +kernel
theorem dX8_delivered_16 : decode cX8_delivered 16 = .ok (.iload_n 1, 1) := by decide +kernel
theorem dX8_delivered_17 : decode cX8_delivered 17 = .ok (.iaload, 1) := by decide +kernel
theorem dX8_delivered_18 : decode cX8_delivered 18 = .ok (.isub, 1) := by decide +kernel
theorem dX8_delivered_19 : decode cX8_delivered 19 = .ok (.imul, 1) := by decide +kernel
theorem dX8_delivered_20 : decode cX8_delivered 20 = .ok (.ireturn, 1) := by decide +kernel
theorem dX8_billOf_0 : decode cX8_billOf 0 = .ok (.aload_n 0, 1) := by decide +kernel
theorem dX8_billOf_1 : decode cX8_billOf 1 = .ok (.iload_n 1, 1) := by decide +kernel
theorem dX8_billOf_2 : decode cX8_billOf 2 = .ok (.invokevirtual 58, 3) := by decide +kernel
theorem dX8_billOf_5 : decode cX8_billOf 5 = .ok (.aload_n 0, 1) := by decide +kernel
theorem dX8_billOf_6 : decode cX8_billOf 6 = .ok (.getfield 7, 3) := by decide +kernel
theorem dX8_billOf_9 : decode cX8_billOf 9 = .ok (.iconst 2, 1) := by decide +kernel
theorem dX8_billOf_10 : decode cX8_billOf 10 = .ok (.iaload, 1) := by decide +kernel
theorem dX8_billOf_11 : decode cX8_billOf 11 = .ok (.imul, 1) := by decide +kernel
theorem dX8_billOf_12 : decode cX8_billOf 12 = .ok (.sipush 1000, 3) := by decide +kernel
theorem dX8_billOf_15 : decode cX8_billOf 15 = .ok (.idiv, 1) := by decide +kernel
theorem dX8_billOf_16 : decode cX8_billOf 16 = .ok (.aload_n 0, 1) := by decide +kernel
theorem dX8_billOf_17 : decode cX8_billOf 17 = .ok (.iload_n 1, 1) := by decide +kernel
theorem dX8_billOf_18 : decode cX8_billOf 18 = .ok (.iconst 3, 1) := by decide +kernel
theorem dX8_billOf_19 : decode cX8_billOf 19 = .ok (.invokevirtual 48, 3) := by decide +kernel
theorem dX8_billOf_22 : decode cX8_billOf 22 = .ok (.aload_n 0, 1) := by decide +kernel
theorem dX8_billOf_23 : decode cX8_billOf 23 = .ok (.getfield 28, 3) := by decide +kernel
theorem dX8_billOf_26 : decode cX8_billOf 26 = .ok (.iload_n 1, 1) := by decide +kernel
theorem dX8_billOf_27 : decode cX8_billOf 27 = .ok (.iaload, 1) := by decide +kernel
theorem dX8_billOf_28 : decode cX8_billOf 28 = .ok (.aload_n 0, 1) := by decide +kernel
theorem dX8_billOf_29 : decode cX8_billOf 29 = .ok (.getfield 7, 3) := by decide +kernel
theorem dX8_billOf_32 : decode cX8_billOf 32 = .ok (.iconst 3, 1) := by decide +kernel
theorem dX8_billOf_33 : decode cX8_billOf 33 = .ok (.iaload, 1) := by decide +kernel
theorem dX8_billOf_34 : decode cX8_billOf 34 = .ok (.isub, 1) := by decide +kernel
theorem dX8_billOf_35 : decode cX8_billOf 35 = .ok (.imul, 1) := by decide +kernel
theorem dX8_billOf_36 : decode cX8_billOf 36 = .ok (.aload_n 0, 1) := by decide +kernel
theorem dX8_billOf_37 : decode cX8_billOf 37 = .ok (.getfield 7, 3) := by decide +kernel
theorem dX8_billOf_40 : decode cX8_billOf 40 = .ok (.iconst 4, 1) := by decide +kernel
theorem dX8_billOf_41 : decode cX8_billOf 41 = .ok (.iaload, 1) := by decide +kernel
theorem dX8_billOf_42 : decode cX8_billOf 42 = .ok (.imul, 1) := by decide +kernel
theorem dX8_billOf_43 : decode cX8_billOf 43 = .ok (.sipush 1000, 3) := by decide +kernel
theorem dX8_billOf_46 : decode cX8_billOf 46 = .ok (.idiv, 1) := by decide +kernel
theorem dX8_billOf_47 : decode cX8_billOf 47 = .ok (.iadd, 1) := by decide +kernel
theorem dX8_billOf_48 : decode cX8_billOf 48 = .ok (.ireturn, 1) := by decide +kernel
theorem dX8_heatOf_0 : decode cX8_heatOf 0 = .ok (.aload_n 0, 1) := by decide +kernel
theorem dX8_heatOf_1 : decode cX8_heatOf 1 = .ok (.getfield 25, 3) := by decide +kernel
theorem dX8_heatOf_4 : decode cX8_heatOf 4 = .ok (.aload_n 0, 1) := by decide +kernel
theorem dX8_heatOf_5 : decode cX8_heatOf 5 = .ok (.iload_n 1, 1) := by decide +kernel
theorem dX8_heatOf_6 : decode cX8_heatOf 6 = .ok (.iconst 0, 1) := by decide +kernel
theorem dX8_heatOf_7 : decode cX8_heatOf 7 = .ok (.invokevirtual 48, 3) := by decide +kernel
theorem dX8_heatOf_10 : decode cX8_heatOf 10 = .ok (.iaload, 1) := by decide +kernel
theorem dX8_heatOf_11 : decode cX8_heatOf 11 = .ok (.istore_n 3, 1) := by decide +kernel
theorem dX8_heatOf_12 : decode cX8_heatOf 12 = .ok (.iload_n 2, 1) := by decide +kernel
theorem dX8_heatOf_13 : decode cX8_heatOf 13 = .ok (.tableswitch 87 0 4 #[35, 41, 57, 71, 78], 35) := by decide +kernel
theorem dX8_heatOf_48 : decode cX8_heatOf 48 = .ok (.aload_n 0, 1) := by decide +kernel
theorem dX8_heatOf_49 : decode cX8_heatOf 49 = .ok (.iload_n 1, 1) := by decide +kernel
theorem dX8_heatOf_50 : decode cX8_heatOf 50 = .ok (.invokevirtual 58, 3) := by decide +kernel
theorem dX8_heatOf_53 : decode cX8_heatOf 53 = .ok (.ireturn, 1) := by decide +kernel
theorem dX8_heatOf_54 : decode cX8_heatOf 54 = .ok (.aload_n 0, 1) := by decide +kernel
theorem dX8_heatOf_55 : decode cX8_heatOf 55 = .ok (.getfield 22, 3) := by decide +kernel
theorem dX8_heatOf_58 : decode cX8_heatOf 58 = .ok (.iload_n 1, 1) := by decide +kernel
theorem dX8_heatOf_59 : decode cX8_heatOf 59 = .ok (.iaload, 1) := by decide +kernel
theorem dX8_heatOf_60 : decode cX8_heatOf 60 = .ok (.iload_n 3, 1) := by decide +kernel
theorem dX8_heatOf_61 : decode cX8_heatOf 61 = .ok (.aload_n 0, 1) := by decide +kernel
theorem dX8_heatOf_62 : decode cX8_heatOf 62 = .ok (.getfield 25, 3) := by decide +kernel
theorem dX8_heatOf_65 : decode cX8_heatOf 65 = .ok (.iload_n 1, 1) := by decide +kernel
theorem dX8_heatOf_66 : decode cX8_heatOf 66 = .ok (.iaload, 1) := by decide +kernel
theorem dX8_heatOf_67 : decode cX8_heatOf 67 = .ok (.isub, 1) := by decide +kernel
theorem dX8_heatOf_68 : decode cX8_heatOf 68 = .ok (.imul, 1) := by decide +kernel
theorem dX8_heatOf_69 : decode cX8_heatOf 69 = .ok (.ireturn, 1) := by decide +kernel
theorem dX8_heatOf_70 : decode cX8_heatOf 70 = .ok (.aload_n 0, 1) := by decide +kernel
theorem dX8_heatOf_71 : decode cX8_heatOf 71 = .ok (.iload_n 1, 1) := by decide +kernel
theorem dX8_heatOf_72 : decode cX8_heatOf 72 = .ok (.iconst 5, 1) := by decide +kernel
theorem dX8_heatOf_73 : decode cX8_heatOf 73 = .ok (.invokevirtual 48, 3) := by decide +kernel
theorem dX8_heatOf_76 : decode cX8_heatOf 76 = .ok (.aload_n 0, 1) := by decide +kernel
theorem dX8_heatOf_77 : decode cX8_heatOf 77 = .ok (.getfield 25, 3) := by decide +kernel
theorem dX8_heatOf_80 : decode cX8_heatOf 80 = .ok (.iload_n 1, 1) := by decide +kernel
theorem dX8_heatOf_81 : decode cX8_heatOf 81 = .ok (.iaload, 1) := by decide +kernel
theorem dX8_heatOf_82 : decode cX8_heatOf 82 = .ok (.imul, 1) := by decide +kernel
theorem dX8_heatOf_83 : decode cX8_heatOf 83 = .ok (.ireturn, 1) := by decide +kernel
theorem dX8_heatOf_84 : decode cX8_heatOf 84 = .ok (.aload_n 0, 1) := by decide +kernel
theorem dX8_heatOf_85 : decode cX8_heatOf 85 = .ok (.getfield 31, 3) := by decide +kernel
theorem dX8_heatOf_88 : decode cX8_heatOf 88 = .ok (.iload_n 1, 1) := by decide +kernel
theorem dX8_heatOf_89 : decode cX8_heatOf 89 = .ok (.iaload, 1) := by decide +kernel
theorem dX8_heatOf_90 : decode cX8_heatOf 90 = .ok (.ireturn, 1) := by decide +kernel
theorem dX8_heatOf_91 : decode cX8_heatOf 91 = .ok (.aload_n 0, 1) := by decide +kernel
theorem dX8_heatOf_92 : decode cX8_heatOf 92 = .ok (.getfield 22, 3) := by decide +kernel
theorem dX8_heatOf_95 : decode cX8_heatOf 95 = .ok (.iload_n 1, 1) := by decide +kernel
theorem dX8_heatOf_96 : decode cX8_heatOf 96 = .ok (.iaload, 1) := by decide +kernel
theorem dX8_heatOf_97 : decode cX8_heatOf 97 = .ok (.iload_n 3, 1) := by decide +kernel
theorem dX8_heatOf_98 : decode cX8_heatOf 98 = .ok (.imul, 1) := by decide +kernel
theorem dX8_heatOf_99 : decode cX8_heatOf 99 = .ok (.ireturn, 1) := by decide +kernel
theorem dX8_heatOf_100 : decode cX8_heatOf 100 = .ok (.aload_n 0, 1) := by decide +kernel
theorem dX8_heatOf_101 : decode cX8_heatOf 101 = .ok (.iload_n 1, 1) := by decide +kernel
theorem dX8_heatOf_102 : decode cX8_heatOf 102 = .ok (.invokevirtual 61, 3) := by decide +kernel
theorem dX8_heatOf_105 : decode cX8_heatOf 105 = .ok (.ireturn, 1) := by decide +kernel
theorem dX8_sumOf_0 : decode cX8_sumOf 0 = .ok (.iconst 0, 1) := by decide +kernel
theorem dX8_sumOf_1 : decode cX8_sumOf 1 = .ok (.istore_n 2, 1) := by decide +kernel
theorem dX8_sumOf_2 : decode cX8_sumOf 2 = .ok (.iconst 1, 1) := by decide +kernel
theorem dX8_sumOf_3 : decode cX8_sumOf 3 = .ok (.istore_n 3, 1) := by decide +kernel
theorem dX8_sumOf_4 : decode cX8_sumOf 4 = .ok (.iload_n 3, 1) := by decide +kernel
theorem dX8_sumOf_5 : decode cX8_sumOf 5 = .ok (.aload_n 0, 1) := by decide +kernel
theorem dX8_sumOf_6 : decode cX8_sumOf 6 = .ok (.getfield 7, 3) := by decide +kernel
theorem dX8_sumOf_9 : decode cX8_sumOf 9 = .ok (.iconst 5, 1) := by decide +kernel
theorem dX8_sumOf_10 : decode cX8_sumOf 10 = .ok (.iaload, 1) := by decide +kernel
theorem dX8_sumOf_11 : decode cX8_sumOf 11 = .ok (.if_icmp .ge 18, 3) := by decide +kernel
theorem dX8_sumOf_14 : decode cX8_sumOf 14 = .ok (.iload_n 2, 1) := by decide +kernel
theorem dX8_sumOf_15 : decode cX8_sumOf 15 = .ok (.aload_n 0, 1) := by decide +kernel
theorem dX8_sumOf_16 : decode cX8_sumOf 16 = .ok (.iload_n 3, 1) := by decide +kernel
theorem dX8_sumOf_17 : decode cX8_sumOf 17 = .ok (.iload_n 1, 1) := by decide +kernel
theorem dX8_sumOf_18 : decode cX8_sumOf 18 = .ok (.invokevirtual 64, 3) := by decide +kernel
theorem dX8_sumOf_21 : decode cX8_sumOf 21 = .ok (.iadd, 1) := by decide +kernel
theorem dX8_sumOf_22 : decode cX8_sumOf 22 = .ok (.istore_n 2, 1) := by decide +kernel
theorem dX8_sumOf_23 : decode cX8_sumOf 23 = .ok (.iinc 3 1, 3) := by decide +kernel
theorem dX8_sumOf_26 : decode cX8_sumOf 26 = .ok (.goto (-22), 3) := by decide +kernel
theorem dX8_sumOf_29 : decode cX8_sumOf 29 = .ok (.iload_n 2, 1) := by decide +kernel
theorem dX8_sumOf_30 : decode cX8_sumOf 30 = .ok (.ireturn, 1) := by decide +kernel
theorem dX8_ofBoiler_0 : decode cX8_ofBoiler 0 = .ok (.aload_n 0, 1) := by decide +kernel
theorem dX8_ofBoiler_1 : decode cX8_ofBoiler 1 = .ok (.getfield 7, 3) := by decide +kernel
theorem dX8_ofBoiler_4 : decode cX8_ofBoiler 4 = .ok (.sipush 137, 3) := by decide +kernel
theorem dX8_ofBoiler_7 : decode cX8_ofBoiler 7 = .ok (.iconst 3, 1) := by decide +kernel
theorem dX8_ofBoiler_8 : decode cX8_ofBoiler 8 = .ok (.iload_n 1, 1) := by decide +kernel
theorem dX8_ofBoiler_9 : decode cX8_ofBoiler 9 = .ok (.imul, 1) := by decide +kernel
theorem dX8_ofBoiler_10 : decode cX8_ofBoiler 10 = .ok (.iadd, 1) := by decide +kernel
theorem dX8_ofBoiler_11 : decode cX8_ofBoiler 11 = .ok (.iload_n 2, 1) := by decide +kernel
theorem dX8_ofBoiler_12 : decode cX8_ofBoiler 12 = .ok (.iadd, 1) := by decide +kernel
theorem dX8_ofBoiler_13 : decode cX8_ofBoiler 13 = .ok (.iaload, 1) := by decide +kernel
theorem dX8_ofBoiler_14 : decode cX8_ofBoiler 14 = .ok (.ireturn, 1) := by decide +kernel
theorem dX8_placeOf_0 : decode cX8_placeOf 0 = .ok (.iconst 0, 1) := by decide +kernel
theorem dX8_placeOf_1 : decode cX8_placeOf 1 = .ok (.istore_n 2, 1) := by decide +kernel
theorem dX8_placeOf_2 : decode cX8_placeOf 2 = .ok (.iconst 0, 1) := by decide +kernel
theorem dX8_placeOf_3 : decode cX8_placeOf 3 = .ok (.istore_n 3, 1) := by decide +kernel
theorem dX8_placeOf_4 : decode cX8_placeOf 4 = .ok (.iload_n 3, 1) := by decide +kernel
theorem dX8_placeOf_5 : decode cX8_placeOf 5 = .ok (.aload_n 0, 1) := by decide +kernel
theorem dX8_placeOf_6 : decode cX8_placeOf 6 = .ok (.getfield 7, 3) := by decide +kernel
theorem dX8_placeOf_9 : decode cX8_placeOf 9 = .ok (.bipush 6, 2) := by decide +kernel
theorem dX8_placeOf_11 : decode cX8_placeOf 11 = .ok (.iaload, 1) := by decide +kernel
theorem dX8_placeOf_12 : decode cX8_placeOf 12 = .ok (.if_icmp .ge 52, 3) := by decide +kernel
