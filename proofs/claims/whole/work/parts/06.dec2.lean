theorem dX8_placeOf_15 : decode cX8_placeOf 15 = .ok (.iload_n 2, 1) := by decide +kernel
theorem dX8_placeOf_16 : decode cX8_placeOf 16 = .ok (.aload_n 0, 1) := by decide +kernel
theorem dX8_placeOf_17 : decode cX8_placeOf 17 = .ok (.iload_n 3, 1) := by decide +kernel
theorem dX8_placeOf_18 : decode cX8_placeOf 18 = .ok (.iconst 2, 1) := by decide +kernel
theorem dX8_placeOf_19 : decode cX8_placeOf 19 = .ok (.invokevirtual 67, 3) := by decide +kernel
theorem dX8_placeOf_22 : decode cX8_placeOf 22 = .ok (.aload_n 0, 1) := by decide +kernel
theorem dX8_placeOf_23 : decode cX8_placeOf 23 = .ok (.iload_n 1, 1) := by decide +kernel
theorem dX8_placeOf_24 : decode cX8_placeOf 24 = .ok (.iconst 2, 1) := by decide +kernel
theorem dX8_placeOf_25 : decode cX8_placeOf 25 = .ok (.invokevirtual 67, 3) := by decide +kernel
theorem dX8_placeOf_28 : decode cX8_placeOf 28 = .ok (.if_icmp .lt 23, 3) := by decide +kernel
theorem dX8_placeOf_31 : decode cX8_placeOf 31 = .ok (.aload_n 0, 1) := by decide +kernel
theorem dX8_placeOf_32 : decode cX8_placeOf 32 = .ok (.iload_n 3, 1) := by decide +kernel
theorem dX8_placeOf_33 : decode cX8_placeOf 33 = .ok (.iconst 2, 1) := by decide +kernel
theorem dX8_placeOf_34 : decode cX8_placeOf 34 = .ok (.invokevirtual 67, 3) := by decide +kernel
theorem dX8_placeOf_37 : decode cX8_placeOf 37 = .ok (.aload_n 0, 1) := by decide +kernel
theorem dX8_placeOf_38 : decode cX8_placeOf 38 = .ok (.iload_n 1, 1) := by decide +kernel
theorem dX8_placeOf_39 : decode cX8_placeOf 39 = .ok (.iconst 2, 1) := by decide +kernel
theorem dX8_placeOf_40 : decode cX8_placeOf 40 = .ok (.invokevirtual 67, 3) := by decide +kernel
theorem dX8_placeOf_43 : decode cX8_placeOf 43 = .ok (.if_icmp .ne 12, 3) := by decide +kernel
theorem dX8_placeOf_46 : decode cX8_placeOf 46 = .ok (.iload_n 3, 1) := by decide +kernel
theorem dX8_placeOf_47 : decode cX8_placeOf 47 = .ok (.iload_n 1, 1) := by decide +kernel
theorem dX8_placeOf_48 : decode cX8_placeOf 48 = .ok (.if_icmp .ge 7, 3) := by decide +kernel
theorem dX8_placeOf_51 : decode cX8_placeOf 51 = .ok (.iconst 1, 1) := by decide +kernel
theorem dX8_placeOf_52 : decode cX8_placeOf 52 = .ok (.goto 4, 3) := by decide +kernel
theorem dX8_placeOf_55 : decode cX8_placeOf 55 = .ok (.iconst 0, 1) := by decide +kernel
theorem dX8_placeOf_56 : decode cX8_placeOf 56 = .ok (.iadd, 1) := by decide +kernel
theorem dX8_placeOf_57 : decode cX8_placeOf 57 = .ok (.istore_n 2, 1) := by decide +kernel
theorem dX8_placeOf_58 : decode cX8_placeOf 58 = .ok (.iinc 3 1, 3) := by decide +kernel
theorem dX8_placeOf_61 : decode cX8_placeOf 61 = .ok (.goto (-57), 3) := by decide +kernel
theorem dX8_placeOf_64 : decode cX8_placeOf 64 = .ok (.iload_n 2, 1) := by decide +kernel
theorem dX8_placeOf_65 : decode cX8_placeOf 65 = .ok (.ireturn, 1) := by decide +kernel
theorem dX8_boilerAt_0 : decode cX8_boilerAt 0 = .ok (.iconst 0, 1) := by decide +kernel
theorem dX8_boilerAt_1 : decode cX8_boilerAt 1 = .ok (.istore_n 2, 1) := by decide +kernel
theorem dX8_boilerAt_2 : decode cX8_boilerAt 2 = .ok (.aload_n 0, 1) := by decide +kernel
theorem dX8_boilerAt_3 : decode cX8_boilerAt 3 = .ok (.iload_n 2, 1) := by decide +kernel
theorem dX8_boilerAt_4 : decode cX8_boilerAt 4 = .ok (.invokevirtual 70, 3) := by decide +kernel
theorem dX8_boilerAt_7 : decode cX8_boilerAt 7 = .ok (.iload_n 1, 1) := by decide +kernel
theorem dX8_boilerAt_8 : decode cX8_boilerAt 8 = .ok (.if_icmp .eq 9, 3) := by decide +kernel
theorem dX8_boilerAt_11 : decode cX8_boilerAt 11 = .ok (.iinc 2 1, 3) := by decide +kernel
theorem dX8_boilerAt_14 : decode cX8_boilerAt 14 = .ok (.goto (-12), 3) := by decide +kernel
theorem dX8_boilerAt_17 : decode cX8_boilerAt 17 = .ok (.iload_n 2, 1) := by decide +kernel
theorem dX8_boilerAt_18 : decode cX8_boilerAt 18 = .ok (.ireturn, 1) := by decide +kernel
theorem dX8_costs_0 : decode cX8_costs 0 = .ok (.aload_n 0, 1) := by decide +kernel
theorem dX8_costs_1 : decode cX8_costs 1 = .ok (.invokevirtual 73, 3) := by decide +kernel
theorem dX8_costs_4 : decode cX8_costs 4 = .ok (.istore_n 1, 1) := by decide +kernel
theorem dX8_costs_5 : decode cX8_costs 5 = .ok (.iconst 0, 1) := by decide +kernel
theorem dX8_costs_6 : decode cX8_costs 6 = .ok (.istore_n 2, 1) := by decide +kernel
theorem dX8_costs_7 : decode cX8_costs 7 = .ok (.iconst 0, 1) := by decide +kernel
theorem dX8_costs_8 : decode cX8_costs 8 = .ok (.istore_n 3, 1) := by decide +kernel
theorem dX8_costs_9 : decode cX8_costs 9 = .ok (.iload_n 3, 1) := by decide +kernel
theorem dX8_costs_10 : decode cX8_costs 10 = .ok (.aload_n 0, 1) := by decide +kernel
theorem dX8_costs_11 : decode cX8_costs 11 = .ok (.getfield 7, 3) := by decide +kernel
theorem dX8_costs_14 : decode cX8_costs 14 = .ok (.bipush 6, 2) := by decide +kernel
theorem dX8_costs_16 : decode cX8_costs 16 = .ok (.iaload, 1) := by decide +kernel
theorem dX8_costs_17 : decode cX8_costs 17 = .ok (.if_icmp .ge 88, 3) := by decide +kernel
theorem dX8_costs_20 : decode cX8_costs 20 = .ok (.aload_n 0, 1) := by decide +kernel
theorem dX8_costs_21 : decode cX8_costs 21 = .ok (.iload_n 3, 1) := by decide +kernel
theorem dX8_costs_22 : decode cX8_costs 22 = .ok (.invokevirtual 77, 3) := by decide +kernel
theorem dX8_costs_25 : decode cX8_costs 25 = .ok (.istore 4, 2) := by decide +kernel
theorem dX8_costs_27 : decode cX8_costs 27 = .ok (.aload_n 0, 1) := by decide +kernel
theorem dX8_costs_28 : decode cX8_costs 28 = .ok (.iload 4, 2) := by decide +kernel
theorem dX8_costs_30 : decode cX8_costs 30 = .ok (.iconst 0, 1) := by decide +kernel
theorem dX8_costs_31 : decode cX8_costs 31 = .ok (.invokevirtual 67, 3) := by decide +kernel
theorem dX8_costs_34 : decode cX8_costs 34 = .ok (.iload_n 1, 1) := by decide +kernel
theorem dX8_costs_35 : decode cX8_costs 35 = .ok (.invokestatic 52, 3) := by decide +kernel
theorem dX8_costs_38 : decode cX8_costs 38 = .ok (.istore 5, 2) := by decide +kernel
theorem dX8_costs_40 : decode cX8_costs 40 = .ok (.iload_n 1, 1) := by decide +kernel
theorem dX8_costs_41 : decode cX8_costs 41 = .ok (.iload 5, 2) := by decide +kernel
theorem dX8_costs_43 : decode cX8_costs 43 = .ok (.isub, 1) := by decide +kernel
theorem dX8_costs_44 : decode cX8_costs 44 = .ok (.istore_n 1, 1) := by decide +kernel
theorem dX8_costs_45 : decode cX8_costs 45 = .ok (.iload 5, 2) := by decide +kernel
theorem dX8_costs_47 : decode cX8_costs 47 = .ok (.ifCond .le 26, 3) := by decide +kernel
theorem dX8_costs_50 : decode cX8_costs 50 = .ok (.iload 5, 2) := by decide +kernel
theorem dX8_costs_52 : decode cX8_costs 52 = .ok (.aload_n 0, 1) := by decide +kernel
theorem dX8_costs_53 : decode cX8_costs 53 = .ok (.iload 4, 2) := by decide +kernel
theorem dX8_costs_55 : decode cX8_costs 55 = .ok (.iconst 1, 1) := by decide +kernel
theorem dX8_costs_56 : decode cX8_costs 56 = .ok (.invokevirtual 67, 3) := by decide +kernel
theorem dX8_costs_59 : decode cX8_costs 59 = .ok (.if_icmp .ge 14, 3) := by decide +kernel
theorem dX8_costs_62 : decode cX8_costs 62 = .ok (.aload_n 0, 1) := by decide +kernel
theorem dX8_costs_63 : decode cX8_costs 63 = .ok (.iload 4, 2) := by decide +kernel
theorem dX8_costs_65 : decode cX8_costs 65 = .ok (.iconst 1, 1) := by decide +kernel
theorem dX8_costs_66 : decode cX8_costs 66 = .ok (.invokevirtual 67, 3) := by decide +kernel
theorem dX8_costs_69 : decode cX8_costs 69 = .ok (.istore 5, 2) := by decide +kernel
theorem dX8_costs_71 : decode cX8_costs 71 = .ok (.iconst 0, 1) := by decide +kernel
theorem dX8_costs_72 : decode cX8_costs 72 = .ok (.istore_n 1, 1) := by decide +kernel
theorem dX8_costs_73 : decode cX8_costs 73 = .ok (.aload_n 0, 1) := by decide +kernel
theorem dX8_costs_74 : decode cX8_costs 74 = .ok (.getfield 34, 3) := by decide +kernel
theorem dX8_costs_77 : decode cX8_costs 77 = .ok (.iload 4, 2) := by decide +kernel
theorem dX8_costs_79 : decode cX8_costs 79 = .ok (.iload 5, 2) := by decide +kernel
theorem dX8_costs_81 : decode cX8_costs 81 = .ok (.iastore, 1) := by decide +kernel
theorem dX8_costs_82 : decode cX8_costs 82 = .ok (.iload_n 2, 1) := by decide +kernel
theorem dX8_costs_83 : decode cX8_costs 83 = .ok (.iload 5, 2) := by decide +kernel
theorem dX8_costs_85 : decode cX8_costs 85 = .ok (.aload_n 0, 1) := by decide +kernel
theorem dX8_costs_86 : decode cX8_costs 86 = .ok (.iload 4, 2) := by decide +kernel
theorem dX8_costs_88 : decode cX8_costs 88 = .ok (.iconst 2, 1) := by decide +kernel
theorem dX8_costs_89 : decode cX8_costs 89 = .ok (.invokevirtual 67, 3) := by decide +kernel
theorem dX8_costs_92 : decode cX8_costs 92 = .ok (.imul, 1) := by decide +kernel
theorem dX8_costs_93 : decode cX8_costs 93 = .ok (.sipush 1000, 3) := by decide +kernel
theorem dX8_costs_96 : decode cX8_costs 96 = .ok (.idiv, 1) := by decide +kernel
theorem dX8_costs_97 : decode cX8_costs 97 = .ok (.iadd, 1) := by decide +kernel
theorem dX8_costs_98 : decode cX8_costs 98 = .ok (.istore_n 2, 1) := by decide +kernel
theorem dX8_costs_99 : decode cX8_costs 99 = .ok (.iinc 3 1, 3) := by decide +kernel
theorem dX8_costs_102 : decode cX8_costs 102 = .ok (.goto (-93), 3) := by decide +kernel
theorem dX8_costs_105 : decode cX8_costs 105 = .ok (.aload_n 0, 1) := by decide +kernel
theorem dX8_costs_106 : decode cX8_costs 106 = .ok (.iload_n 1, 1) := by decide +kernel
theorem dX8_costs_107 : decode cX8_costs 107 = .ok (.putfield 80, 3) := by decide +kernel
theorem dX8_costs_110 : decode cX8_costs 110 = .ok (.iload_n 2, 1) := by decide +kernel
theorem dX8_costs_111 : decode cX8_costs 111 = .ok (.ireturn, 1) := by decide +kernel
theorem dX8_isPipe__0 : decode cX8_isPipe_ 0 = .ok (.iload_n 0, 1) := by decide +kernel
theorem dX8_isPipe__1 : decode cX8_isPipe_ 1 = .ok (.iconst 1, 1) := by decide +kernel
theorem dX8_isPipe__2 : decode cX8_isPipe_ 2 = .ok (.sipush 500, 3) := by decide +kernel
theorem dX8_isPipe__5 : decode cX8_isPipe_ 5 = .ok (.invokestatic 83, 3) := by decide +kernel
theorem dX8_isPipe__8 : decode cX8_isPipe_ 8 = .ok (.ifCond .eq 17, 3) := by decide +kernel
theorem dX8_isPipe__11 : decode cX8_isPipe_ 11 = .ok (.iload_n 1, 1) := by decide +kernel
theorem dX8_isPipe__12 : decode cX8_isPipe_ 12 = .ok (.iconst 0, 1) := by decide +kernel
theorem dX8_isPipe__13 : decode cX8_isPipe_ 13 = .ok (.bipush 50, 2) := by decide +kernel
theorem dX8_isPipe__15 : decode cX8_isPipe_ 15 = .ok (.invokestatic 83, 3) := by decide +kernel
theorem dX8_isPipe__18 : decode cX8_isPipe_ 18 = .ok (.ifCond .eq 7, 3) := by decide +kernel
theorem dX8_isPipe__21 : decode cX8_isPipe_ 21 = .ok (.iconst 1, 1) := by decide +kernel
theorem dX8_isPipe__22 : decode cX8_isPipe_ 22 = .ok (.goto 4, 3) := by decide +kernel
theorem dX8_isPipe__25 : decode cX8_isPipe_ 25 = .ok (.iconst 0, 1) := by decide +kernel
theorem dX8_isPipe__26 : decode cX8_isPipe_ 26 = .ok (.ireturn, 1) := by decide +kernel
theorem dX8_isCustomer_0 : decode cX8_isCustomer 0 = .ok (.iload_n 0, 1) := by decide +kernel
theorem dX8_isCustomer_1 : decode cX8_isCustomer 1 = .ok (.iconst 0, 1) := by decide +kernel
theorem dX8_isCustomer_2 : decode cX8_isCustomer 2 = .ok (.sipush 500, 3) := by decide +kernel
theorem dX8_isCustomer_5 : decode cX8_isCustomer 5 = .ok (.invokestatic 83, 3) := by decide +kernel
theorem dX8_isCustomer_8 : decode cX8_isCustomer 8 = .ok (.ifCond .eq 18, 3) := by decide +kernel
theorem dX8_isCustomer_11 : decode cX8_isCustomer 11 = .ok (.iload_n 1, 1) := by decide +kernel
theorem dX8_isCustomer_12 : decode cX8_isCustomer 12 = .ok (.iconst 0, 1) := by decide +kernel
theorem dX8_isCustomer_13 : decode cX8_isCustomer 13 = .ok (.sipush 1200, 3) := by decide +kernel
theorem dX8_isCustomer_16 : decode cX8_isCustomer 16 = .ok (.invokestatic 83, 3) := by decide +kernel
theorem dX8_isCustomer_19 : decode cX8_isCustomer 19 = .ok (.ifCond .eq 7, 3) := by decide +kernel
theorem dX8_isCustomer_22 : decode cX8_isCustomer 22 = .ok (.iconst 1, 1) := by decide +kernel
theorem dX8_isCustomer_23 : decode cX8_isCustomer 23 = .ok (.goto 4, 3) := by decide +kernel
theorem dX8_isCustomer_26 : decode cX8_isCustomer 26 = .ok (.iconst 0, 1) := by decide +kernel
theorem dX8_isCustomer_27 : decode cX8_isCustomer 27 = .ok (.ireturn, 1) := by decide +kernel
theorem dX8_adds_0 : decode cX8_adds 0 = .ok (.aload_n 0, 1) := by decide +kernel
theorem dX8_adds_1 : decode cX8_adds 1 = .ok (.getfield 7, 3) := by decide +kernel
theorem dX8_adds_4 : decode cX8_adds 4 = .ok (.iconst 5, 1) := by decide +kernel
theorem dX8_adds_5 : decode cX8_adds 5 = .ok (.iaload, 1) := by decide +kernel
theorem dX8_adds_6 : decode cX8_adds 6 = .ok (.istore 6, 2) := by decide +kernel
theorem dX8_adds_8 : decode cX8_adds 8 = .ok (.aload_n 0, 1) := by decide +kernel
theorem dX8_adds_9 : decode cX8_adds 9 = .ok (.iload 6, 2) := by decide +kernel
theorem dX8_adds_11 : decode cX8_adds 11 = .ok (.iconst 0, 1) := by decide +kernel
theorem dX8_adds_12 : decode cX8_adds 12 = .ok (.iload_n 1, 1) := by decide +kernel
theorem dX8_adds_13 : decode cX8_adds 13 = .ok (.invokevirtual 87, 3) := by decide +kernel
theorem dX8_adds_16 : decode cX8_adds 16 = .ok (.aload_n 0, 1) := by decide +kernel
theorem dX8_adds_17 : decode cX8_adds 17 = .ok (.iload 6, 2) := by decide +kernel
theorem dX8_adds_19 : decode cX8_adds 19 = .ok (.iconst 1, 1) := by decide +kernel
theorem dX8_adds_20 : decode cX8_adds 20 = .ok (.iload_n 2, 1) := by decide +kernel
theorem dX8_adds_21 : decode cX8_adds 21 = .ok (.invokevirtual 87, 3) := by decide +kernel
theorem dX8_adds_24 : decode cX8_adds 24 = .ok (.aload_n 0, 1) := by decide +kernel
theorem dX8_adds_25 : decode cX8_adds 25 = .ok (.iload 6, 2) := by decide +kernel
theorem dX8_adds_27 : decode cX8_adds 27 = .ok (.iconst 2, 1) := by decide +kernel
theorem dX8_adds_28 : decode cX8_adds 28 = .ok (.iload_n 3, 1) := by decide +kernel
theorem dX8_adds_29 : decode cX8_adds 29 = .ok (.invokevirtual 87, 3) := by decide +kernel
theorem dX8_adds_32 : decode cX8_adds 32 = .ok (.aload_n 0, 1) := by decide +kernel
theorem dX8_adds_33 : decode cX8_adds 33 = .ok (.iload 6, 2) := by decide +kernel
theorem dX8_adds_35 : decode cX8_adds 35 = .ok (.iconst 3, 1) := by decide +kernel
theorem dX8_adds_36 : decode cX8_adds 36 = .ok (.iload 4, 2) := by decide +kernel
theorem dX8_adds_38 : decode cX8_adds 38 = .ok (.invokevirtual 87, 3) := by decide +kernel
theorem dX8_adds_41 : decode cX8_adds 41 = .ok (.aload_n 0, 1) := by decide +kernel
theorem dX8_adds_42 : decode cX8_adds 42 = .ok (.iload 6, 2) := by decide +kernel
theorem dX8_adds_44 : decode cX8_adds 44 = .ok (.iconst 4, 1) := by decide +kernel
theorem dX8_adds_45 : decode cX8_adds 45 = .ok (.iload 5, 2) := by decide +kernel
theorem dX8_adds_47 : decode cX8_adds 47 = .ok (.invokevirtual 87, 3) := by decide +kernel
theorem dX8_adds_50 : decode cX8_adds 50 = .ok (.aload_n 0, 1) := by decide +kernel
theorem dX8_adds_51 : decode cX8_adds 51 = .ok (.iload 6, 2) := by decide +kernel
theorem dX8_adds_53 : decode cX8_adds 53 = .ok (.iconst 5, 1) := by decide +kernel
theorem dX8_adds_54 : decode cX8_adds 54 = .ok (.iconst 0, 1) := by decide +kernel
theorem dX8_adds_55 : decode cX8_adds 55 = .ok (.invokevirtual 87, 3) := by decide +kernel
theorem dX8_adds_58 : decode cX8_adds 58 = .ok (.aload_n 0, 1) := by decide +kernel
theorem dX8_adds_59 : decode cX8_adds 59 = .ok (.iload 6, 2) := by decide +kernel
theorem dX8_adds_61 : decode cX8_adds 61 = .ok (.bipush 6, 2) := by decide +kernel
theorem dX8_adds_63 : decode cX8_adds 63 = .ok (.iconst 0, 1) := by decide +kernel
theorem dX8_adds_64 : decode cX8_adds 64 = .ok (.invokevirtual 87, 3) := by decide +kernel
theorem dX8_adds_67 : decode cX8_adds 67 = .ok (.aload_n 0, 1) := by decide +kernel
theorem dX8_adds_68 : decode cX8_adds 68 = .ok (.iload 6, 2) := by decide +kernel
theorem dX8_adds_70 : decode cX8_adds 70 = .ok (.bipush 7, 2) := by decide +kernel
theorem dX8_adds_72 : decode cX8_adds 72 = .ok (.iconst 0, 1) := by decide +kernel
theorem dX8_adds_73 : decode cX8_adds 73 = .ok (.invokevirtual 87, 3) := by decide +kernel
theorem dX8_adds_76 : decode cX8_adds 76 = .ok (.aload_n 0, 1) := by decide +kernel
theorem dX8_adds_77 : decode cX8_adds 77 = .ok (.getfield 7, 3) := by decide +kernel
theorem dX8_adds_80 : decode cX8_adds 80 = .ok (.iconst 5, 1) := by decide +kernel
theorem dX8_adds_81 : decode cX8_adds 81 = .ok (.dup2, 1) := by decide +kernel
theorem dX8_adds_82 : decode cX8_adds 82 = .ok (.iaload, 1) := by decide +kernel
theorem dX8_adds_83 : decode cX8_adds 83 = .ok (.iconst 1, 1) := by decide +kernel
theorem dX8_adds_84 : decode cX8_adds 84 = .ok (.iadd, 1) := by decide +kernel
theorem dX8_adds_85 : decode cX8_adds 85 = .ok (.iastore, 1) := by decide +kernel
theorem dX8_adds_86 : decode cX8_adds 86 = .ok (.return_, 1) := by decide +kernel
theorem dX8_addNode_0 : decode cX8_addNode 0 = .ok (.aload_n 0, 1) := by decide +kernel
theorem dX8_addNode_1 : decode cX8_addNode 1 = .ok (.iload_n 1, 1) := by decide +kernel
theorem dX8_addNode_2 : decode cX8_addNode 2 = .ok (.invokevirtual 91, 3) := by decide +kernel
theorem dX8_addNode_5 : decode cX8_addNode 5 = .ok (.ifCond .ne 9, 3) := by decide +kernel
theorem dX8_addNode_8 : decode cX8_addNode 8 = .ok (.aload_n 0, 1) := by decide +kernel
theorem dX8_addNode_9 : decode cX8_addNode 9 = .ok (.iconst 1, 1) := by decide +kernel
theorem dX8_addNode_10 : decode cX8_addNode 10 = .ok (.invokevirtual 95, 3) := by decide +kernel
theorem dX8_addNode_13 : decode cX8_addNode 13 = .ok (.ireturn, 1) := by decide +kernel
theorem dX8_addNode_14 : decode cX8_addNode 14 = .ok (.iload_n 2, 1) := by decide +kernel
theorem dX8_addNode_15 : decode cX8_addNode 15 = .ok (.iload_n 3, 1) := by decide +kernel
theorem dX8_addNode_16 : decode cX8_addNode 16 = .ok (.invokestatic 98, 3) := by decide +kernel
theorem dX8_addNode_19 : decode cX8_addNode 19 = .ok (.ifCond .eq 13, 3) := by decide +kernel
theorem dX8_addNode_22 : decode cX8_addNode 22 = .ok (.iload 4, 2) := by decide +kernel
theorem dX8_addNode_24 : decode cX8_addNode 24 = .ok (.iload 5, 2) := by decide +kernel
theorem dX8_addNode_26 : decode cX8_addNode 26 = .ok (.invokestatic 102, 3) := by decide +kernel
theorem dX8_addNode_29 : decode cX8_addNode 29 = .ok (.ifCond .ne 9, 3) := by decide +kernel
theorem dX8_addNode_32 : decode cX8_addNode 32 = .ok (.aload_n 0, 1) := by decide +kernel
theorem dX8_addNode_33 : decode cX8_addNode 33 = .ok (.iconst 2, 1) := by decide +kernel
theorem dX8_addNode_34 : decode cX8_addNode 34 = .ok (.invokevirtual 95, 3) := by decide +kernel
theorem dX8_addNode_37 : decode cX8_addNode 37 = .ok (.ireturn, 1) := by decide +kernel
theorem dX8_addNode_38 : decode cX8_addNode 38 = .ok (.aload_n 0, 1) := by decide +kernel
theorem dX8_addNode_39 : decode cX8_addNode 39 = .ok (.getfield 7, 3) := by decide +kernel
theorem dX8_addNode_42 : decode cX8_addNode 42 = .ok (.iconst 5, 1) := by decide +kernel
theorem dX8_addNode_43 : decode cX8_addNode 43 = .ok (.iaload, 1) := by decide +kernel
theorem dX8_addNode_44 : decode cX8_addNode 44 = .ok (.bipush 16, 2) := by decide +kernel
theorem dX8_addNode_46 : decode cX8_addNode 46 = .ok (.if_icmp .ne 9, 3) := by decide +kernel
theorem dX8_addNode_49 : decode cX8_addNode 49 = .ok (.aload_n 0, 1) := by decide +kernel
theorem dX8_addNode_50 : decode cX8_addNode 50 = .ok (.iconst 3, 1) := by decide +kernel
theorem dX8_addNode_51 : decode cX8_addNode 51 = .ok (.invokevirtual 95, 3) := by decide +kernel
theorem dX8_addNode_54 : decode cX8_addNode 54 = .ok (.ireturn, 1) := by decide +kernel
theorem dX8_addNode_55 : decode cX8_addNode 55 = .ok (.aload_n 0, 1) := by decide +kernel
theorem dX8_addNode_56 : decode cX8_addNode 56 = .ok (.invokevirtual 105, 3) := by decide +kernel
theorem dX8_addNode_59 : decode cX8_addNode 59 = .ok (.aload_n 0, 1) := by decide +kernel
theorem dX8_addNode_60 : decode cX8_addNode 60 = .ok (.iload_n 1, 1) := by decide +kernel
theorem dX8_addNode_61 : decode cX8_addNode 61 = .ok (.iload_n 2, 1) := by decide +kernel
theorem dX8_addNode_62 : decode cX8_addNode 62 = .ok (.iload_n 3, 1) := by decide +kernel
theorem dX8_addNode_63 : decode cX8_addNode 63 = .ok (.iload 4, 2) := by decide +kernel
theorem dX8_addNode_65 : decode cX8_addNode 65 = .ok (.iload 5, 2) := by decide +kernel
theorem dX8_addNode_67 : decode cX8_addNode 67 = .ok (.invokevirtual 108, 3) := by decide +kernel
theorem dX8_addNode_70 : decode cX8_addNode 70 = .ok (.aload_n 0, 1) := by decide +kernel
theorem dX8_addNode_71 : decode cX8_addNode 71 = .ok (.aload_n 0, 1) := by decide +kernel
theorem dX8_addNode_72 : decode cX8_addNode 72 = .ok (.getfield 7, 3) := by decide +kernel
theorem dX8_addNode_75 : decode cX8_addNode 75 = .ok (.iconst 5, 1) := by decide +kernel
theorem dX8_addNode_76 : decode cX8_addNode 76 = .ok (.iaload, 1) := by decide +kernel
theorem dX8_addNode_77 : decode cX8_addNode 77 = .ok (.iconst 1, 1) := by decide +kernel
theorem dX8_addNode_78 : decode cX8_addNode 78 = .ok (.isub, 1) := by decide +kernel
theorem dX8_addNode_79 : decode cX8_addNode 79 = .ok (.invokevirtual 112, 3) := by decide +kernel
theorem dX8_addNode_82 : decode cX8_addNode 82 = .ok (.ireturn, 1) := by decide +kernel
theorem dX8_setDraw_0 : decode cX8_setDraw 0 = .ok (.aload_n 0, 1) := by decide +kernel
theorem dX8_setDraw_1 : decode cX8_setDraw 1 = .ok (.iload_n 1, 1) := by decide +kernel
theorem dX8_setDraw_2 : decode cX8_setDraw 2 = .ok (.invokevirtual 115, 3) := by decide +kernel
theorem dX8_setDraw_5 : decode cX8_setDraw 5 = .ok (.ifCond .ne 9, 3) := by decide +kernel
theorem dX8_setDraw_8 : decode cX8_setDraw 8 = .ok (.aload_n 0, 1) := by decide +kernel
theorem dX8_setDraw_9 : decode cX8_setDraw 9 = .ok (.iconst 1, 1) := by decide +kernel
theorem dX8_setDraw_10 : decode cX8_setDraw 10 = .ok (.invokevirtual 95, 3) := by decide +kernel
theorem dX8_setDraw_13 : decode cX8_setDraw 13 = .ok (.ireturn, 1) := by decide +kernel
theorem dX8_setDraw_14 : decode cX8_setDraw 14 = .ok (.iload_n 2, 1) := by decide +kernel
theorem dX8_setDraw_15 : decode cX8_setDraw 15 = .ok (.iload_n 3, 1) := by decide +kernel
theorem dX8_setDraw_16 : decode cX8_setDraw 16 = .ok (.invokestatic 102, 3) := by decide +kernel
theorem dX8_setDraw_19 : decode cX8_setDraw 19 = .ok (.ifCond .ne 9, 3) := by decide +kernel
theorem dX8_setDraw_22 : decode cX8_setDraw 22 = .ok (.aload_n 0, 1) := by decide +kernel
theorem dX8_setDraw_23 : decode cX8_setDraw 23 = .ok (.iconst 2, 1) := by decide +kernel
theorem dX8_setDraw_24 : decode cX8_setDraw 24 = .ok (.invokevirtual 95, 3) := by decide +kernel
theorem dX8_setDraw_27 : decode cX8_setDraw 27 = .ok (.ireturn, 1) := by decide +kernel
theorem dX8_setDraw_28 : decode cX8_setDraw 28 = .ok (.aload_n 0, 1) := by decide +kernel
theorem dX8_setDraw_29 : decode cX8_setDraw 29 = .ok (.invokevirtual 105, 3) := by decide +kernel
theorem dX8_setDraw_32 : decode cX8_setDraw 32 = .ok (.aload_n 0, 1) := by decide +kernel
theorem dX8_setDraw_33 : decode cX8_setDraw 33 = .ok (.iload_n 1, 1) := by decide +kernel
theorem dX8_setDraw_34 : decode cX8_setDraw 34 = .ok (.iconst 3, 1) := by decide +kernel
theorem dX8_setDraw_35 : decode cX8_setDraw 35 = .ok (.invokevirtual 48, 3) := by decide +kernel
theorem dX8_setDraw_38 : decode cX8_setDraw 38 = .ok (.istore 4, 2) := by decide +kernel
theorem dX8_setDraw_40 : decode cX8_setDraw 40 = .ok (.aload_n 0, 1) := by decide +kernel
theorem dX8_setDraw_41 : decode cX8_setDraw 41 = .ok (.iload_n 1, 1) := by decide +kernel
theorem dX8_setDraw_42 : decode cX8_setDraw 42 = .ok (.iconst 3, 1) := by decide +kernel
theorem dX8_setDraw_43 : decode cX8_setDraw 43 = .ok (.iload_n 2, 1) := by decide +kernel
theorem dX8_setDraw_44 : decode cX8_setDraw 44 = .ok (.invokevirtual 87, 3) := by decide +kernel
theorem dX8_setDraw_47 : decode cX8_setDraw 47 = .ok (.aload_n 0, 1) := by decide +kernel
theorem dX8_setDraw_48 : decode cX8_setDraw 48 = .ok (.iload_n 1, 1) := by decide +kernel
theorem dX8_setDraw_49 : decode cX8_setDraw 49 = .ok (.iconst 4, 1) := by decide +kernel
theorem dX8_setDraw_50 : decode cX8_setDraw 50 = .ok (.iload_n 3, 1) := by decide +kernel
theorem dX8_setDraw_51 : decode cX8_setDraw 51 = .ok (.invokevirtual 87, 3) := by decide +kernel
theorem dX8_setDraw_54 : decode cX8_setDraw 54 = .ok (.aload_n 0, 1) := by decide +kernel
theorem dX8_setDraw_55 : decode cX8_setDraw 55 = .ok (.iload 4, 2) := by decide +kernel
theorem dX8_setDraw_57 : decode cX8_setDraw 57 = .ok (.invokevirtual 112, 3) := by decide +kernel
theorem dX8_setDraw_60 : decode cX8_setDraw 60 = .ok (.ireturn, 1) := by decide +kernel
theorem dX8_setLeak_0 : decode cX8_setLeak 0 = .ok (.aload_n 0, 1) := by decide +kernel
theorem dX8_setLeak_1 : decode cX8_setLeak 1 = .ok (.iload_n 1, 1) := by decide +kernel
theorem dX8_setLeak_2 : decode cX8_setLeak 2 = .ok (.invokevirtual 115, 3) := by decide +kernel
theorem dX8_setLeak_5 : decode cX8_setLeak 5 = .ok (.ifCond .ne 9, 3) := by decide +kernel
theorem dX8_setLeak_8 : decode cX8_setLeak 8 = .ok (.aload_n 0, 1) := by decide +kernel
theorem dX8_setLeak_9 : decode cX8_setLeak 9 = .ok (.iconst 1, 1) := by decide +kernel
theorem dX8_setLeak_10 : decode cX8_setLeak 10 = .ok (.invokevirtual 95, 3) := by decide +kernel
theorem dX8_setLeak_13 : decode cX8_setLeak 13 = .ok (.ireturn, 1) := by decide +kernel
theorem dX8_setLeak_14 : decode cX8_setLeak 14 = .ok (.iload_n 2, 1) := by decide +kernel
theorem dX8_setLeak_15 : decode cX8_setLeak 15 = .ok (.iconst 0, 1) := by decide +kernel
theorem dX8_setLeak_16 : decode cX8_setLeak 16 = .ok (.bipush 100, 2) := by decide +kernel
theorem dX8_setLeak_18 : decode cX8_setLeak 18 = .ok (.invokestatic 83, 3) := by decide +kernel
theorem dX8_setLeak_21 : decode cX8_setLeak 21 = .ok (.ifCond .ne 9, 3) := by decide +kernel
theorem dX8_setLeak_24 : decode cX8_setLeak 24 = .ok (.aload_n 0, 1) := by decide +kernel
theorem dX8_setLeak_25 : decode cX8_setLeak 25 = .ok (.iconst 2, 1) := by decide +kernel
theorem dX8_setLeak_26 : decode cX8_setLeak 26 = .ok (.invokevirtual 95, 3) := by decide +kernel
theorem dX8_setLeak_29 : decode cX8_setLeak 29 = .ok (.ireturn, 1) := by decide +kernel
theorem dX8_setLeak_30 : decode cX8_setLeak 30 = .ok (.aload_n 0, 1) := by decide +kernel
theorem dX8_setLeak_31 : decode cX8_setLeak 31 = .ok (.invokevirtual 105, 3) := by decide +kernel
theorem dX8_setLeak_34 : decode cX8_setLeak 34 = .ok (.aload_n 0, 1) := by decide +kernel
theorem dX8_setLeak_35 : decode cX8_setLeak 35 = .ok (.iload_n 1, 1) := by decide +kernel
theorem dX8_setLeak_36 : decode cX8_setLeak 36 = .ok (.iconst 5, 1) := by decide +kernel
theorem dX8_setLeak_37 : decode cX8_setLeak 37 = .ok (.invokevirtual 48, 3) := by decide +kernel
theorem dX8_setLeak_40 : decode cX8_setLeak 40 = .ok (.istore_n 3, 1) := by decide +kernel
theorem dX8_setLeak_41 : decode cX8_setLeak 41 = .ok (.aload_n 0, 1) := by decide +kernel
theorem dX8_setLeak_42 : decode cX8_setLeak 42 = .ok (.iload_n 1, 1) := by decide +kernel
theorem dX8_setLeak_43 : decode cX8_setLeak 43 = .ok (.iconst 5, 1) := by decide +kernel
theorem dX8_setLeak_44 : decode cX8_setLeak 44 = .ok (.iload_n 2, 1) := by decide +kernel
theorem dX8_setLeak_45 : decode cX8_setLeak 45 = .ok (.invokevirtual 87, 3) := by decide +kernel
theorem dX8_setLeak_48 : decode cX8_setLeak 48 = .ok (.aload_n 0, 1) := by decide +kernel
theorem dX8_setLeak_49 : decode cX8_setLeak 49 = .ok (.iload_n 3, 1) := by decide +kernel
theorem dX8_setLeak_50 : decode cX8_setLeak 50 = .ok (.invokevirtual 112, 3) := by decide +kernel
theorem dX8_setLeak_53 : decode cX8_setLeak 53 = .ok (.ireturn, 1) := by decide +kernel
theorem dX8_setTemperatures_0 : decode cX8_setTemperatures 0 = .ok (.iload_n 1, 1) := by decide +kernel
theorem dX8_setTemperatures_1 : decode cX8_setTemperatures 1 = .ok (.sipush 400, 3) := by decide +kernel
theorem dX8_setTemperatures_4 : decode cX8_setTemperatures 4 = .ok (.sipush 1200, 3) := by decide +kernel
theorem dX8_setTemperatures_7 : decode cX8_setTemperatures 7 = .ok (.invokestatic 83, 3) := by decide +kernel
theorem dX8_setTemperatures_10 : decode cX8_setTemperatures 10 = .ok (.ifCond .eq 16, 3) := by decide +kernel
theorem dX8_setTemperatures_13 : decode cX8_setTemperatures 13 = .ok (.iload_n 2, 1) := by decide +kernel
theorem dX8_setTemperatures_14 : decode cX8_setTemperatures 14 = .ok (.sipush (-200), 3) := by decide +kernel
theorem dX8_setTemperatures_17 : decode cX8_setTemperatures 17 = .ok (.sipush 300, 3) := by decide +kernel
theorem dX8_setTemperatures_20 : decode cX8_setTemperatures 20 = .ok (.invokestatic 83, 3) := by decide +kernel
theorem dX8_setTemperatures_23 : decode cX8_setTemperatures 23 = .ok (.ifCond .ne 9, 3) := by decide +kernel
theorem dX8_setTemperatures_26 : decode cX8_setTemperatures 26 = .ok (.aload_n 0, 1) := by decide +kernel
theorem dX8_setTemperatures_27 : decode cX8_setTemperatures 27 = .ok (.iconst 1, 1) := by decide +kernel
theorem dX8_setTemperatures_28 : decode cX8_setTemperatures 28 = .ok (.invokevirtual 95, 3) := by decide +kernel
theorem dX8_setTemperatures_31 : decode cX8_setTemperatures 31 = .ok (.ireturn, 1) := by decide +kernel
theorem dX8_setTemperatures_32 : decode cX8_setTemperatures 32 = .ok (.aload_n 0, 1) := by decide +kernel
theorem dX8_setTemperatures_33 : decode cX8_setTemperatures 33 = .ok (.invokevirtual 105, 3) := by decide +kernel
theorem dX8_setTemperatures_36 : decode cX8_setTemperatures 36 = .ok (.aload_n 0, 1) := by decide +kernel
theorem dX8_setTemperatures_37 : decode cX8_setTemperatures 37 = .ok (.getfield 7, 3) := by decide +kernel
theorem dX8_setTemperatures_40 : decode cX8_setTemperatures 40 = .ok (.iconst 0, 1) := by decide +kernel
theorem dX8_setTemperatures_41 : decode cX8_setTemperatures 41 = .ok (.iaload, 1) := by decide +kernel
theorem dX8_setTemperatures_42 : decode cX8_setTemperatures 42 = .ok (.istore_n 3, 1) := by decide +kernel
theorem dX8_setTemperatures_43 : decode cX8_setTemperatures 43 = .ok (.aload_n 0, 1) := by decide +kernel
theorem dX8_setTemperatures_44 : decode cX8_setTemperatures 44 = .ok (.getfield 7, 3) := by decide +kernel
theorem dX8_setTemperatures_47 : decode cX8_setTemperatures 47 = .ok (.iconst 0, 1) := by decide +kernel
theorem dX8_setTemperatures_48 : decode cX8_setTemperatures 48 = .ok (.iload_n 1, 1) := by decide +kernel
theorem dX8_setTemperatures_49 : decode cX8_setTemperatures 49 = .ok (.iastore, 1) := by decide +kernel
theorem dX8_setTemperatures_50 : decode cX8_setTemperatures 50 = .ok (.aload_n 0, 1) := by decide +kernel
theorem dX8_setTemperatures_51 : decode cX8_setTemperatures 51 = .ok (.getfield 7, 3) := by decide +kernel
theorem dX8_setTemperatures_54 : decode cX8_setTemperatures 54 = .ok (.iconst 1, 1) := by decide +kernel
theorem dX8_setTemperatures_55 : decode cX8_setTemperatures 55 = .ok (.iload_n 2, 1) := by decide +kernel
theorem dX8_setTemperatures_56 : decode cX8_setTemperatures 56 = .ok (.iastore, 1) := by decide +kernel
theorem dX8_setTemperatures_57 : decode cX8_setTemperatures 57 = .ok (.aload_n 0, 1) := by decide +kernel
theorem dX8_setTemperatures_58 : decode cX8_setTemperatures 58 = .ok (.iload_n 3, 1) := by decide +kernel
theorem dX8_setTemperatures_59 : decode cX8_setTemperatures 59 = .ok (.invokevirtual 112, 3) := by decide +kernel
theorem dX8_setTemperatures_62 : decode cX8_setTemperatures 62 = .ok (.ireturn, 1) := by decide +kernel
theorem dX8_isBelow_0 : decode cX8_isBelow 0 = .ok (.iload_n 1, 1) := by decide +kernel
theorem dX8_isBelow_1 : decode cX8_isBelow 1 = .ok (.istore_n 3, 1) := by decide +kernel
theorem dX8_isBelow_2 : decode cX8_isBelow 2 = .ok (.iload_n 3, 1) := by decide +kernel
theorem dX8_isBelow_3 : decode cX8_isBelow 3 = .ok (.iload_n 2, 1) := by decide +kernel
theorem dX8_isBelow_4 : decode cX8_isBelow 4 = .ok (.if_icmp .le 13, 3) := by decide +kernel
theorem dX8_isBelow_7 : decode cX8_isBelow 7 = .ok (.aload_n 0, 1) := by decide +kernel
theorem dX8_isBelow_8 : decode cX8_isBelow 8 = .ok (.iload_n 3, 1) := by decide +kernel
theorem dX8_isBelow_9 : decode cX8_isBelow 9 = .ok (.iconst 0, 1) := by decide +kernel
theorem dX8_isBelow_10 : decode cX8_isBelow 10 = .ok (.invokevirtual 48, 3) := by decide +kernel
theorem dX8_isBelow_13 : decode cX8_isBelow 13 = .ok (.istore_n 3, 1) := by decide +kernel
theorem dX8_isBelow_14 : decode cX8_isBelow 14 = .ok (.goto (-12), 3) := by decide +kernel
theorem dX8_isBelow_17 : decode cX8_isBelow 17 = .ok (.iload_n 3, 1) := by decide +kernel
theorem dX8_isBelow_18 : decode cX8_isBelow 18 = .ok (.iload_n 2, 1) := by decide +kernel
theorem dX8_isBelow_19 : decode cX8_isBelow 19 = .ok (.if_icmp .ne 7, 3) := by decide +kernel
theorem dX8_isBelow_22 : decode cX8_isBelow 22 = .ok (.iconst 1, 1) := by decide +kernel
theorem dX8_isBelow_23 : decode cX8_isBelow 23 = .ok (.goto 4, 3) := by decide +kernel
theorem dX8_isBelow_26 : decode cX8_isBelow 26 = .ok (.iconst 0, 1) := by decide +kernel
theorem dX8_isBelow_27 : decode cX8_isBelow 27 = .ok (.ireturn, 1) := by decide +kernel
theorem dX8_childMany_0 : decode cX8_childMany 0 = .ok (.iconst 0, 1) := by decide +kernel
theorem dX8_childMany_1 : decode cX8_childMany 1 = .ok (.istore_n 2, 1) := by decide +kernel
theorem dX8_childMany_2 : decode cX8_childMany 2 = .ok (.iconst 1, 1) := by decide +kernel
theorem dX8_childMany_3 : decode cX8_childMany 3 = .ok (.istore_n 3, 1) := by decide +kernel
theorem dX8_childMany_4 : decode cX8_childMany 4 = .ok (.iload_n 3, 1) := by decide +kernel
theorem dX8_childMany_5 : decode cX8_childMany 5 = .ok (.aload_n 0, 1) := by decide +kernel
theorem dX8_childMany_6 : decode cX8_childMany 6 = .ok (.getfield 7, 3) := by decide +kernel
theorem dX8_childMany_9 : decode cX8_childMany 9 = .ok (.iconst 5, 1) := by decide +kernel
theorem dX8_childMany_10 : decode cX8_childMany 10 = .ok (.iaload, 1) := by decide +kernel
theorem dX8_childMany_11 : decode cX8_childMany 11 = .ok (.if_icmp .ge 27, 3) := by decide +kernel
theorem dX8_childMany_14 : decode cX8_childMany 14 = .ok (.iload_n 2, 1) := by decide +kernel
theorem dX8_childMany_15 : decode cX8_childMany 15 = .ok (.aload_n 0, 1) := by decide +kernel
theorem dX8_childMany_16 : decode cX8_childMany 16 = .ok (.iload_n 3, 1) := by decide +kernel
theorem dX8_childMany_17 : decode cX8_childMany 17 = .ok (.iconst 0, 1) := by decide +kernel
theorem dX8_childMany_18 : decode cX8_childMany 18 = .ok (.invokevirtual 48, 3) := by decide +kernel
theorem dX8_childMany_21 : decode cX8_childMany 21 = .ok (.iload_n 1, 1) := by decide +kernel
theorem dX8_childMany_22 : decode cX8_childMany 22 = .ok (.if_icmp .ne 7, 3) := by decide +kernel
theorem dX8_childMany_25 : decode cX8_childMany 25 = .ok (.iconst 1, 1) := by decide +kernel
theorem dX8_childMany_26 : decode cX8_childMany 26 = .ok (.goto 4, 3) := by decide +kernel
theorem dX8_childMany_29 : decode cX8_childMany 29 = .ok (.iconst 0, 1) := by decide +kernel
theorem dX8_childMany_30 : decode cX8_childMany 30 = .ok (.iadd, 1) := by decide +kernel
theorem dX8_childMany_31 : decode cX8_childMany 31 = .ok (.istore_n 2, 1) := by decide +kernel
theorem dX8_childMany_32 : decode cX8_childMany 32 = .ok (.iinc 3 1, 3) := by decide +kernel
theorem dX8_childMany_35 : decode cX8_childMany 35 = .ok (.goto (-31), 3) := by decide +kernel
theorem dX8_childMany_38 : decode cX8_childMany 38 = .ok (.iload_n 2, 1) := by decide +kernel
theorem dX8_childMany_39 : decode cX8_childMany 39 = .ok (.ireturn, 1) := by decide +kernel
theorem dX8_branchMany_0 : decode cX8_branchMany 0 = .ok (.iconst 0, 1) := by decide +kernel
theorem dX8_branchMany_1 : decode cX8_branchMany 1 = .ok (.istore_n 2, 1) := by decide +kernel
theorem dX8_branchMany_2 : decode cX8_branchMany 2 = .ok (.iconst 0, 1) := by decide +kernel
theorem dX8_branchMany_3 : decode cX8_branchMany 3 = .ok (.istore_n 3, 1) := by decide +kernel
theorem dX8_branchMany_4 : decode cX8_branchMany 4 = .ok (.iload_n 3, 1) := by decide +kernel
theorem dX8_branchMany_5 : decode cX8_branchMany 5 = .ok (.aload_n 0, 1) := by decide +kernel
theorem dX8_branchMany_6 : decode cX8_branchMany 6 = .ok (.getfield 7, 3) := by decide +kernel
theorem dX8_branchMany_9 : decode cX8_branchMany 9 = .ok (.iconst 5, 1) := by decide +kernel
theorem dX8_branchMany_10 : decode cX8_branchMany 10 = .ok (.iaload, 1) := by decide +kernel
theorem dX8_branchMany_11 : decode cX8_branchMany 11 = .ok (.if_icmp .ge 26, 3) := by decide +kernel
theorem dX8_branchMany_14 : decode cX8_branchMany 14 = .ok (.iload_n 2, 1) := by decide +kernel
theorem dX8_branchMany_15 : decode cX8_branchMany 15 = .ok (.aload_n 0, 1) := by decide +kernel
theorem dX8_branchMany_16 : decode cX8_branchMany 16 = .ok (.iload_n 3, 1) := by decide +kernel
theorem dX8_branchMany_17 : decode cX8_branchMany 17 = .ok (.iload_n 1, 1) := by decide +kernel
theorem dX8_branchMany_18 : decode cX8_branchMany 18 = .ok (.invokevirtual 117, 3) := by decide +kernel
theorem dX8_branchMany_21 : decode cX8_branchMany 21 = .ok (.ifCond .eq 7, 3) := by decide +kernel
theorem dX8_branchMany_24 : decode cX8_branchMany 24 = .ok (.iconst 1, 1) := by decide +kernel
theorem dX8_branchMany_25 : decode cX8_branchMany 25 = .ok (.goto 4, 3) := by decide +kernel
theorem dX8_branchMany_28 : decode cX8_branchMany 28 = .ok (.iconst 0, 1) := by decide +kernel
theorem dX8_branchMany_29 : decode cX8_branchMany 29 = .ok (.iadd, 1) := by decide +kernel
theorem dX8_branchMany_30 : decode cX8_branchMany 30 = .ok (.istore_n 2, 1) := by decide +kernel
theorem dX8_branchMany_31 : decode cX8_branchMany 31 = .ok (.iinc 3 1, 3) := by decide +kernel
theorem dX8_branchMany_34 : decode cX8_branchMany 34 = .ok (.goto (-30), 3) := by decide +kernel
theorem dX8_branchMany_37 : decode cX8_branchMany 37 = .ok (.iload_n 2, 1) := by decide +kernel
theorem dX8_branchMany_38 : decode cX8_branchMany 38 = .ok (.ireturn, 1) := by decide +kernel
theorem dX8_nodeOf_0 : decode cX8_nodeOf 0 = .ok (.iload_n 2, 1) := by decide +kernel
theorem dX8_nodeOf_1 : decode cX8_nodeOf 1 = .ok (.tableswitch 80 6 11 #[39, 46, 53, 60, 66, 72], 39) := by decide +kernel
theorem dX8_nodeOf_40 : decode cX8_nodeOf 40 = .ok (.aload_n 0, 1) := by decide +kernel
theorem dX8_nodeOf_41 : decode cX8_nodeOf 41 = .ok (.getfield 22, 3) := by decide +kernel
theorem dX8_nodeOf_44 : decode cX8_nodeOf 44 = .ok (.iload_n 1, 1) := by decide +kernel
theorem dX8_nodeOf_45 : decode cX8_nodeOf 45 = .ok (.iaload, 1) := by decide +kernel
theorem dX8_nodeOf_46 : decode cX8_nodeOf 46 = .ok (.ireturn, 1) := by decide +kernel
theorem dX8_nodeOf_47 : decode cX8_nodeOf 47 = .ok (.aload_n 0, 1) := by decide +kernel
theorem dX8_nodeOf_48 : decode cX8_nodeOf 48 = .ok (.getfield 25, 3) := by decide +kernel
theorem dX8_nodeOf_51 : decode cX8_nodeOf 51 = .ok (.iload_n 1, 1) := by decide +kernel
theorem dX8_nodeOf_52 : decode cX8_nodeOf 52 = .ok (.iaload, 1) := by decide +kernel
theorem dX8_nodeOf_53 : decode cX8_nodeOf 53 = .ok (.ireturn, 1) := by decide +kernel
theorem dX8_nodeOf_54 : decode cX8_nodeOf 54 = .ok (.aload_n 0, 1) := by decide +kernel
theorem dX8_nodeOf_55 : decode cX8_nodeOf 55 = .ok (.getfield 28, 3) := by decide +kernel
theorem dX8_nodeOf_58 : decode cX8_nodeOf 58 = .ok (.iload_n 1, 1) := by decide +kernel
theorem dX8_nodeOf_59 : decode cX8_nodeOf 59 = .ok (.iaload, 1) := by decide +kernel
theorem dX8_nodeOf_60 : decode cX8_nodeOf 60 = .ok (.ireturn, 1) := by decide +kernel
theorem dX8_nodeOf_61 : decode cX8_nodeOf 61 = .ok (.aload_n 0, 1) := by decide +kernel
theorem dX8_nodeOf_62 : decode cX8_nodeOf 62 = .ok (.iload_n 1, 1) := by decide +kernel
theorem dX8_nodeOf_63 : decode cX8_nodeOf 63 = .ok (.invokevirtual 120, 3) := by decide +kernel
theorem dX8_nodeOf_66 : decode cX8_nodeOf 66 = .ok (.ireturn, 1) := by decide +kernel
theorem dX8_nodeOf_67 : decode cX8_nodeOf 67 = .ok (.aload_n 0, 1) := by decide +kernel
theorem dX8_nodeOf_68 : decode cX8_nodeOf 68 = .ok (.iload_n 1, 1) := by decide +kernel
theorem dX8_nodeOf_69 : decode cX8_nodeOf 69 = .ok (.invokevirtual 123, 3) := by decide +kernel
theorem dX8_nodeOf_72 : decode cX8_nodeOf 72 = .ok (.ireturn, 1) := by decide +kernel
theorem dX8_nodeOf_73 : decode cX8_nodeOf 73 = .ok (.aload_n 0, 1) := by decide +kernel
theorem dX8_nodeOf_74 : decode cX8_nodeOf 74 = .ok (.iload_n 1, 1) := by decide +kernel
theorem dX8_nodeOf_75 : decode cX8_nodeOf 75 = .ok (.bipush 7, 2) := by decide +kernel
theorem dX8_nodeOf_77 : decode cX8_nodeOf 77 = .ok (.invokevirtual 48, 3) := by decide +kernel
theorem dX8_nodeOf_80 : decode cX8_nodeOf 80 = .ok (.ireturn, 1) := by decide +kernel
theorem dX8_nodeOf_81 : decode cX8_nodeOf 81 = .ok (.aload_n 0, 1) := by decide +kernel
theorem dX8_nodeOf_82 : decode cX8_nodeOf 82 = .ok (.iload_n 1, 1) := by decide +kernel
theorem dX8_nodeOf_83 : decode cX8_nodeOf 83 = .ok (.iload_n 2, 1) := by decide +kernel
theorem dX8_nodeOf_84 : decode cX8_nodeOf 84 = .ok (.invokevirtual 48, 3) := by decide +kernel
theorem dX8_nodeOf_87 : decode cX8_nodeOf 87 = .ok (.ireturn, 1) := by decide +kernel
theorem dX8_node_0 : decode cX8_node 0 = .ok (.aload_n 0, 1) := by decide +kernel
theorem dX8_node_1 : decode cX8_node 1 = .ok (.iload_n 1, 1) := by decide +kernel
theorem dX8_node_2 : decode cX8_node 2 = .ok (.invokevirtual 91, 3) := by decide +kernel
theorem dX8_node_5 : decode cX8_node 5 = .ok (.ifCond .ne 9, 3) := by decide +kernel
theorem dX8_node_8 : decode cX8_node 8 = .ok (.aload_n 0, 1) := by decide +kernel
theorem dX8_node_9 : decode cX8_node 9 = .ok (.iconst 1, 1) := by decide +kernel
theorem dX8_node_10 : decode cX8_node 10 = .ok (.invokevirtual 95, 3) := by decide +kernel
theorem dX8_node_13 : decode cX8_node 13 = .ok (.ireturn, 1) := by decide +kernel
theorem dX8_node_14 : decode cX8_node 14 = .ok (.iload_n 2, 1) := by decide +kernel
theorem dX8_node_15 : decode cX8_node 15 = .ok (.iconst 0, 1) := by decide +kernel
theorem dX8_node_16 : decode cX8_node 16 = .ok (.bipush 11, 2) := by decide +kernel
theorem dX8_node_18 : decode cX8_node 18 = .ok (.invokestatic 83, 3) := by decide +kernel
theorem dX8_node_21 : decode cX8_node 21 = .ok (.ifCond .ne 9, 3) := by decide +kernel
theorem dX8_node_24 : decode cX8_node 24 = .ok (.aload_n 0, 1) := by decide +kernel
theorem dX8_node_25 : decode cX8_node 25 = .ok (.iconst 2, 1) := by decide +kernel
theorem dX8_node_26 : decode cX8_node 26 = .ok (.invokevirtual 95, 3) := by decide +kernel
theorem dX8_node_29 : decode cX8_node 29 = .ok (.ireturn, 1) := by decide +kernel
theorem dX8_node_30 : decode cX8_node 30 = .ok (.aload_n 0, 1) := by decide +kernel
theorem dX8_node_31 : decode cX8_node 31 = .ok (.invokevirtual 126, 3) := by decide +kernel
theorem dX8_node_34 : decode cX8_node 34 = .ok (.aload_n 0, 1) := by decide +kernel
theorem dX8_node_35 : decode cX8_node 35 = .ok (.aload_n 0, 1) := by decide +kernel
theorem dX8_node_36 : decode cX8_node 36 = .ok (.iload_n 1, 1) := by decide +kernel
theorem dX8_node_37 : decode cX8_node 37 = .ok (.iload_n 2, 1) := by decide +kernel
theorem dX8_node_38 : decode cX8_node 38 = .ok (.invokevirtual 129, 3) := by decide +kernel
theorem dX8_node_41 : decode cX8_node 41 = .ok (.invokevirtual 44, 3) := by decide +kernel
theorem dX8_node_44 : decode cX8_node 44 = .ok (.ireturn, 1) := by decide +kernel
theorem dX8_heat_0 : decode cX8_heat 0 = .ok (.aload_n 0, 1) := by decide +kernel
theorem dX8_heat_1 : decode cX8_heat 1 = .ok (.iload_n 1, 1) := by decide +kernel
theorem dX8_heat_2 : decode cX8_heat 2 = .ok (.invokevirtual 115, 3) := by decide +kernel
theorem dX8_heat_5 : decode cX8_heat 5 = .ok (.ifCond .ne 9, 3) := by decide +kernel
theorem dX8_heat_8 : decode cX8_heat 8 = .ok (.aload_n 0, 1) := by decide +kernel
theorem dX8_heat_9 : decode cX8_heat 9 = .ok (.iconst 1, 1) := by decide +kernel
theorem dX8_heat_10 : decode cX8_heat 10 = .ok (.invokevirtual 95, 3) := by decide +kernel
theorem dX8_heat_13 : decode cX8_heat 13 = .ok (.ireturn, 1) := by decide +kernel
theorem dX8_heat_14 : decode cX8_heat 14 = .ok (.iload_n 2, 1) := by decide +kernel
theorem dX8_heat_15 : decode cX8_heat 15 = .ok (.iconst 0, 1) := by decide +kernel
theorem dX8_heat_16 : decode cX8_heat 16 = .ok (.iconst 5, 1) := by decide +kernel
theorem dX8_heat_17 : decode cX8_heat 17 = .ok (.invokestatic 83, 3) := by decide +kernel
theorem dX8_heat_20 : decode cX8_heat 20 = .ok (.ifCond .ne 9, 3) := by decide +kernel
theorem dX8_heat_23 : decode cX8_heat 23 = .ok (.aload_n 0, 1) := by decide +kernel
theorem dX8_heat_24 : decode cX8_heat 24 = .ok (.iconst 2, 1) := by decide +kernel
theorem dX8_heat_25 : decode cX8_heat 25 = .ok (.invokevirtual 95, 3) := by decide +kernel
theorem dX8_heat_28 : decode cX8_heat 28 = .ok (.ireturn, 1) := by decide +kernel
theorem dX8_heat_29 : decode cX8_heat 29 = .ok (.aload_n 0, 1) := by decide +kernel
theorem dX8_heat_30 : decode cX8_heat 30 = .ok (.invokevirtual 126, 3) := by decide +kernel
theorem dX8_heat_33 : decode cX8_heat 33 = .ok (.aload_n 0, 1) := by decide +kernel
theorem dX8_heat_34 : decode cX8_heat 34 = .ok (.aload_n 0, 1) := by decide +kernel
theorem dX8_heat_35 : decode cX8_heat 35 = .ok (.iload_n 1, 1) := by decide +kernel
theorem dX8_heat_36 : decode cX8_heat 36 = .ok (.iload_n 2, 1) := by decide +kernel
theorem dX8_heat_37 : decode cX8_heat 37 = .ok (.invokevirtual 64, 3) := by decide +kernel
theorem dX8_heat_40 : decode cX8_heat 40 = .ok (.invokevirtual 44, 3) := by decide +kernel
theorem dX8_heat_43 : decode cX8_heat 43 = .ok (.ireturn, 1) := by decide +kernel
theorem dX8_accounts_0 : decode cX8_accounts 0 = .ok (.iconst 0, 1) := by decide +kernel
theorem dX8_accounts_1 : decode cX8_accounts 1 = .ok (.istore_n 1, 1) := by decide +kernel
theorem dX8_accounts_2 : decode cX8_accounts 2 = .ok (.iconst 1, 1) := by decide +kernel
theorem dX8_accounts_3 : decode cX8_accounts 3 = .ok (.istore_n 2, 1) := by decide +kernel
theorem dX8_accounts_4 : decode cX8_accounts 4 = .ok (.iload_n 2, 1) := by decide +kernel
theorem dX8_accounts_5 : decode cX8_accounts 5 = .ok (.aload_n 0, 1) := by decide +kernel
theorem dX8_accounts_6 : decode cX8_accounts 6 = .ok (.getfield 7, 3) := by decide +kernel
theorem dX8_accounts_9 : decode cX8_accounts 9 = .ok (.iconst 5, 1) := by decide +kernel
theorem dX8_accounts_10 : decode cX8_accounts 10 = .ok (.iaload, 1) := by decide +kernel
theorem dX8_accounts_11 : decode cX8_accounts 11 = .ok (.if_icmp .ge 19, 3) := by decide +kernel
theorem dX8_accounts_14 : decode cX8_accounts 14 = .ok (.iload_n 1, 1) := by decide +kernel
theorem dX8_accounts_15 : decode cX8_accounts 15 = .ok (.aload_n 0, 1) := by decide +kernel
theorem dX8_accounts_16 : decode cX8_accounts 16 = .ok (.iload_n 2, 1) := by decide +kernel
theorem dX8_accounts_17 : decode cX8_accounts 17 = .ok (.bipush 7, 2) := by decide +kernel
theorem dX8_accounts_19 : decode cX8_accounts 19 = .ok (.invokevirtual 48, 3) := by decide +kernel
theorem dX8_accounts_22 : decode cX8_accounts 22 = .ok (.iadd, 1) := by decide +kernel
theorem dX8_accounts_23 : decode cX8_accounts 23 = .ok (.istore_n 1, 1) := by decide +kernel
theorem dX8_accounts_24 : decode cX8_accounts 24 = .ok (.iinc 2 1, 3) := by decide +kernel
theorem dX8_accounts_27 : decode cX8_accounts 27 = .ok (.goto (-23), 3) := by decide +kernel
theorem dX8_accounts_30 : decode cX8_accounts 30 = .ok (.iload_n 1, 1) := by decide +kernel
theorem dX8_accounts_31 : decode cX8_accounts 31 = .ok (.ireturn, 1) := by decide +kernel
theorem dX8_meters_0 : decode cX8_meters 0 = .ok (.iconst 0, 1) := by decide +kernel
theorem dX8_meters_1 : decode cX8_meters 1 = .ok (.istore_n 1, 1) := by decide +kernel
theorem dX8_meters_2 : decode cX8_meters 2 = .ok (.iconst 1, 1) := by decide +kernel
theorem dX8_meters_3 : decode cX8_meters 3 = .ok (.istore_n 2, 1) := by decide +kernel
theorem dX8_meters_4 : decode cX8_meters 4 = .ok (.iload_n 2, 1) := by decide +kernel
theorem dX8_meters_5 : decode cX8_meters 5 = .ok (.aload_n 0, 1) := by decide +kernel
theorem dX8_meters_6 : decode cX8_meters 6 = .ok (.getfield 7, 3) := by decide +kernel
theorem dX8_meters_9 : decode cX8_meters 9 = .ok (.iconst 5, 1) := by decide +kernel
theorem dX8_meters_10 : decode cX8_meters 10 = .ok (.iaload, 1) := by decide +kernel
theorem dX8_meters_11 : decode cX8_meters 11 = .ok (.if_icmp .ge 19, 3) := by decide +kernel
theorem dX8_meters_14 : decode cX8_meters 14 = .ok (.iload_n 1, 1) := by decide +kernel
theorem dX8_meters_15 : decode cX8_meters 15 = .ok (.aload_n 0, 1) := by decide +kernel
theorem dX8_meters_16 : decode cX8_meters 16 = .ok (.iload_n 2, 1) := by decide +kernel
theorem dX8_meters_17 : decode cX8_meters 17 = .ok (.bipush 6, 2) := by decide +kernel
theorem dX8_meters_19 : decode cX8_meters 19 = .ok (.invokevirtual 48, 3) := by decide +kernel
theorem dX8_meters_22 : decode cX8_meters 22 = .ok (.iadd, 1) := by decide +kernel
theorem dX8_meters_23 : decode cX8_meters 23 = .ok (.istore_n 1, 1) := by decide +kernel
theorem dX8_meters_24 : decode cX8_meters 24 = .ok (.iinc 2 1, 3) := by decide +kernel
theorem dX8_meters_27 : decode cX8_meters 27 = .ok (.goto (-23), 3) := by decide +kernel
theorem dX8_meters_30 : decode cX8_meters 30 = .ok (.iload_n 1, 1) := by decide +kernel
theorem dX8_meters_31 : decode cX8_meters 31 = .ok (.ireturn, 1) := by decide +kernel
theorem dX8_valueOf_0 : decode cX8_valueOf 0 = .ok (.aload_n 0, 1) := by decide +kernel
theorem dX8_valueOf_1 : decode cX8_valueOf 1 = .ok (.invokevirtual 132, 3) := by decide +kernel
theorem dX8_valueOf_4 : decode cX8_valueOf 4 = .ok (.istore_n 2, 1) := by decide +kernel
theorem dX8_valueOf_5 : decode cX8_valueOf 5 = .ok (.iload_n 1, 1) := by decide +kernel
theorem dX8_valueOf_6 : decode cX8_valueOf 6 = .ok (.tableswitch 91 7 14 #[46, 51, 56, 58, 66, 74, 79, 86], 46) := by decide +kernel
theorem dX8_valueOf_52 : decode cX8_valueOf 52 = .ok (.aload_n 0, 1) := by decide +kernel
theorem dX8_valueOf_53 : decode cX8_valueOf 53 = .ok (.invokevirtual 73, 3) := by decide +kernel
theorem dX8_valueOf_56 : decode cX8_valueOf 56 = .ok (.ireturn, 1) := by decide +kernel
theorem dX8_valueOf_57 : decode cX8_valueOf 57 = .ok (.aload_n 0, 1) := by decide +kernel
theorem dX8_valueOf_58 : decode cX8_valueOf 58 = .ok (.getfield 80, 3) := by decide +kernel
theorem dX8_valueOf_61 : decode cX8_valueOf 61 = .ok (.ireturn, 1) := by decide +kernel
theorem dX8_valueOf_62 : decode cX8_valueOf 62 = .ok (.iload_n 2, 1) := by decide +kernel
theorem dX8_valueOf_63 : decode cX8_valueOf 63 = .ok (.ireturn, 1) := by decide +kernel
theorem dX8_valueOf_64 : decode cX8_valueOf 64 = .ok (.aload_n 0, 1) := by decide +kernel
theorem dX8_valueOf_65 : decode cX8_valueOf 65 = .ok (.getfield 7, 3) := by decide +kernel
theorem dX8_valueOf_68 : decode cX8_valueOf 68 = .ok (.bipush 7, 2) := by decide +kernel
theorem dX8_valueOf_70 : decode cX8_valueOf 70 = .ok (.iaload, 1) := by decide +kernel
theorem dX8_valueOf_71 : decode cX8_valueOf 71 = .ok (.ireturn, 1) := by decide +kernel
theorem dX8_valueOf_72 : decode cX8_valueOf 72 = .ok (.aload_n 0, 1) := by decide +kernel
theorem dX8_valueOf_73 : decode cX8_valueOf 73 = .ok (.getfield 7, 3) := by decide +kernel
theorem dX8_valueOf_76 : decode cX8_valueOf 76 = .ok (.bipush 8, 2) := by decide +kernel
theorem dX8_valueOf_78 : decode cX8_valueOf 78 = .ok (.iaload, 1) := by decide +kernel
theorem dX8_valueOf_79 : decode cX8_valueOf 79 = .ok (.ireturn, 1) := by decide +kernel
theorem dX8_valueOf_80 : decode cX8_valueOf 80 = .ok (.aload_n 0, 1) := by decide +kernel
theorem dX8_valueOf_81 : decode cX8_valueOf 81 = .ok (.invokevirtual 135, 3) := by decide +kernel
theorem dX8_valueOf_84 : decode cX8_valueOf 84 = .ok (.ireturn, 1) := by decide +kernel
theorem dX8_valueOf_85 : decode cX8_valueOf 85 = .ok (.aload_n 0, 1) := by decide +kernel
theorem dX8_valueOf_86 : decode cX8_valueOf 86 = .ok (.getfield 31, 3) := by decide +kernel
theorem dX8_valueOf_89 : decode cX8_valueOf 89 = .ok (.iconst 0, 1) := by decide +kernel
theorem dX8_valueOf_90 : decode cX8_valueOf 90 = .ok (.iaload, 1) := by decide +kernel
theorem dX8_valueOf_91 : decode cX8_valueOf 91 = .ok (.ireturn, 1) := by decide +kernel
theorem dX8_valueOf_92 : decode cX8_valueOf 92 = .ok (.aload_n 0, 1) := by decide +kernel
theorem dX8_valueOf_93 : decode cX8_valueOf 93 = .ok (.invokevirtual 138, 3) := by decide +kernel
theorem dX8_valueOf_96 : decode cX8_valueOf 96 = .ok (.ireturn, 1) := by decide +kernel
theorem dX8_valueOf_97 : decode cX8_valueOf 97 = .ok (.aload_n 0, 1) := by decide +kernel
theorem dX8_valueOf_98 : decode cX8_valueOf 98 = .ok (.getfield 7, 3) := by decide +kernel
theorem dX8_valueOf_101 : decode cX8_valueOf 101 = .ok (.iload_n 1, 1) := by decide +kernel
theorem dX8_valueOf_102 : decode cX8_valueOf 102 = .ok (.iaload, 1) := by decide +kernel
theorem dX8_valueOf_103 : decode cX8_valueOf 103 = .ok (.ireturn, 1) := by decide +kernel
theorem dX8_value_0 : decode cX8_value 0 = .ok (.iload_n 1, 1) := by decide +kernel
theorem dX8_value_1 : decode cX8_value 1 = .ok (.iconst 0, 1) := by decide +kernel
theorem dX8_value_2 : decode cX8_value 2 = .ok (.bipush 14, 2) := by decide +kernel
theorem dX8_value_4 : decode cX8_value 4 = .ok (.invokestatic 83, 3) := by decide +kernel
theorem dX8_value_7 : decode cX8_value 7 = .ok (.ifCond .ne 9, 3) := by decide +kernel
theorem dX8_value_10 : decode cX8_value 10 = .ok (.aload_n 0, 1) := by decide +kernel
theorem dX8_value_11 : decode cX8_value 11 = .ok (.iconst 1, 1) := by decide +kernel
theorem dX8_value_12 : decode cX8_value 12 = .ok (.invokevirtual 95, 3) := by decide +kernel
theorem dX8_value_15 : decode cX8_value 15 = .ok (.ireturn, 1) := by decide +kernel
theorem dX8_value_16 : decode cX8_value 16 = .ok (.aload_n 0, 1) := by decide +kernel
theorem dX8_value_17 : decode cX8_value 17 = .ok (.invokevirtual 126, 3) := by decide +kernel
theorem dX8_value_20 : decode cX8_value 20 = .ok (.aload_n 0, 1) := by decide +kernel
theorem dX8_value_21 : decode cX8_value 21 = .ok (.aload_n 0, 1) := by decide +kernel
theorem dX8_value_22 : decode cX8_value 22 = .ok (.iload_n 1, 1) := by decide +kernel
theorem dX8_value_23 : decode cX8_value 23 = .ok (.invokevirtual 141, 3) := by decide +kernel
theorem dX8_value_26 : decode cX8_value 26 = .ok (.invokevirtual 44, 3) := by decide +kernel
theorem dX8_value_29 : decode cX8_value 29 = .ok (.ireturn, 1) := by decide +kernel
theorem dX8_sum_0 : decode cX8_sum 0 = .ok (.iload_n 1, 1) := by decide +kernel
theorem dX8_sum_1 : decode cX8_sum 1 = .ok (.iconst 0, 1) := by decide +kernel
theorem dX8_sum_2 : decode cX8_sum 2 = .ok (.iconst 2, 1) := by decide +kernel
theorem dX8_sum_3 : decode cX8_sum 3 = .ok (.invokestatic 83, 3) := by decide +kernel
theorem dX8_sum_6 : decode cX8_sum 6 = .ok (.ifCond .ne 9, 3) := by decide +kernel
theorem dX8_sum_9 : decode cX8_sum 9 = .ok (.aload_n 0, 1) := by decide +kernel
theorem dX8_sum_10 : decode cX8_sum 10 = .ok (.iconst 1, 1) := by decide +kernel
theorem dX8_sum_11 : decode cX8_sum 11 = .ok (.invokevirtual 95, 3) := by decide +kernel
theorem dX8_sum_14 : decode cX8_sum 14 = .ok (.ireturn, 1) := by decide +kernel
theorem dX8_sum_15 : decode cX8_sum 15 = .ok (.aload_n 0, 1) := by decide +kernel
theorem dX8_sum_16 : decode cX8_sum 16 = .ok (.invokevirtual 126, 3) := by decide +kernel
theorem dX8_sum_19 : decode cX8_sum 19 = .ok (.aload_n 0, 1) := by decide +kernel
theorem dX8_sum_20 : decode cX8_sum 20 = .ok (.aload_n 0, 1) := by decide +kernel
theorem dX8_sum_21 : decode cX8_sum 21 = .ok (.iload_n 1, 1) := by decide +kernel
theorem dX8_sum_22 : decode cX8_sum 22 = .ok (.invokevirtual 144, 3) := by decide +kernel
theorem dX8_sum_25 : decode cX8_sum 25 = .ok (.invokevirtual 44, 3) := by decide +kernel
theorem dX8_sum_28 : decode cX8_sum 28 = .ok (.ireturn, 1) := by decide +kernel
theorem dX8_addBoiler_0 : decode cX8_addBoiler 0 = .ok (.iload_n 1, 1) := by decide +kernel
theorem dX8_addBoiler_1 : decode cX8_addBoiler 1 = .ok (.iconst 1, 1) := by decide +kernel
theorem dX8_addBoiler_2 : decode cX8_addBoiler 2 = .ok (.ldc 147, 2) := by decide +kernel
theorem dX8_addBoiler_4 : decode cX8_addBoiler 4 = .ok (.invokestatic 83, 3) := by decide +kernel
theorem dX8_addBoiler_7 : decode cX8_addBoiler 7 = .ok (.ifCond .eq 22, 3) := by decide +kernel
theorem dX8_addBoiler_10 : decode cX8_addBoiler 10 = .ok (.iload_n 2, 1) := by decide +kernel
theorem dX8_addBoiler_11 : decode cX8_addBoiler 11 = .ok (.iconst 0, 1) := by decide +kernel
theorem dX8_addBoiler_12 : decode cX8_addBoiler 12 = .ok (.iload_n 1, 1) := by decide +kernel
theorem dX8_addBoiler_13 : decode cX8_addBoiler 13 = .ok (.invokestatic 83, 3) := by decide +kernel
theorem dX8_addBoiler_16 : decode cX8_addBoiler 16 = .ok (.ifCond .eq 13, 3) := by decide +kernel
theorem dX8_addBoiler_19 : decode cX8_addBoiler 19 = .ok (.iload_n 3, 1) := by decide +kernel
theorem dX8_addBoiler_20 : decode cX8_addBoiler 20 = .ok (.iconst 0, 1) := by decide +kernel
theorem dX8_addBoiler_21 : decode cX8_addBoiler 21 = .ok (.bipush 99, 2) := by decide +kernel
theorem dX8_addBoiler_23 : decode cX8_addBoiler 23 = .ok (.invokestatic 83, 3) := by decide +kernel
theorem dX8_addBoiler_26 : decode cX8_addBoiler 26 = .ok (.ifCond .ne 9, 3) := by decide +kernel
theorem dX8_addBoiler_29 : decode cX8_addBoiler 29 = .ok (.aload_n 0, 1) := by decide +kernel
theorem dX8_addBoiler_30 : decode cX8_addBoiler 30 = .ok (.iconst 1, 1) := by decide +kernel
theorem dX8_addBoiler_31 : decode cX8_addBoiler 31 = .ok (.invokevirtual 95, 3) := by decide +kernel
theorem dX8_addBoiler_34 : decode cX8_addBoiler 34 = .ok (.ireturn, 1) := by decide +kernel
theorem dX8_addBoiler_35 : decode cX8_addBoiler 35 = .ok (.aload_n 0, 1) := by decide +kernel
theorem dX8_addBoiler_36 : decode cX8_addBoiler 36 = .ok (.getfield 7, 3) := by decide +kernel
theorem dX8_addBoiler_39 : decode cX8_addBoiler 39 = .ok (.bipush 6, 2) := by decide +kernel
theorem dX8_addBoiler_41 : decode cX8_addBoiler 41 = .ok (.iaload, 1) := by decide +kernel
theorem dX8_addBoiler_42 : decode cX8_addBoiler 42 = .ok (.iconst 4, 1) := by decide +kernel
theorem dX8_addBoiler_43 : decode cX8_addBoiler 43 = .ok (.if_icmp .ne 9, 3) := by decide +kernel
theorem dX8_addBoiler_46 : decode cX8_addBoiler 46 = .ok (.aload_n 0, 1) := by decide +kernel
theorem dX8_addBoiler_47 : decode cX8_addBoiler 47 = .ok (.iconst 2, 1) := by decide +kernel
theorem dX8_addBoiler_48 : decode cX8_addBoiler 48 = .ok (.invokevirtual 95, 3) := by decide +kernel
theorem dX8_addBoiler_51 : decode cX8_addBoiler 51 = .ok (.ireturn, 1) := by decide +kernel
theorem dX8_addBoiler_52 : decode cX8_addBoiler 52 = .ok (.aload_n 0, 1) := by decide +kernel
theorem dX8_addBoiler_53 : decode cX8_addBoiler 53 = .ok (.invokevirtual 105, 3) := by decide +kernel
theorem dX8_addBoiler_56 : decode cX8_addBoiler 56 = .ok (.sipush 137, 3) := by decide +kernel
theorem dX8_addBoiler_59 : decode cX8_addBoiler 59 = .ok (.iconst 3, 1) := by decide +kernel
theorem dX8_addBoiler_60 : decode cX8_addBoiler 60 = .ok (.aload_n 0, 1) := by decide +kernel
theorem dX8_addBoiler_61 : decode cX8_addBoiler 61 = .ok (.getfield 7, 3) := by decide +kernel
theorem dX8_addBoiler_64 : decode cX8_addBoiler 64 = .ok (.bipush 6, 2) := by decide +kernel
theorem dX8_addBoiler_66 : decode cX8_addBoiler 66 = .ok (.iaload, 1) := by decide +kernel
theorem dX8_addBoiler_67 : decode cX8_addBoiler 67 = .ok (.imul, 1) := by decide +kernel
theorem dX8_addBoiler_68 : decode cX8_addBoiler 68 = .ok (.iadd, 1) := by decide +kernel
theorem dX8_addBoiler_69 : decode cX8_addBoiler 69 = .ok (.istore 4, 2) := by decide +kernel
theorem dX8_addBoiler_71 : decode cX8_addBoiler 71 = .ok (.aload_n 0, 1) := by decide +kernel
theorem dX8_addBoiler_72 : decode cX8_addBoiler 72 = .ok (.getfield 7, 3) := by decide +kernel
theorem dX8_addBoiler_75 : decode cX8_addBoiler 75 = .ok (.iload 4, 2) := by decide +kernel
theorem dX8_addBoiler_77 : decode cX8_addBoiler 77 = .ok (.iload_n 1, 1) := by decide +kernel
theorem dX8_addBoiler_78 : decode cX8_addBoiler 78 = .ok (.iastore, 1) := by decide +kernel
theorem dX8_addBoiler_79 : decode cX8_addBoiler 79 = .ok (.aload_n 0, 1) := by decide +kernel
theorem dX8_addBoiler_80 : decode cX8_addBoiler 80 = .ok (.getfield 7, 3) := by decide +kernel
theorem dX8_addBoiler_83 : decode cX8_addBoiler 83 = .ok (.iload 4, 2) := by decide +kernel
theorem dX8_addBoiler_85 : decode cX8_addBoiler 85 = .ok (.iconst 1, 1) := by decide +kernel
theorem dX8_addBoiler_86 : decode cX8_addBoiler 86 = .ok (.iadd, 1) := by decide +kernel
theorem dX8_addBoiler_87 : decode cX8_addBoiler 87 = .ok (.iload_n 2, 1) := by decide +kernel
theorem dX8_addBoiler_88 : decode cX8_addBoiler 88 = .ok (.iastore, 1) := by decide +kernel
theorem dX8_addBoiler_89 : decode cX8_addBoiler 89 = .ok (.aload_n 0, 1) := by decide +kernel
theorem dX8_addBoiler_90 : decode cX8_addBoiler 90 = .ok (.getfield 7, 3) := by decide +kernel
theorem dX8_addBoiler_93 : decode cX8_addBoiler 93 = .ok (.iload 4, 2) := by decide +kernel
theorem dX8_addBoiler_95 : decode cX8_addBoiler 95 = .ok (.iconst 2, 1) := by decide +kernel
theorem dX8_addBoiler_96 : decode cX8_addBoiler 96 = .ok (.iadd, 1) := by decide +kernel
theorem dX8_addBoiler_97 : decode cX8_addBoiler 97 = .ok (.iload_n 3, 1) := by decide +kernel
theorem dX8_addBoiler_98 : decode cX8_addBoiler 98 = .ok (.iastore, 1) := by decide +kernel
theorem dX8_addBoiler_99 : decode cX8_addBoiler 99 = .ok (.aload_n 0, 1) := by decide +kernel
theorem dX8_addBoiler_100 : decode cX8_addBoiler 100 = .ok (.getfield 7, 3) := by decide +kernel
theorem dX8_addBoiler_103 : decode cX8_addBoiler 103 = .ok (.bipush 6, 2) := by decide +kernel
theorem dX8_addBoiler_105 : decode cX8_addBoiler 105 = .ok (.dup2, 1) := by decide +kernel
theorem dX8_addBoiler_106 : decode cX8_addBoiler 106 = .ok (.iaload, 1) := by decide +kernel
theorem dX8_addBoiler_107 : decode cX8_addBoiler 107 = .ok (.iconst 1, 1) := by decide +kernel
theorem dX8_addBoiler_108 : decode cX8_addBoiler 108 = .ok (.iadd, 1) := by decide +kernel
theorem dX8_addBoiler_109 : decode cX8_addBoiler 109 = .ok (.iastore, 1) := by decide +kernel
theorem dX8_addBoiler_110 : decode cX8_addBoiler 110 = .ok (.aload_n 0, 1) := by decide +kernel
theorem dX8_addBoiler_111 : decode cX8_addBoiler 111 = .ok (.aload_n 0, 1) := by decide +kernel
theorem dX8_addBoiler_112 : decode cX8_addBoiler 112 = .ok (.getfield 7, 3) := by decide +kernel
theorem dX8_addBoiler_115 : decode cX8_addBoiler 115 = .ok (.bipush 6, 2) := by decide +kernel
theorem dX8_addBoiler_117 : decode cX8_addBoiler 117 = .ok (.iaload, 1) := by decide +kernel
theorem dX8_addBoiler_118 : decode cX8_addBoiler 118 = .ok (.iconst 1, 1) := by decide +kernel
theorem dX8_addBoiler_119 : decode cX8_addBoiler 119 = .ok (.isub, 1) := by decide +kernel
theorem dX8_addBoiler_120 : decode cX8_addBoiler 120 = .ok (.invokevirtual 112, 3) := by decide +kernel
theorem dX8_addBoiler_123 : decode cX8_addBoiler 123 = .ok (.ireturn, 1) := by decide +kernel
theorem dX8_isBoiler_0 : decode cX8_isBoiler 0 = .ok (.iload_n 1, 1) := by decide +kernel
theorem dX8_isBoiler_1 : decode cX8_isBoiler 1 = .ok (.ifCond .lt 18, 3) := by decide +kernel
theorem dX8_isBoiler_4 : decode cX8_isBoiler 4 = .ok (.iload_n 1, 1) := by decide +kernel
theorem dX8_isBoiler_5 : decode cX8_isBoiler 5 = .ok (.aload_n 0, 1) := by decide +kernel
theorem dX8_isBoiler_6 : decode cX8_isBoiler 6 = .ok (.getfield 7, 3) := by decide +kernel
theorem dX8_isBoiler_9 : decode cX8_isBoiler 9 = .ok (.bipush 6, 2) := by decide +kernel
theorem dX8_isBoiler_11 : decode cX8_isBoiler 11 = .ok (.iaload, 1) := by decide +kernel
theorem dX8_isBoiler_12 : decode cX8_isBoiler 12 = .ok (.if_icmp .ge 7, 3) := by decide +kernel
theorem dX8_isBoiler_15 : decode cX8_isBoiler 15 = .ok (.iconst 1, 1) := by decide +kernel
theorem dX8_isBoiler_16 : decode cX8_isBoiler 16 = .ok (.goto 4, 3) := by decide +kernel
theorem dX8_isBoiler_19 : decode cX8_isBoiler 19 = .ok (.iconst 0, 1) := by decide +kernel
theorem dX8_isBoiler_20 : decode cX8_isBoiler 20 = .ok (.ireturn, 1) := by decide +kernel
theorem dX8_setCost_0 : decode cX8_setCost 0 = .ok (.aload_n 0, 1) := by decide +kernel
theorem dX8_setCost_1 : decode cX8_setCost 1 = .ok (.iload_n 1, 1) := by decide +kernel
theorem dX8_setCost_2 : decode cX8_setCost 2 = .ok (.invokevirtual 148, 3) := by decide +kernel
theorem dX8_setCost_5 : decode cX8_setCost 5 = .ok (.ifCond .ne 9, 3) := by decide +kernel
theorem dX8_setCost_8 : decode cX8_setCost 8 = .ok (.aload_n 0, 1) := by decide +kernel
theorem dX8_setCost_9 : decode cX8_setCost 9 = .ok (.iconst 1, 1) := by decide +kernel
theorem dX8_setCost_10 : decode cX8_setCost 10 = .ok (.invokevirtual 95, 3) := by decide +kernel
theorem dX8_setCost_13 : decode cX8_setCost 13 = .ok (.ireturn, 1) := by decide +kernel
theorem dX8_setCost_14 : decode cX8_setCost 14 = .ok (.iload_n 2, 1) := by decide +kernel
theorem dX8_setCost_15 : decode cX8_setCost 15 = .ok (.iconst 0, 1) := by decide +kernel
theorem dX8_setCost_16 : decode cX8_setCost 16 = .ok (.bipush 99, 2) := by decide +kernel
theorem dX8_setCost_18 : decode cX8_setCost 18 = .ok (.invokestatic 83, 3) := by decide +kernel
theorem dX8_setCost_21 : decode cX8_setCost 21 = .ok (.ifCond .ne 9, 3) := by decide +kernel
theorem dX8_setCost_24 : decode cX8_setCost 24 = .ok (.aload_n 0, 1) := by decide +kernel
theorem dX8_setCost_25 : decode cX8_setCost 25 = .ok (.iconst 2, 1) := by decide +kernel
theorem dX8_setCost_26 : decode cX8_setCost 26 = .ok (.invokevirtual 95, 3) := by decide +kernel
theorem dX8_setCost_29 : decode cX8_setCost 29 = .ok (.ireturn, 1) := by decide +kernel
theorem dX8_setCost_30 : decode cX8_setCost 30 = .ok (.aload_n 0, 1) := by decide +kernel
theorem dX8_setCost_31 : decode cX8_setCost 31 = .ok (.invokevirtual 105, 3) := by decide +kernel
theorem dX8_setCost_34 : decode cX8_setCost 34 = .ok (.aload_n 0, 1) := by decide +kernel
theorem dX8_setCost_35 : decode cX8_setCost 35 = .ok (.iload_n 1, 1) := by decide +kernel
theorem dX8_setCost_36 : decode cX8_setCost 36 = .ok (.iconst 2, 1) := by decide +kernel
theorem dX8_setCost_37 : decode cX8_setCost 37 = .ok (.invokevirtual 67, 3) := by decide +kernel
theorem dX8_setCost_40 : decode cX8_setCost 40 = .ok (.istore_n 3, 1) := by decide +kernel
theorem dX8_setCost_41 : decode cX8_setCost 41 = .ok (.aload_n 0, 1) := by decide +kernel
theorem dX8_setCost_42 : decode cX8_setCost 42 = .ok (.getfield 7, 3) := by decide +kernel
theorem dX8_setCost_45 : decode cX8_setCost 45 = .ok (.sipush 137, 3) := by decide +kernel
theorem dX8_setCost_48 : decode cX8_setCost 48 = .ok (.iconst 3, 1) := by decide +kernel
theorem dX8_setCost_49 : decode cX8_setCost 49 = .ok (.iload_n 1, 1) := by decide +kernel
theorem dX8_setCost_50 : decode cX8_setCost 50 = .ok (.imul, 1) := by decide +kernel
theorem dX8_setCost_51 : decode cX8_setCost 51 = .ok (.iadd, 1) := by decide +kernel
theorem dX8_setCost_52 : decode cX8_setCost 52 = .ok (.iconst 2, 1) := by decide +kernel
theorem dX8_setCost_53 : decode cX8_setCost 53 = .ok (.iadd, 1) := by decide +kernel
theorem dX8_setCost_54 : decode cX8_setCost 54 = .ok (.iload_n 2, 1) := by decide +kernel
theorem dX8_setCost_55 : decode cX8_setCost 55 = .ok (.iastore, 1) := by decide +kernel
theorem dX8_setCost_56 : decode cX8_setCost 56 = .ok (.aload_n 0, 1) := by decide +kernel
theorem dX8_setCost_57 : decode cX8_setCost 57 = .ok (.iload_n 3, 1) := by decide +kernel
theorem dX8_setCost_58 : decode cX8_setCost 58 = .ok (.invokevirtual 112, 3) := by decide +kernel
theorem dX8_setCost_61 : decode cX8_setCost 61 = .ok (.ireturn, 1) := by decide +kernel
theorem dX8_boilerOf_0 : decode cX8_boilerOf 0 = .ok (.iload_n 2, 1) := by decide +kernel
theorem dX8_boilerOf_1 : decode cX8_boilerOf 1 = .ok (.iconst 3, 1) := by decide +kernel
theorem dX8_boilerOf_2 : decode cX8_boilerOf 2 = .ok (.if_icmp .ge 12, 3) := by decide +kernel
theorem dX8_boilerOf_5 : decode cX8_boilerOf 5 = .ok (.aload_n 0, 1) := by decide +kernel
theorem dX8_boilerOf_6 : decode cX8_boilerOf 6 = .ok (.iload_n 1, 1) := by decide +kernel
theorem dX8_boilerOf_7 : decode cX8_boilerOf 7 = .ok (.iload_n 2, 1) := by decide +kernel
theorem dX8_boilerOf_8 : decode cX8_boilerOf 8 = .ok (.invokevirtual 67, 3) := by decide +kernel
theorem dX8_boilerOf_11 : decode cX8_boilerOf 11 = .ok (.goto 22, 3) := by decide +kernel
theorem dX8_boilerOf_14 : decode cX8_boilerOf 14 = .ok (.iload_n 2, 1) := by decide +kernel
theorem dX8_boilerOf_15 : decode cX8_boilerOf 15 = .ok (.iconst 3, 1) := by decide +kernel
theorem dX8_boilerOf_16 : decode cX8_boilerOf 16 = .ok (.if_icmp .ne 12, 3) := by decide +kernel
theorem dX8_boilerOf_19 : decode cX8_boilerOf 19 = .ok (.aload_n 0, 1) := by decide +kernel
theorem dX8_boilerOf_20 : decode cX8_boilerOf 20 = .ok (.getfield 34, 3) := by decide +kernel
theorem dX8_boilerOf_23 : decode cX8_boilerOf 23 = .ok (.iload_n 1, 1) := by decide +kernel
theorem dX8_boilerOf_24 : decode cX8_boilerOf 24 = .ok (.iaload, 1) := by decide +kernel
theorem dX8_boilerOf_25 : decode cX8_boilerOf 25 = .ok (.goto 8, 3) := by decide +kernel
theorem dX8_boilerOf_28 : decode cX8_boilerOf 28 = .ok (.aload_n 0, 1) := by decide +kernel
theorem dX8_boilerOf_29 : decode cX8_boilerOf 29 = .ok (.iload_n 1, 1) := by decide +kernel
theorem dX8_boilerOf_30 : decode cX8_boilerOf 30 = .ok (.invokevirtual 70, 3) := by decide +kernel
theorem dX8_boilerOf_33 : decode cX8_boilerOf 33 = .ok (.ireturn, 1) := by decide +kernel
theorem dX8_boiler_0 : decode cX8_boiler 0 = .ok (.aload_n 0, 1) := by decide +kernel
theorem dX8_boiler_1 : decode cX8_boiler 1 = .ok (.iload_n 1, 1) := by decide +kernel
theorem dX8_boiler_2 : decode cX8_boiler 2 = .ok (.invokevirtual 148, 3) := by decide +kernel
theorem dX8_boiler_5 : decode cX8_boiler 5 = .ok (.ifCond .ne 9, 3) := by decide +kernel
theorem dX8_boiler_8 : decode cX8_boiler 8 = .ok (.aload_n 0, 1) := by decide +kernel
theorem dX8_boiler_9 : decode cX8_boiler 9 = .ok (.iconst 1, 1) := by decide +kernel
theorem dX8_boiler_10 : decode cX8_boiler 10 = .ok (.invokevirtual 95, 3) := by decide +kernel
theorem dX8_boiler_13 : decode cX8_boiler 13 = .ok (.ireturn, 1) := by decide +kernel
theorem dX8_boiler_14 : decode cX8_boiler 14 = .ok (.iload_n 2, 1) := by decide +kernel
theorem dX8_boiler_15 : decode cX8_boiler 15 = .ok (.iconst 0, 1) := by decide +kernel
theorem dX8_boiler_16 : decode cX8_boiler 16 = .ok (.iconst 4, 1) := by decide +kernel
theorem dX8_boiler_17 : decode cX8_boiler 17 = .ok (.invokestatic 83, 3) := by decide +kernel
theorem dX8_boiler_20 : decode cX8_boiler 20 = .ok (.ifCond .ne 9, 3) := by decide +kernel
theorem dX8_boiler_23 : decode cX8_boiler 23 = .ok (.aload_n 0, 1) := by decide +kernel
theorem dX8_boiler_24 : decode cX8_boiler 24 = .ok (.iconst 2, 1) := by decide +kernel
theorem dX8_boiler_25 : decode cX8_boiler 25 = .ok (.invokevirtual 95, 3) := by decide +kernel
theorem dX8_boiler_28 : decode cX8_boiler 28 = .ok (.ireturn, 1) := by decide +kernel
theorem dX8_boiler_29 : decode cX8_boiler 29 = .ok (.aload_n 0, 1) := by decide +kernel
theorem dX8_boiler_30 : decode cX8_boiler 30 = .ok (.invokevirtual 126, 3) := by decide +kernel
theorem dX8_boiler_33 : decode cX8_boiler 33 = .ok (.aload_n 0, 1) := by decide +kernel
theorem dX8_boiler_34 : decode cX8_boiler 34 = .ok (.invokevirtual 132, 3) := by decide +kernel
theorem dX8_boiler_37 : decode cX8_boiler 37 = .ok (.pop, 1) := by decide +kernel
theorem dX8_boiler_38 : decode cX8_boiler 38 = .ok (.aload_n 0, 1) := by decide +kernel
theorem dX8_boiler_39 : decode cX8_boiler 39 = .ok (.aload_n 0, 1) := by decide +kernel
theorem dX8_boiler_40 : decode cX8_boiler 40 = .ok (.iload_n 1, 1) := by decide +kernel
theorem dX8_boiler_41 : decode cX8_boiler 41 = .ok (.iload_n 2, 1) := by decide +kernel
theorem dX8_boiler_42 : decode cX8_boiler 42 = .ok (.invokevirtual 151, 3) := by decide +kernel
theorem dX8_boiler_45 : decode cX8_boiler 45 = .ok (.invokevirtual 44, 3) := by decide +kernel
theorem dX8_boiler_48 : decode cX8_boiler 48 = .ok (.ireturn, 1) := by decide +kernel
theorem dX8_setTariff_0 : decode cX8_setTariff 0 = .ok (.iload_n 1, 1) := by decide +kernel
theorem dX8_setTariff_1 : decode cX8_setTariff 1 = .ok (.iconst 0, 1) := by decide +kernel
theorem dX8_setTariff_2 : decode cX8_setTariff 2 = .ok (.sipush 999, 3) := by decide +kernel
theorem dX8_setTariff_5 : decode cX8_setTariff 5 = .ok (.invokestatic 83, 3) := by decide +kernel
theorem dX8_setTariff_8 : decode cX8_setTariff 8 = .ok (.ifCond .eq 24, 3) := by decide +kernel
theorem dX8_setTariff_11 : decode cX8_setTariff 11 = .ok (.iload_n 2, 1) := by decide +kernel
theorem dX8_setTariff_12 : decode cX8_setTariff 12 = .ok (.iconst 0, 1) := by decide +kernel
theorem dX8_setTariff_13 : decode cX8_setTariff 13 = .ok (.sipush 1200, 3) := by decide +kernel
theorem dX8_setTariff_16 : decode cX8_setTariff 16 = .ok (.invokestatic 83, 3) := by decide +kernel
theorem dX8_setTariff_19 : decode cX8_setTariff 19 = .ok (.ifCond .eq 13, 3) := by decide +kernel
theorem dX8_setTariff_22 : decode cX8_setTariff 22 = .ok (.iload_n 3, 1) := by decide +kernel
theorem dX8_setTariff_23 : decode cX8_setTariff 23 = .ok (.iconst 0, 1) := by decide +kernel
theorem dX8_setTariff_24 : decode cX8_setTariff 24 = .ok (.bipush 99, 2) := by decide +kernel
theorem dX8_setTariff_26 : decode cX8_setTariff 26 = .ok (.invokestatic 83, 3) := by decide +kernel
theorem dX8_setTariff_29 : decode cX8_setTariff 29 = .ok (.ifCond .ne 9, 3) := by decide +kernel
theorem dX8_setTariff_32 : decode cX8_setTariff 32 = .ok (.aload_n 0, 1) := by decide +kernel
theorem dX8_setTariff_33 : decode cX8_setTariff 33 = .ok (.iconst 1, 1) := by decide +kernel
theorem dX8_setTariff_34 : decode cX8_setTariff 34 = .ok (.invokevirtual 95, 3) := by decide +kernel
theorem dX8_setTariff_37 : decode cX8_setTariff 37 = .ok (.ireturn, 1) := by decide +kernel
theorem dX8_setTariff_38 : decode cX8_setTariff 38 = .ok (.aload_n 0, 1) := by decide +kernel
theorem dX8_setTariff_39 : decode cX8_setTariff 39 = .ok (.invokevirtual 105, 3) := by decide +kernel
theorem dX8_setTariff_42 : decode cX8_setTariff 42 = .ok (.aload_n 0, 1) := by decide +kernel
theorem dX8_setTariff_43 : decode cX8_setTariff 43 = .ok (.getfield 7, 3) := by decide +kernel
theorem dX8_setTariff_46 : decode cX8_setTariff 46 = .ok (.iconst 2, 1) := by decide +kernel
theorem dX8_setTariff_47 : decode cX8_setTariff 47 = .ok (.iaload, 1) := by decide +kernel
theorem dX8_setTariff_48 : decode cX8_setTariff 48 = .ok (.istore 4, 2) := by decide +kernel
theorem dX8_setTariff_50 : decode cX8_setTariff 50 = .ok (.aload_n 0, 1) := by decide +kernel
theorem dX8_setTariff_51 : decode cX8_setTariff 51 = .ok (.getfield 7, 3) := by decide +kernel
theorem dX8_setTariff_54 : decode cX8_setTariff 54 = .ok (.iconst 2, 1) := by decide +kernel
theorem dX8_setTariff_55 : decode cX8_setTariff 55 = .ok (.iload_n 1, 1) := by decide +kernel
theorem dX8_setTariff_56 : decode cX8_setTariff 56 = .ok (.iastore, 1) := by decide +kernel
theorem dX8_setTariff_57 : decode cX8_setTariff 57 = .ok (.aload_n 0, 1) := by decide +kernel
theorem dX8_setTariff_58 : decode cX8_setTariff 58 = .ok (.getfield 7, 3) := by decide +kernel
theorem dX8_setTariff_61 : decode cX8_setTariff 61 = .ok (.iconst 3, 1) := by decide +kernel
theorem dX8_setTariff_62 : decode cX8_setTariff 62 = .ok (.iload_n 2, 1) := by decide +kernel
theorem dX8_setTariff_63 : decode cX8_setTariff 63 = .ok (.iastore, 1) := by decide +kernel
theorem dX8_setTariff_64 : decode cX8_setTariff 64 = .ok (.aload_n 0, 1) := by decide +kernel
theorem dX8_setTariff_65 : decode cX8_setTariff 65 = .ok (.getfield 7, 3) := by decide +kernel
theorem dX8_setTariff_68 : decode cX8_setTariff 68 = .ok (.iconst 4, 1) := by decide +kernel
theorem dX8_setTariff_69 : decode cX8_setTariff 69 = .ok (.iload_n 3, 1) := by decide +kernel
theorem dX8_setTariff_70 : decode cX8_setTariff 70 = .ok (.iastore, 1) := by decide +kernel
theorem dX8_setTariff_71 : decode cX8_setTariff 71 = .ok (.aload_n 0, 1) := by decide +kernel
theorem dX8_setTariff_72 : decode cX8_setTariff 72 = .ok (.iload 4, 2) := by decide +kernel
theorem dX8_setTariff_74 : decode cX8_setTariff 74 = .ok (.invokevirtual 112, 3) := by decide +kernel
theorem dX8_setTariff_77 : decode cX8_setTariff 77 = .ok (.ireturn, 1) := by decide +kernel
theorem dX8_pass_0 : decode cX8_pass 0 = .ok (.iload_n 1, 1) := by decide +kernel
theorem dX8_pass_1 : decode cX8_pass 1 = .ok (.iconst 1, 1) := by decide +kernel
theorem dX8_pass_2 : decode cX8_pass 2 = .ok (.bipush 100, 2) := by decide +kernel
theorem dX8_pass_4 : decode cX8_pass 4 = .ok (.invokestatic 83, 3) := by decide +kernel
theorem dX8_pass_7 : decode cX8_pass 7 = .ok (.ifCond .ne 9, 3) := by decide +kernel
theorem dX8_pass_10 : decode cX8_pass 10 = .ok (.aload_n 0, 1) := by decide +kernel
theorem dX8_pass_11 : decode cX8_pass 11 = .ok (.iconst 1, 1) := by decide +kernel
theorem dX8_pass_12 : decode cX8_pass 12 = .ok (.invokevirtual 95, 3) := by decide +kernel
theorem dX8_pass_15 : decode cX8_pass 15 = .ok (.ireturn, 1) := by decide +kernel
theorem dX8_pass_16 : decode cX8_pass 16 = .ok (.aload_n 0, 1) := by decide +kernel
theorem dX8_pass_17 : decode cX8_pass 17 = .ok (.getfield 7, 3) := by decide +kernel
theorem dX8_pass_20 : decode cX8_pass 20 = .ok (.bipush 8, 2) := by decide +kernel
theorem dX8_pass_22 : decode cX8_pass 22 = .ok (.iaload, 1) := by decide +kernel
theorem dX8_pass_23 : decode cX8_pass 23 = .ok (.iload_n 1, 1) := by decide +kernel
theorem dX8_pass_24 : decode cX8_pass 24 = .ok (.iadd, 1) := by decide +kernel
theorem dX8_pass_25 : decode cX8_pass 25 = .ok (.sipush 200, 3) := by decide +kernel
theorem dX8_pass_28 : decode cX8_pass 28 = .ok (.if_icmp .le 9, 3) := by decide +kernel
theorem dX8_pass_31 : decode cX8_pass 31 = .ok (.aload_n 0, 1) := by decide +kernel
theorem dX8_pass_32 : decode cX8_pass 32 = .ok (.iconst 2, 1) := by decide +kernel
theorem dX8_pass_33 : decode cX8_pass 33 = .ok (.invokevirtual 95, 3) := by decide +kernel
theorem dX8_pass_36 : decode cX8_pass 36 = .ok (.ireturn, 1) := by decide +kernel
theorem dX8_pass_37 : decode cX8_pass 37 = .ok (.aload_n 0, 1) := by decide +kernel
theorem dX8_pass_38 : decode cX8_pass 38 = .ok (.invokevirtual 105, 3) := by decide +kernel
theorem dX8_pass_41 : decode cX8_pass 41 = .ok (.aload_n 0, 1) := by decide +kernel
theorem dX8_pass_42 : decode cX8_pass 42 = .ok (.invokevirtual 126, 3) := by decide +kernel
theorem dX8_pass_45 : decode cX8_pass 45 = .ok (.iconst 1, 1) := by decide +kernel
theorem dX8_pass_46 : decode cX8_pass 46 = .ok (.istore_n 2, 1) := by decide +kernel
theorem dX8_pass_47 : decode cX8_pass 47 = .ok (.iload_n 2, 1) := by decide +kernel
theorem dX8_pass_48 : decode cX8_pass 48 = .ok (.aload_n 0, 1) := by decide +kernel
theorem dX8_pass_49 : decode cX8_pass 49 = .ok (.getfield 7, 3) := by decide +kernel
theorem dX8_pass_52 : decode cX8_pass 52 = .ok (.iconst 5, 1) := by decide +kernel
theorem dX8_pass_53 : decode cX8_pass 53 = .ok (.iaload, 1) := by decide +kernel
theorem dX8_pass_54 : decode cX8_pass 54 = .ok (.if_icmp .ge 31, 3) := by decide +kernel
theorem dX8_pass_57 : decode cX8_pass 57 = .ok (.aload_n 0, 1) := by decide +kernel
theorem dX8_pass_58 : decode cX8_pass 58 = .ok (.iload_n 2, 1) := by decide +kernel
theorem dX8_pass_59 : decode cX8_pass 59 = .ok (.bipush 7, 2) := by decide +kernel
theorem dX8_pass_61 : decode cX8_pass 61 = .ok (.aload_n 0, 1) := by decide +kernel
theorem dX8_pass_62 : decode cX8_pass 62 = .ok (.iload_n 2, 1) := by decide +kernel
theorem dX8_pass_63 : decode cX8_pass 63 = .ok (.bipush 7, 2) := by decide +kernel
theorem dX8_pass_65 : decode cX8_pass 65 = .ok (.invokevirtual 48, 3) := by decide +kernel
theorem dX8_pass_68 : decode cX8_pass 68 = .ok (.iload_n 1, 1) := by decide +kernel
theorem dX8_pass_69 : decode cX8_pass 69 = .ok (.aload_n 0, 1) := by decide +kernel
theorem dX8_pass_70 : decode cX8_pass 70 = .ok (.iload_n 2, 1) := by decide +kernel
theorem dX8_pass_71 : decode cX8_pass 71 = .ok (.invokevirtual 61, 3) := by decide +kernel
theorem dX8_pass_74 : decode cX8_pass 74 = .ok (.imul, 1) := by decide +kernel
theorem dX8_pass_75 : decode cX8_pass 75 = .ok (.iadd, 1) := by decide +kernel
theorem dX8_pass_76 : decode cX8_pass 76 = .ok (.invokevirtual 87, 3) := by decide +kernel
theorem dX8_pass_79 : decode cX8_pass 79 = .ok (.iinc 2 1, 3) := by decide +kernel
theorem dX8_pass_82 : decode cX8_pass 82 = .ok (.goto (-35), 3) := by decide +kernel
theorem dX8_pass_85 : decode cX8_pass 85 = .ok (.aload_n 0, 1) := by decide +kernel
theorem dX8_pass_86 : decode cX8_pass 86 = .ok (.getfield 7, 3) := by decide +kernel
theorem dX8_pass_89 : decode cX8_pass 89 = .ok (.bipush 7, 2) := by decide +kernel
theorem dX8_pass_91 : decode cX8_pass 91 = .ok (.dup2, 1) := by decide +kernel
theorem dX8_pass_92 : decode cX8_pass 92 = .ok (.iaload, 1) := by decide +kernel
theorem dX8_pass_93 : decode cX8_pass 93 = .ok (.iload_n 1, 1) := by decide +kernel
theorem dX8_pass_94 : decode cX8_pass 94 = .ok (.aload_n 0, 1) := by decide +kernel
theorem dX8_pass_95 : decode cX8_pass 95 = .ok (.invokevirtual 132, 3) := by decide +kernel
theorem dX8_pass_98 : decode cX8_pass 98 = .ok (.imul, 1) := by decide +kernel
theorem dX8_pass_99 : decode cX8_pass 99 = .ok (.iadd, 1) := by decide +kernel
theorem dX8_pass_100 : decode cX8_pass 100 = .ok (.iastore, 1) := by decide +kernel
theorem dX8_pass_101 : decode cX8_pass 101 = .ok (.aload_n 0, 1) := by decide +kernel
theorem dX8_pass_102 : decode cX8_pass 102 = .ok (.getfield 7, 3) := by decide +kernel
theorem dX8_pass_105 : decode cX8_pass 105 = .ok (.bipush 8, 2) := by decide +kernel
theorem dX8_pass_107 : decode cX8_pass 107 = .ok (.dup2, 1) := by decide +kernel
theorem dX8_pass_108 : decode cX8_pass 108 = .ok (.iaload, 1) := by decide +kernel
theorem dX8_pass_109 : decode cX8_pass 109 = .ok (.iload_n 1, 1) := by decide +kernel
theorem dX8_pass_110 : decode cX8_pass 110 = .ok (.iadd, 1) := by decide +kernel
theorem dX8_pass_111 : decode cX8_pass 111 = .ok (.iastore, 1) := by decide +kernel
theorem dX8_pass_112 : decode cX8_pass 112 = .ok (.aload_n 0, 1) := by decide +kernel
theorem dX8_pass_113 : decode cX8_pass 113 = .ok (.aload_n 0, 1) := by decide +kernel
theorem dX8_pass_114 : decode cX8_pass 114 = .ok (.getfield 7, 3) := by decide +kernel
theorem dX8_pass_117 : decode cX8_pass 117 = .ok (.bipush 8, 2) := by decide +kernel
theorem dX8_pass_119 : decode cX8_pass 119 = .ok (.iaload, 1) := by decide +kernel
theorem dX8_pass_120 : decode cX8_pass 120 = .ok (.invokevirtual 112, 3) := by decide +kernel
theorem dX8_pass_123 : decode cX8_pass 123 = .ok (.ireturn, 1) := by decide +kernel
theorem dX8_setMeter_0 : decode cX8_setMeter 0 = .ok (.aload_n 0, 1) := by decide +kernel
theorem dX8_setMeter_1 : decode cX8_setMeter 1 = .ok (.iload_n 1, 1) := by decide +kernel
theorem dX8_setMeter_2 : decode cX8_setMeter 2 = .ok (.invokevirtual 115, 3) := by decide +kernel
theorem dX8_setMeter_5 : decode cX8_setMeter 5 = .ok (.ifCond .ne 9, 3) := by decide +kernel
theorem dX8_setMeter_8 : decode cX8_setMeter 8 = .ok (.aload_n 0, 1) := by decide +kernel
theorem dX8_setMeter_9 : decode cX8_setMeter 9 = .ok (.iconst 1, 1) := by decide +kernel
theorem dX8_setMeter_10 : decode cX8_setMeter 10 = .ok (.invokevirtual 95, 3) := by decide +kernel
theorem dX8_setMeter_13 : decode cX8_setMeter 13 = .ok (.ireturn, 1) := by decide +kernel
theorem dX8_setMeter_14 : decode cX8_setMeter 14 = .ok (.aload_n 0, 1) := by decide +kernel
theorem dX8_setMeter_15 : decode cX8_setMeter 15 = .ok (.invokevirtual 105, 3) := by decide +kernel
theorem dX8_setMeter_18 : decode cX8_setMeter 18 = .ok (.aload_n 0, 1) := by decide +kernel
theorem dX8_setMeter_19 : decode cX8_setMeter 19 = .ok (.iload_n 1, 1) := by decide +kernel
theorem dX8_setMeter_20 : decode cX8_setMeter 20 = .ok (.bipush 6, 2) := by decide +kernel
theorem dX8_setMeter_22 : decode cX8_setMeter 22 = .ok (.iload_n 2, 1) := by decide +kernel
theorem dX8_setMeter_23 : decode cX8_setMeter 23 = .ok (.ifCond .eq 7, 3) := by decide +kernel
theorem dX8_setMeter_26 : decode cX8_setMeter 26 = .ok (.iconst 1, 1) := by decide +kernel
theorem dX8_setMeter_27 : decode cX8_setMeter 27 = .ok (.goto 4, 3) := by decide +kernel
theorem dX8_setMeter_30 : decode cX8_setMeter 30 = .ok (.iconst 0, 1) := by decide +kernel
theorem dX8_setMeter_31 : decode cX8_setMeter 31 = .ok (.invokevirtual 87, 3) := by decide +kernel
theorem dX8_setMeter_34 : decode cX8_setMeter 34 = .ok (.aload_n 0, 1) := by decide +kernel
theorem dX8_setMeter_35 : decode cX8_setMeter 35 = .ok (.aload_n 0, 1) := by decide +kernel
theorem dX8_setMeter_36 : decode cX8_setMeter 36 = .ok (.invokevirtual 138, 3) := by decide +kernel
theorem dX8_setMeter_39 : decode cX8_setMeter 39 = .ok (.invokevirtual 112, 3) := by decide +kernel
theorem dX8_setMeter_42 : decode cX8_setMeter 42 = .ok (.ireturn, 1) := by decide +kernel
theorem dX8_meterAt_0 : decode cX8_meterAt 0 = .ok (.iload_n 1, 1) := by decide +kernel
theorem dX8_meterAt_1 : decode cX8_meterAt 1 = .ok (.istore_n 2, 1) := by decide +kernel
theorem dX8_meterAt_2 : decode cX8_meterAt 2 = .ok (.iload_n 2, 1) := by decide +kernel
theorem dX8_meterAt_3 : decode cX8_meterAt 3 = .ok (.ifCond .le 23, 3) := by decide +kernel
theorem dX8_meterAt_6 : decode cX8_meterAt 6 = .ok (.aload_n 0, 1) := by decide +kernel
theorem dX8_meterAt_7 : decode cX8_meterAt 7 = .ok (.iload_n 2, 1) := by decide +kernel
theorem dX8_meterAt_8 : decode cX8_meterAt 8 = .ok (.bipush 6, 2) := by decide +kernel
theorem dX8_meterAt_10 : decode cX8_meterAt 10 = .ok (.invokevirtual 48, 3) := by decide +kernel
theorem dX8_meterAt_13 : decode cX8_meterAt 13 = .ok (.ifCond .ne 13, 3) := by decide +kernel
theorem dX8_meterAt_16 : decode cX8_meterAt 16 = .ok (.aload_n 0, 1) := by decide +kernel
theorem dX8_meterAt_17 : decode cX8_meterAt 17 = .ok (.iload_n 2, 1) := by decide +kernel
theorem dX8_meterAt_18 : decode cX8_meterAt 18 = .ok (.iconst 0, 1) := by decide +kernel
theorem dX8_meterAt_19 : decode cX8_meterAt 19 = .ok (.invokevirtual 48, 3) := by decide +kernel
theorem dX8_meterAt_22 : decode cX8_meterAt 22 = .ok (.istore_n 2, 1) := by decide +kernel
theorem dX8_meterAt_23 : decode cX8_meterAt 23 = .ok (.goto (-21), 3) := by decide +kernel
theorem dX8_meterAt_26 : decode cX8_meterAt 26 = .ok (.iload_n 2, 1) := by decide +kernel
theorem dX8_meterAt_27 : decode cX8_meterAt 27 = .ok (.ireturn, 1) := by decide +kernel
theorem dX8_hasMeter_0 : decode cX8_hasMeter 0 = .ok (.iload_n 1, 1) := by decide +kernel
theorem dX8_hasMeter_1 : decode cX8_hasMeter 1 = .ok (.ifCond .eq 14, 3) := by decide +kernel
theorem dX8_hasMeter_4 : decode cX8_hasMeter 4 = .ok (.aload_n 0, 1) := by decide +kernel
theorem dX8_hasMeter_5 : decode cX8_hasMeter 5 = .ok (.iload_n 1, 1) := by decide +kernel
theorem dX8_hasMeter_6 : decode cX8_hasMeter 6 = .ok (.bipush 6, 2) := by decide +kernel
theorem dX8_hasMeter_8 : decode cX8_hasMeter 8 = .ok (.invokevirtual 48, 3) := by decide +kernel
theorem dX8_hasMeter_11 : decode cX8_hasMeter 11 = .ok (.iconst 1, 1) := by decide +kernel
theorem dX8_hasMeter_12 : decode cX8_hasMeter 12 = .ok (.if_icmp .ne 7, 3) := by decide +kernel
theorem dX8_hasMeter_15 : decode cX8_hasMeter 15 = .ok (.iconst 1, 1) := by decide +kernel
theorem dX8_hasMeter_16 : decode cX8_hasMeter 16 = .ok (.goto 4, 3) := by decide +kernel
theorem dX8_hasMeter_19 : decode cX8_hasMeter 19 = .ok (.iconst 0, 1) := by decide +kernel
theorem dX8_hasMeter_20 : decode cX8_hasMeter 20 = .ok (.ireturn, 1) := by decide +kernel
theorem dX8_regionOf_0 : decode cX8_regionOf 0 = .ok (.aload_n 0, 1) := by decide +kernel
theorem dX8_regionOf_1 : decode cX8_regionOf 1 = .ok (.iload_n 1, 1) := by decide +kernel
theorem dX8_regionOf_2 : decode cX8_regionOf 2 = .ok (.invokevirtual 154, 3) := by decide +kernel
theorem dX8_regionOf_5 : decode cX8_regionOf 5 = .ok (.ifCond .ne 5, 3) := by decide +kernel
theorem dX8_regionOf_8 : decode cX8_regionOf 8 = .ok (.iconst (-1), 1) := by decide +kernel
theorem dX8_regionOf_9 : decode cX8_regionOf 9 = .ok (.ireturn, 1) := by decide +kernel
theorem dX8_regionOf_10 : decode cX8_regionOf 10 = .ok (.iconst 0, 1) := by decide +kernel
theorem dX8_regionOf_11 : decode cX8_regionOf 11 = .ok (.istore_n 2, 1) := by decide +kernel
theorem dX8_regionOf_12 : decode cX8_regionOf 12 = .ok (.iconst 1, 1) := by decide +kernel
theorem dX8_regionOf_13 : decode cX8_regionOf 13 = .ok (.istore_n 3, 1) := by decide +kernel
theorem dX8_regionOf_14 : decode cX8_regionOf 14 = .ok (.iload_n 3, 1) := by decide +kernel
theorem dX8_regionOf_15 : decode cX8_regionOf 15 = .ok (.aload_n 0, 1) := by decide +kernel
theorem dX8_regionOf_16 : decode cX8_regionOf 16 = .ok (.getfield 7, 3) := by decide +kernel
theorem dX8_regionOf_19 : decode cX8_regionOf 19 = .ok (.iconst 5, 1) := by decide +kernel
theorem dX8_regionOf_20 : decode cX8_regionOf 20 = .ok (.iaload, 1) := by decide +kernel
theorem dX8_regionOf_21 : decode cX8_regionOf 21 = .ok (.if_icmp .ge 26, 3) := by decide +kernel
theorem dX8_regionOf_24 : decode cX8_regionOf 24 = .ok (.iload_n 2, 1) := by decide +kernel
theorem dX8_regionOf_25 : decode cX8_regionOf 25 = .ok (.aload_n 0, 1) := by decide +kernel
theorem dX8_regionOf_26 : decode cX8_regionOf 26 = .ok (.iload_n 3, 1) := by decide +kernel
theorem dX8_regionOf_27 : decode cX8_regionOf 27 = .ok (.invokevirtual 157, 3) := by decide +kernel
theorem dX8_regionOf_30 : decode cX8_regionOf 30 = .ok (.iload_n 1, 1) := by decide +kernel
theorem dX8_regionOf_31 : decode cX8_regionOf 31 = .ok (.if_icmp .ne 7, 3) := by decide +kernel
theorem dX8_regionOf_34 : decode cX8_regionOf 34 = .ok (.iconst 1, 1) := by decide +kernel
theorem dX8_regionOf_35 : decode cX8_regionOf 35 = .ok (.goto 4, 3) := by decide +kernel
theorem dX8_regionOf_38 : decode cX8_regionOf 38 = .ok (.iconst 0, 1) := by decide +kernel
theorem dX8_regionOf_39 : decode cX8_regionOf 39 = .ok (.iadd, 1) := by decide +kernel
theorem dX8_regionOf_40 : decode cX8_regionOf 40 = .ok (.istore_n 2, 1) := by decide +kernel
theorem dX8_regionOf_41 : decode cX8_regionOf 41 = .ok (.iinc 3 1, 3) := by decide +kernel
theorem dX8_regionOf_44 : decode cX8_regionOf 44 = .ok (.goto (-30), 3) := by decide +kernel
theorem dX8_regionOf_47 : decode cX8_regionOf 47 = .ok (.iload_n 2, 1) := by decide +kernel
theorem dX8_regionOf_48 : decode cX8_regionOf 48 = .ok (.ireturn, 1) := by decide +kernel
theorem dX8_balanceOf_0 : decode cX8_balanceOf 0 = .ok (.aload_n 0, 1) := by decide +kernel
theorem dX8_balanceOf_1 : decode cX8_balanceOf 1 = .ok (.iload_n 1, 1) := by decide +kernel
theorem dX8_balanceOf_2 : decode cX8_balanceOf 2 = .ok (.invokevirtual 154, 3) := by decide +kernel
theorem dX8_balanceOf_5 : decode cX8_balanceOf 5 = .ok (.ifCond .ne 5, 3) := by decide +kernel
theorem dX8_balanceOf_8 : decode cX8_balanceOf 8 = .ok (.iconst (-1), 1) := by decide +kernel
theorem dX8_balanceOf_9 : decode cX8_balanceOf 9 = .ok (.ireturn, 1) := by decide +kernel
theorem dX8_balanceOf_10 : decode cX8_balanceOf 10 = .ok (.iconst 0, 1) := by decide +kernel
theorem dX8_balanceOf_11 : decode cX8_balanceOf 11 = .ok (.istore_n 2, 1) := by decide +kernel
theorem dX8_balanceOf_12 : decode cX8_balanceOf 12 = .ok (.iconst 1, 1) := by decide +kernel
theorem dX8_balanceOf_13 : decode cX8_balanceOf 13 = .ok (.istore_n 3, 1) := by decide +kernel
theorem dX8_balanceOf_14 : decode cX8_balanceOf 14 = .ok (.iload_n 3, 1) := by decide +kernel
theorem dX8_balanceOf_15 : decode cX8_balanceOf 15 = .ok (.aload_n 0, 1) := by decide +kernel
theorem dX8_balanceOf_16 : decode cX8_balanceOf 16 = .ok (.getfield 7, 3) := by decide +kernel
theorem dX8_balanceOf_19 : decode cX8_balanceOf 19 = .ok (.iconst 5, 1) := by decide +kernel
theorem dX8_balanceOf_20 : decode cX8_balanceOf 20 = .ok (.iaload, 1) := by decide +kernel
theorem dX8_balanceOf_21 : decode cX8_balanceOf 21 = .ok (.if_icmp .ge 31, 3) := by decide +kernel
theorem dX8_balanceOf_24 : decode cX8_balanceOf 24 = .ok (.iload_n 2, 1) := by decide +kernel
theorem dX8_balanceOf_25 : decode cX8_balanceOf 25 = .ok (.aload_n 0, 1) := by decide +kernel
theorem dX8_balanceOf_26 : decode cX8_balanceOf 26 = .ok (.iload_n 3, 1) := by decide +kernel
theorem dX8_balanceOf_27 : decode cX8_balanceOf 27 = .ok (.invokevirtual 157, 3) := by decide +kernel
theorem dX8_balanceOf_30 : decode cX8_balanceOf 30 = .ok (.iload_n 1, 1) := by decide +kernel
theorem dX8_balanceOf_31 : decode cX8_balanceOf 31 = .ok (.if_icmp .ne 12, 3) := by decide +kernel
theorem dX8_balanceOf_34 : decode cX8_balanceOf 34 = .ok (.aload_n 0, 1) := by decide +kernel
theorem dX8_balanceOf_35 : decode cX8_balanceOf 35 = .ok (.iload_n 3, 1) := by decide +kernel
theorem dX8_balanceOf_36 : decode cX8_balanceOf 36 = .ok (.iconst 5, 1) := by decide +kernel
theorem dX8_balanceOf_37 : decode cX8_balanceOf 37 = .ok (.invokevirtual 48, 3) := by decide +kernel
theorem dX8_balanceOf_40 : decode cX8_balanceOf 40 = .ok (.goto 4, 3) := by decide +kernel
theorem dX8_balanceOf_43 : decode cX8_balanceOf 43 = .ok (.iconst 0, 1) := by decide +kernel
theorem dX8_balanceOf_44 : decode cX8_balanceOf 44 = .ok (.iadd, 1) := by decide +kernel
theorem dX8_balanceOf_45 : decode cX8_balanceOf 45 = .ok (.istore_n 2, 1) := by decide +kernel
theorem dX8_balanceOf_46 : decode cX8_balanceOf 46 = .ok (.iinc 3 1, 3) := by decide +kernel
theorem dX8_balanceOf_49 : decode cX8_balanceOf 49 = .ok (.goto (-35), 3) := by decide +kernel
theorem dX8_balanceOf_52 : decode cX8_balanceOf 52 = .ok (.iload_n 2, 1) := by decide +kernel
theorem dX8_balanceOf_53 : decode cX8_balanceOf 53 = .ok (.ireturn, 1) := by decide +kernel
theorem dX8_inBranch_0 : decode cX8_inBranch 0 = .ok (.iconst 0, 1) := by decide +kernel
theorem dX8_inBranch_1 : decode cX8_inBranch 1 = .ok (.istore_n 3, 1) := by decide +kernel
theorem dX8_inBranch_2 : decode cX8_inBranch 2 = .ok (.iconst 1, 1) := by decide +kernel
theorem dX8_inBranch_3 : decode cX8_inBranch 3 = .ok (.istore 4, 2) := by decide +kernel
theorem dX8_inBranch_5 : decode cX8_inBranch 5 = .ok (.iload 4, 2) := by decide +kernel
theorem dX8_inBranch_7 : decode cX8_inBranch 7 = .ok (.aload_n 0, 1) := by decide +kernel
theorem dX8_inBranch_8 : decode cX8_inBranch 8 = .ok (.getfield 7, 3) := by decide +kernel
theorem dX8_inBranch_11 : decode cX8_inBranch 11 = .ok (.iconst 5, 1) := by decide +kernel
theorem dX8_inBranch_12 : decode cX8_inBranch 12 = .ok (.iaload, 1) := by decide +kernel
theorem dX8_inBranch_13 : decode cX8_inBranch 13 = .ok (.if_icmp .ge 37, 3) := by decide +kernel
theorem dX8_inBranch_16 : decode cX8_inBranch 16 = .ok (.iload_n 3, 1) := by decide +kernel
theorem dX8_inBranch_17 : decode cX8_inBranch 17 = .ok (.aload_n 0, 1) := by decide +kernel
theorem dX8_inBranch_18 : decode cX8_inBranch 18 = .ok (.iload 4, 2) := by decide +kernel
theorem dX8_inBranch_20 : decode cX8_inBranch 20 = .ok (.invokevirtual 157, 3) := by decide +kernel
theorem dX8_inBranch_23 : decode cX8_inBranch 23 = .ok (.iload_n 1, 1) := by decide +kernel
theorem dX8_inBranch_24 : decode cX8_inBranch 24 = .ok (.if_icmp .ne 17, 3) := by decide +kernel
theorem dX8_inBranch_27 : decode cX8_inBranch 27 = .ok (.aload_n 0, 1) := by decide +kernel
theorem dX8_inBranch_28 : decode cX8_inBranch 28 = .ok (.iload 4, 2) := by decide +kernel
theorem dX8_inBranch_30 : decode cX8_inBranch 30 = .ok (.iload_n 2, 1) := by decide +kernel
theorem dX8_inBranch_31 : decode cX8_inBranch 31 = .ok (.invokevirtual 117, 3) := by decide +kernel
theorem dX8_inBranch_34 : decode cX8_inBranch 34 = .ok (.ifCond .eq 7, 3) := by decide +kernel
theorem dX8_inBranch_37 : decode cX8_inBranch 37 = .ok (.iconst 1, 1) := by decide +kernel
theorem dX8_inBranch_38 : decode cX8_inBranch 38 = .ok (.goto 4, 3) := by decide +kernel
theorem dX8_inBranch_41 : decode cX8_inBranch 41 = .ok (.iconst 0, 1) := by decide +kernel
theorem dX8_inBranch_42 : decode cX8_inBranch 42 = .ok (.iadd, 1) := by decide +kernel
theorem dX8_inBranch_43 : decode cX8_inBranch 43 = .ok (.istore_n 3, 1) := by decide +kernel
theorem dX8_inBranch_44 : decode cX8_inBranch 44 = .ok (.iinc 4 1, 3) := by decide +kernel
theorem dX8_inBranch_47 : decode cX8_inBranch 47 = .ok (.goto (-42), 3) := by decide +kernel
theorem dX8_inBranch_50 : decode cX8_inBranch 50 = .ok (.iload_n 3, 1) := by decide +kernel
theorem dX8_inBranch_51 : decode cX8_inBranch 51 = .ok (.ireturn, 1) := by decide +kernel
theorem dX8_nextOf_0 : decode cX8_nextOf 0 = .ok (.aload_n 0, 1) := by decide +kernel
theorem dX8_nextOf_1 : decode cX8_nextOf 1 = .ok (.iload_n 1, 1) := by decide +kernel
theorem dX8_nextOf_2 : decode cX8_nextOf 2 = .ok (.invokevirtual 160, 3) := by decide +kernel
theorem dX8_nextOf_5 : decode cX8_nextOf 5 = .ok (.iconst 1, 1) := by decide +kernel
theorem dX8_nextOf_6 : decode cX8_nextOf 6 = .ok (.if_icmp .lt 12, 3) := by decide +kernel
theorem dX8_nextOf_9 : decode cX8_nextOf 9 = .ok (.aload_n 0, 1) := by decide +kernel
theorem dX8_nextOf_10 : decode cX8_nextOf 10 = .ok (.iload_n 1, 1) := by decide +kernel
theorem dX8_nextOf_11 : decode cX8_nextOf 11 = .ok (.invokevirtual 163, 3) := by decide +kernel
theorem dX8_nextOf_14 : decode cX8_nextOf 14 = .ok (.iconst 2, 1) := by decide +kernel
theorem dX8_nextOf_15 : decode cX8_nextOf 15 = .ok (.if_icmp .ge 5, 3) := by decide +kernel
theorem dX8_nextOf_18 : decode cX8_nextOf 18 = .ok (.iconst (-1), 1) := by decide +kernel
theorem dX8_nextOf_19 : decode cX8_nextOf 19 = .ok (.ireturn, 1) := by decide +kernel
theorem dX8_nextOf_20 : decode cX8_nextOf 20 = .ok (.iconst (-1), 1) := by decide +kernel
theorem dX8_nextOf_21 : decode cX8_nextOf 21 = .ok (.istore_n 2, 1) := by decide +kernel
theorem dX8_nextOf_22 : decode cX8_nextOf 22 = .ok (.iconst 0, 1) := by decide +kernel
theorem dX8_nextOf_23 : decode cX8_nextOf 23 = .ok (.istore_n 3, 1) := by decide +kernel
theorem dX8_nextOf_24 : decode cX8_nextOf 24 = .ok (.iconst 1, 1) := by decide +kernel
theorem dX8_nextOf_25 : decode cX8_nextOf 25 = .ok (.istore 4, 2) := by decide +kernel
theorem dX8_nextOf_27 : decode cX8_nextOf 27 = .ok (.iload 4, 2) := by decide +kernel
theorem dX8_nextOf_29 : decode cX8_nextOf 29 = .ok (.aload_n 0, 1) := by decide +kernel
theorem dX8_nextOf_30 : decode cX8_nextOf 30 = .ok (.getfield 7, 3) := by decide +kernel
theorem dX8_nextOf_33 : decode cX8_nextOf 33 = .ok (.iconst 5, 1) := by decide +kernel
theorem dX8_nextOf_34 : decode cX8_nextOf 34 = .ok (.iaload, 1) := by decide +kernel
theorem dX8_nextOf_35 : decode cX8_nextOf 35 = .ok (.if_icmp .ge 93, 3) := by decide +kernel
theorem dX8_nextOf_38 : decode cX8_nextOf 38 = .ok (.aload_n 0, 1) := by decide +kernel
theorem dX8_nextOf_39 : decode cX8_nextOf 39 = .ok (.iload 4, 2) := by decide +kernel
theorem dX8_nextOf_41 : decode cX8_nextOf 41 = .ok (.invokevirtual 157, 3) := by decide +kernel
theorem dX8_nextOf_44 : decode cX8_nextOf 44 = .ok (.iload_n 1, 1) := by decide +kernel
theorem dX8_nextOf_45 : decode cX8_nextOf 45 = .ok (.if_icmp .ne 77, 3) := by decide +kernel
theorem dX8_nextOf_48 : decode cX8_nextOf 48 = .ok (.aload_n 0, 1) := by decide +kernel
theorem dX8_nextOf_49 : decode cX8_nextOf 49 = .ok (.iload 4, 2) := by decide +kernel
theorem dX8_nextOf_51 : decode cX8_nextOf 51 = .ok (.bipush 6, 2) := by decide +kernel
theorem dX8_nextOf_53 : decode cX8_nextOf 53 = .ok (.invokevirtual 48, 3) := by decide +kernel
theorem dX8_nextOf_56 : decode cX8_nextOf 56 = .ok (.ifCond .ne 66, 3) := by decide +kernel
theorem dX8_nextOf_59 : decode cX8_nextOf 59 = .ok (.iconst 2, 1) := by decide +kernel
theorem dX8_nextOf_60 : decode cX8_nextOf 60 = .ok (.aload_n 0, 1) := by decide +kernel
theorem dX8_nextOf_61 : decode cX8_nextOf 61 = .ok (.iload_n 1, 1) := by decide +kernel
theorem dX8_nextOf_62 : decode cX8_nextOf 62 = .ok (.iload 4, 2) := by decide +kernel
theorem dX8_nextOf_64 : decode cX8_nextOf 64 = .ok (.invokevirtual 166, 3) := by decide +kernel
theorem dX8_nextOf_67 : decode cX8_nextOf 67 = .ok (.imul, 1) := by decide +kernel
theorem dX8_nextOf_68 : decode cX8_nextOf 68 = .ok (.aload_n 0, 1) := by decide +kernel
theorem dX8_nextOf_69 : decode cX8_nextOf 69 = .ok (.iload_n 1, 1) := by decide +kernel
theorem dX8_nextOf_70 : decode cX8_nextOf 70 = .ok (.invokevirtual 163, 3) := by decide +kernel
theorem dX8_nextOf_73 : decode cX8_nextOf 73 = .ok (.isub, 1) := by decide +kernel
theorem dX8_nextOf_74 : decode cX8_nextOf 74 = .ok (.istore 5, 2) := by decide +kernel
theorem dX8_nextOf_76 : decode cX8_nextOf 76 = .ok (.iload 5, 2) := by decide +kernel
theorem dX8_nextOf_78 : decode cX8_nextOf 78 = .ok (.ifCond .ge 9, 3) := by decide +kernel
theorem dX8_nextOf_81 : decode cX8_nextOf 81 = .ok (.iload 5, 2) := by decide +kernel
theorem dX8_nextOf_83 : decode cX8_nextOf 83 = .ok (.ineg, 1) := by decide +kernel
theorem dX8_nextOf_84 : decode cX8_nextOf 84 = .ok (.goto 5, 3) := by decide +kernel
theorem dX8_nextOf_87 : decode cX8_nextOf 87 = .ok (.iload 5, 2) := by decide +kernel
theorem dX8_nextOf_89 : decode cX8_nextOf 89 = .ok (.istore 5, 2) := by decide +kernel
theorem dX8_nextOf_91 : decode cX8_nextOf 91 = .ok (.iload_n 2, 1) := by decide +kernel
theorem dX8_nextOf_92 : decode cX8_nextOf 92 = .ok (.iconst (-1), 1) := by decide +kernel
theorem dX8_nextOf_93 : decode cX8_nextOf 93 = .ok (.if_icmp .eq 9, 3) := by decide +kernel
theorem dX8_nextOf_96 : decode cX8_nextOf 96 = .ok (.iload 5, 2) := by decide +kernel
theorem dX8_nextOf_98 : decode cX8_nextOf 98 = .ok (.iload_n 3, 1) := by decide +kernel
theorem dX8_nextOf_99 : decode cX8_nextOf 99 = .ok (.if_icmp .ge 8, 3) := by decide +kernel
theorem dX8_nextOf_102 : decode cX8_nextOf 102 = .ok (.iload 4, 2) := by decide +kernel
theorem dX8_nextOf_104 : decode cX8_nextOf 104 = .ok (.goto 4, 3) := by decide +kernel
theorem dX8_nextOf_107 : decode cX8_nextOf 107 = .ok (.iload_n 2, 1) := by decide +kernel
theorem dX8_nextOf_108 : decode cX8_nextOf 108 = .ok (.istore_n 2, 1) := by decide +kernel
theorem dX8_nextOf_109 : decode cX8_nextOf 109 = .ok (.iload_n 2, 1) := by decide +kernel
theorem dX8_nextOf_110 : decode cX8_nextOf 110 = .ok (.iload 4, 2) := by decide +kernel
theorem dX8_nextOf_112 : decode cX8_nextOf 112 = .ok (.if_icmp .ne 8, 3) := by decide +kernel
theorem dX8_nextOf_115 : decode cX8_nextOf 115 = .ok (.iload 5, 2) := by decide +kernel
theorem dX8_nextOf_117 : decode cX8_nextOf 117 = .ok (.goto 4, 3) := by decide +kernel
theorem dX8_nextOf_120 : decode cX8_nextOf 120 = .ok (.iload_n 3, 1) := by decide +kernel
theorem dX8_nextOf_121 : decode cX8_nextOf 121 = .ok (.istore_n 3, 1) := by decide +kernel
theorem dX8_nextOf_122 : decode cX8_nextOf 122 = .ok (.iinc 4 1, 3) := by decide +kernel
theorem dX8_nextOf_125 : decode cX8_nextOf 125 = .ok (.goto (-98), 3) := by decide +kernel
theorem dX8_nextOf_128 : decode cX8_nextOf 128 = .ok (.iload_n 2, 1) := by decide +kernel
theorem dX8_nextOf_129 : decode cX8_nextOf 129 = .ok (.ireturn, 1) := by decide +kernel
theorem dX8_balance_0 : decode cX8_balance 0 = .ok (.aload_n 0, 1) := by decide +kernel
theorem dX8_balance_1 : decode cX8_balance 1 = .ok (.iload_n 1, 1) := by decide +kernel
theorem dX8_balance_2 : decode cX8_balance 2 = .ok (.invokevirtual 91, 3) := by decide +kernel
theorem dX8_balance_5 : decode cX8_balance 5 = .ok (.ifCond .eq 15, 3) := by decide +kernel
theorem dX8_balance_8 : decode cX8_balance 8 = .ok (.aload_n 0, 1) := by decide +kernel
theorem dX8_balance_9 : decode cX8_balance 9 = .ok (.aload_n 0, 1) := by decide +kernel
theorem dX8_balance_10 : decode cX8_balance 10 = .ok (.iload_n 1, 1) := by decide +kernel
theorem dX8_balance_11 : decode cX8_balance 11 = .ok (.invokevirtual 160, 3) := by decide +kernel
theorem dX8_balance_14 : decode cX8_balance 14 = .ok (.invokevirtual 44, 3) := by decide +kernel
theorem dX8_balance_17 : decode cX8_balance 17 = .ok (.goto 8, 3) := by decide +kernel
theorem dX8_balance_20 : decode cX8_balance 20 = .ok (.aload_n 0, 1) := by decide +kernel
theorem dX8_balance_21 : decode cX8_balance 21 = .ok (.iconst 1, 1) := by decide +kernel
theorem dX8_balance_22 : decode cX8_balance 22 = .ok (.invokevirtual 95, 3) := by decide +kernel
theorem dX8_balance_25 : decode cX8_balance 25 = .ok (.ireturn, 1) := by decide +kernel
theorem dX8_region_0 : decode cX8_region 0 = .ok (.aload_n 0, 1) := by decide +kernel
theorem dX8_region_1 : decode cX8_region 1 = .ok (.iload_n 1, 1) := by decide +kernel
theorem dX8_region_2 : decode cX8_region 2 = .ok (.invokevirtual 91, 3) := by decide +kernel
theorem dX8_region_5 : decode cX8_region 5 = .ok (.ifCond .eq 15, 3) := by decide +kernel
theorem dX8_region_8 : decode cX8_region 8 = .ok (.aload_n 0, 1) := by decide +kernel
theorem dX8_region_9 : decode cX8_region 9 = .ok (.aload_n 0, 1) := by decide +kernel
theorem dX8_region_10 : decode cX8_region 10 = .ok (.iload_n 1, 1) := by decide +kernel
theorem dX8_region_11 : decode cX8_region 11 = .ok (.invokevirtual 163, 3) := by decide +kernel
theorem dX8_region_14 : decode cX8_region 14 = .ok (.invokevirtual 44, 3) := by decide +kernel
theorem dX8_region_17 : decode cX8_region 17 = .ok (.goto 8, 3) := by decide +kernel
theorem dX8_region_20 : decode cX8_region 20 = .ok (.aload_n 0, 1) := by decide +kernel
theorem dX8_region_21 : decode cX8_region 21 = .ok (.iconst 1, 1) := by decide +kernel
theorem dX8_region_22 : decode cX8_region 22 = .ok (.invokevirtual 95, 3) := by decide +kernel
theorem dX8_region_25 : decode cX8_region 25 = .ok (.ireturn, 1) := by decide +kernel
theorem dX8_meterOf_0 : decode cX8_meterOf 0 = .ok (.aload_n 0, 1) := by decide +kernel
theorem dX8_meterOf_1 : decode cX8_meterOf 1 = .ok (.iload_n 1, 1) := by decide +kernel
theorem dX8_meterOf_2 : decode cX8_meterOf 2 = .ok (.invokevirtual 115, 3) := by decide +kernel
theorem dX8_meterOf_5 : decode cX8_meterOf 5 = .ok (.ifCond .eq 15, 3) := by decide +kernel
theorem dX8_meterOf_8 : decode cX8_meterOf 8 = .ok (.aload_n 0, 1) := by decide +kernel
theorem dX8_meterOf_9 : decode cX8_meterOf 9 = .ok (.aload_n 0, 1) := by decide +kernel
theorem dX8_meterOf_10 : decode cX8_meterOf 10 = .ok (.iload_n 1, 1) := by decide +kernel
theorem dX8_meterOf_11 : decode cX8_meterOf 11 = .ok (.invokevirtual 157, 3) := by decide +kernel
theorem dX8_meterOf_14 : decode cX8_meterOf 14 = .ok (.invokevirtual 44, 3) := by decide +kernel
theorem dX8_meterOf_17 : decode cX8_meterOf 17 = .ok (.goto 8, 3) := by decide +kernel
theorem dX8_meterOf_20 : decode cX8_meterOf 20 = .ok (.aload_n 0, 1) := by decide +kernel
theorem dX8_meterOf_21 : decode cX8_meterOf 21 = .ok (.iconst 1, 1) := by decide +kernel
theorem dX8_meterOf_22 : decode cX8_meterOf 22 = .ok (.invokevirtual 95, 3) := by decide +kernel
theorem dX8_meterOf_25 : decode cX8_meterOf 25 = .ok (.ireturn, 1) := by decide +kernel
theorem dX8_nextMeter_0 : decode cX8_nextMeter 0 = .ok (.aload_n 0, 1) := by decide +kernel
theorem dX8_nextMeter_1 : decode cX8_nextMeter 1 = .ok (.iload_n 1, 1) := by decide +kernel
theorem dX8_nextMeter_2 : decode cX8_nextMeter 2 = .ok (.invokevirtual 91, 3) := by decide +kernel
theorem dX8_nextMeter_5 : decode cX8_nextMeter 5 = .ok (.ifCond .eq 15, 3) := by decide +kernel
theorem dX8_nextMeter_8 : decode cX8_nextMeter 8 = .ok (.aload_n 0, 1) := by decide +kernel
theorem dX8_nextMeter_9 : decode cX8_nextMeter 9 = .ok (.aload_n 0, 1) := by decide +kernel
theorem dX8_nextMeter_10 : decode cX8_nextMeter 10 = .ok (.iload_n 1, 1) := by decide +kernel
theorem dX8_nextMeter_11 : decode cX8_nextMeter 11 = .ok (.invokevirtual 169, 3) := by decide +kernel
theorem dX8_nextMeter_14 : decode cX8_nextMeter 14 = .ok (.invokevirtual 44, 3) := by decide +kernel
theorem dX8_nextMeter_17 : decode cX8_nextMeter 17 = .ok (.goto 8, 3) := by decide +kernel
theorem dX8_nextMeter_20 : decode cX8_nextMeter 20 = .ok (.aload_n 0, 1) := by decide +kernel
theorem dX8_nextMeter_21 : decode cX8_nextMeter 21 = .ok (.iconst 1, 1) := by decide +kernel
theorem dX8_nextMeter_22 : decode cX8_nextMeter 22 = .ok (.invokevirtual 95, 3) := by decide +kernel
theorem dX8_nextMeter_25 : decode cX8_nextMeter 25 = .ok (.ireturn, 1) := by decide +kernel
theorem dX8_suspectMany_0 : decode cX8_suspectMany 0 = .ok (.iconst 0, 1) := by decide +kernel
theorem dX8_suspectMany_1 : decode cX8_suspectMany 1 = .ok (.istore_n 1, 1) := by decide +kernel
theorem dX8_suspectMany_2 : decode cX8_suspectMany 2 = .ok (.iconst 0, 1) := by decide +kernel
theorem dX8_suspectMany_3 : decode cX8_suspectMany 3 = .ok (.istore_n 2, 1) := by decide +kernel
theorem dX8_suspectMany_4 : decode cX8_suspectMany 4 = .ok (.iload_n 2, 1) := by decide +kernel
theorem dX8_suspectMany_5 : decode cX8_suspectMany 5 = .ok (.aload_n 0, 1) := by decide +kernel
theorem dX8_suspectMany_6 : decode cX8_suspectMany 6 = .ok (.getfield 7, 3) := by decide +kernel
theorem dX8_suspectMany_9 : decode cX8_suspectMany 9 = .ok (.iconst 5, 1) := by decide +kernel
theorem dX8_suspectMany_10 : decode cX8_suspectMany 10 = .ok (.iaload, 1) := by decide +kernel
theorem dX8_suspectMany_11 : decode cX8_suspectMany 11 = .ok (.if_icmp .ge 25, 3) := by decide +kernel
theorem dX8_suspectMany_14 : decode cX8_suspectMany 14 = .ok (.iload_n 1, 1) := by decide +kernel
theorem dX8_suspectMany_15 : decode cX8_suspectMany 15 = .ok (.aload_n 0, 1) := by decide +kernel
theorem dX8_suspectMany_16 : decode cX8_suspectMany 16 = .ok (.iload_n 2, 1) := by decide +kernel
theorem dX8_suspectMany_17 : decode cX8_suspectMany 17 = .ok (.invokevirtual 160, 3) := by decide +kernel
theorem dX8_suspectMany_20 : decode cX8_suspectMany 20 = .ok (.ifCond .le 7, 3) := by decide +kernel
theorem dX8_suspectMany_23 : decode cX8_suspectMany 23 = .ok (.iconst 1, 1) := by decide +kernel
theorem dX8_suspectMany_24 : decode cX8_suspectMany 24 = .ok (.goto 4, 3) := by decide +kernel
theorem dX8_suspectMany_27 : decode cX8_suspectMany 27 = .ok (.iconst 0, 1) := by decide +kernel
theorem dX8_suspectMany_28 : decode cX8_suspectMany 28 = .ok (.iadd, 1) := by decide +kernel
theorem dX8_suspectMany_29 : decode cX8_suspectMany 29 = .ok (.istore_n 1, 1) := by decide +kernel
theorem dX8_suspectMany_30 : decode cX8_suspectMany 30 = .ok (.iinc 2 1, 3) := by decide +kernel
theorem dX8_suspectMany_33 : decode cX8_suspectMany 33 = .ok (.goto (-29), 3) := by decide +kernel
theorem dX8_suspectMany_36 : decode cX8_suspectMany 36 = .ok (.iload_n 1, 1) := by decide +kernel
theorem dX8_suspectMany_37 : decode cX8_suspectMany 37 = .ok (.ireturn, 1) := by decide +kernel
theorem dX8_suspects_0 : decode cX8_suspects 0 = .ok (.aload_n 0, 1) := by decide +kernel
theorem dX8_suspects_1 : decode cX8_suspects 1 = .ok (.aload_n 0, 1) := by decide +kernel
theorem dX8_suspects_2 : decode cX8_suspects 2 = .ok (.invokevirtual 172, 3) := by decide +kernel
theorem dX8_suspects_5 : decode cX8_suspects 5 = .ok (.invokevirtual 44, 3) := by decide +kernel
theorem dX8_suspects_8 : decode cX8_suspects 8 = .ok (.ireturn, 1) := by decide +kernel
theorem dX8_firstNext_0 : decode cX8_firstNext 0 = .ok (.iconst 0, 1) := by decide +kernel
theorem dX8_firstNext_1 : decode cX8_firstNext 1 = .ok (.istore_n 1, 1) := by decide +kernel
theorem dX8_firstNext_2 : decode cX8_firstNext 2 = .ok (.iload_n 1, 1) := by decide +kernel
theorem dX8_firstNext_3 : decode cX8_firstNext 3 = .ok (.aload_n 0, 1) := by decide +kernel
theorem dX8_firstNext_4 : decode cX8_firstNext 4 = .ok (.getfield 7, 3) := by decide +kernel
theorem dX8_firstNext_7 : decode cX8_firstNext 7 = .ok (.iconst 5, 1) := by decide +kernel
theorem dX8_firstNext_8 : decode cX8_firstNext 8 = .ok (.iaload, 1) := by decide +kernel
theorem dX8_firstNext_9 : decode cX8_firstNext 9 = .ok (.if_icmp .ge 24, 3) := by decide +kernel
theorem dX8_firstNext_12 : decode cX8_firstNext 12 = .ok (.aload_n 0, 1) := by decide +kernel
theorem dX8_firstNext_13 : decode cX8_firstNext 13 = .ok (.iload_n 1, 1) := by decide +kernel
theorem dX8_firstNext_14 : decode cX8_firstNext 14 = .ok (.invokevirtual 169, 3) := by decide +kernel
theorem dX8_firstNext_17 : decode cX8_firstNext 17 = .ok (.iconst (-1), 1) := by decide +kernel
theorem dX8_firstNext_18 : decode cX8_firstNext 18 = .ok (.if_icmp .eq 9, 3) := by decide +kernel
theorem dX8_firstNext_21 : decode cX8_firstNext 21 = .ok (.aload_n 0, 1) := by decide +kernel
theorem dX8_firstNext_22 : decode cX8_firstNext 22 = .ok (.iload_n 1, 1) := by decide +kernel
theorem dX8_firstNext_23 : decode cX8_firstNext 23 = .ok (.invokevirtual 169, 3) := by decide +kernel
theorem dX8_firstNext_26 : decode cX8_firstNext 26 = .ok (.ireturn, 1) := by decide +kernel
theorem dX8_firstNext_27 : decode cX8_firstNext 27 = .ok (.iinc 1 1, 3) := by decide +kernel
theorem dX8_firstNext_30 : decode cX8_firstNext 30 = .ok (.goto (-28), 3) := by decide +kernel
theorem dX8_firstNext_33 : decode cX8_firstNext 33 = .ok (.iconst (-1), 1) := by decide +kernel
theorem dX8_firstNext_34 : decode cX8_firstNext 34 = .ok (.ireturn, 1) := by decide +kernel
theorem dX8_metersToFind_0 : decode cX8_metersToFind 0 = .ok (.iconst 0, 1) := by decide +kernel
theorem dX8_metersToFind_1 : decode cX8_metersToFind 1 = .ok (.istore_n 1, 1) := by decide +kernel
theorem dX8_metersToFind_2 : decode cX8_metersToFind 2 = .ok (.iconst 0, 1) := by decide +kernel
theorem dX8_metersToFind_3 : decode cX8_metersToFind 3 = .ok (.istore_n 2, 1) := by decide +kernel
theorem dX8_metersToFind_4 : decode cX8_metersToFind 4 = .ok (.aload_n 0, 1) := by decide +kernel
theorem dX8_metersToFind_5 : decode cX8_metersToFind 5 = .ok (.invokevirtual 175, 3) := by decide +kernel
theorem dX8_metersToFind_8 : decode cX8_metersToFind 8 = .ok (.istore_n 3, 1) := by decide +kernel
theorem dX8_metersToFind_9 : decode cX8_metersToFind 9 = .ok (.iload_n 3, 1) := by decide +kernel
theorem dX8_metersToFind_10 : decode cX8_metersToFind 10 = .ok (.iconst (-1), 1) := by decide +kernel
theorem dX8_metersToFind_11 : decode cX8_metersToFind 11 = .ok (.if_icmp .eq 28, 3) := by decide +kernel
theorem dX8_metersToFind_14 : decode cX8_metersToFind 14 = .ok (.aload_n 0, 1) := by decide +kernel
theorem dX8_metersToFind_15 : decode cX8_metersToFind 15 = .ok (.iload_n 3, 1) := by decide +kernel
theorem dX8_metersToFind_16 : decode cX8_metersToFind 16 = .ok (.bipush 6, 2) := by decide +kernel
theorem dX8_metersToFind_18 : decode cX8_metersToFind 18 = .ok (.iconst 1, 1) := by decide +kernel
theorem dX8_metersToFind_19 : decode cX8_metersToFind 19 = .ok (.invokevirtual 87, 3) := by decide +kernel
theorem dX8_metersToFind_22 : decode cX8_metersToFind 22 = .ok (.iload_n 1, 1) := by decide +kernel
theorem dX8_metersToFind_23 : decode cX8_metersToFind 23 = .ok (.iconst 1, 1) := by decide +kernel
theorem dX8_metersToFind_24 : decode cX8_metersToFind 24 = .ok (.iload_n 3, 1) := by decide +kernel
theorem dX8_metersToFind_25 : decode cX8_metersToFind 25 = .ok (.ishl, 1) := by decide +kernel
theorem dX8_metersToFind_26 : decode cX8_metersToFind 26 = .ok (.ior, 1) := by decide +kernel
theorem dX8_metersToFind_27 : decode cX8_metersToFind 27 = .ok (.istore_n 1, 1) := by decide +kernel
theorem dX8_metersToFind_28 : decode cX8_metersToFind 28 = .ok (.iinc 2 1, 3) := by decide +kernel
theorem dX8_metersToFind_31 : decode cX8_metersToFind 31 = .ok (.aload_n 0, 1) := by decide +kernel
theorem dX8_metersToFind_32 : decode cX8_metersToFind 32 = .ok (.invokevirtual 175, 3) := by decide +kernel
theorem dX8_metersToFind_35 : decode cX8_metersToFind 35 = .ok (.istore_n 3, 1) := by decide +kernel
theorem dX8_metersToFind_36 : decode cX8_metersToFind 36 = .ok (.goto (-27), 3) := by decide +kernel
theorem dX8_metersToFind_39 : decode cX8_metersToFind 39 = .ok (.iconst 0, 1) := by decide +kernel
theorem dX8_metersToFind_40 : decode cX8_metersToFind 40 = .ok (.istore_n 3, 1) := by decide +kernel
theorem dX8_metersToFind_41 : decode cX8_metersToFind 41 = .ok (.iload_n 3, 1) := by decide +kernel
theorem dX8_metersToFind_42 : decode cX8_metersToFind 42 = .ok (.bipush 16, 2) := by decide +kernel
theorem dX8_metersToFind_44 : decode cX8_metersToFind 44 = .ok (.if_icmp .ge 36, 3) := by decide +kernel
theorem dX8_metersToFind_47 : decode cX8_metersToFind 47 = .ok (.aload_n 0, 1) := by decide +kernel
theorem dX8_metersToFind_48 : decode cX8_metersToFind 48 = .ok (.iload_n 3, 1) := by decide +kernel
theorem dX8_metersToFind_49 : decode cX8_metersToFind 49 = .ok (.bipush 6, 2) := by decide +kernel
theorem dX8_metersToFind_51 : decode cX8_metersToFind 51 = .ok (.iload_n 1, 1) := by decide +kernel
theorem dX8_metersToFind_52 : decode cX8_metersToFind 52 = .ok (.iload_n 3, 1) := by decide +kernel
theorem dX8_metersToFind_53 : decode cX8_metersToFind 53 = .ok (.ishr, 1) := by decide +kernel
theorem dX8_metersToFind_54 : decode cX8_metersToFind 54 = .ok (.iconst 1, 1) := by decide +kernel
theorem dX8_metersToFind_55 : decode cX8_metersToFind 55 = .ok (.iand, 1) := by decide +kernel
theorem dX8_metersToFind_56 : decode cX8_metersToFind 56 = .ok (.iconst 1, 1) := by decide +kernel
theorem dX8_metersToFind_57 : decode cX8_metersToFind 57 = .ok (.if_icmp .ne 7, 3) := by decide +kernel
theorem dX8_metersToFind_60 : decode cX8_metersToFind 60 = .ok (.iconst 0, 1) := by decide +kernel
theorem dX8_metersToFind_61 : decode cX8_metersToFind 61 = .ok (.goto 10, 3) := by decide +kernel
theorem dX8_metersToFind_64 : decode cX8_metersToFind 64 = .ok (.aload_n 0, 1) := by decide +kernel
theorem dX8_metersToFind_65 : decode cX8_metersToFind 65 = .ok (.iload_n 3, 1) := by decide +kernel
theorem dX8_metersToFind_66 : decode cX8_metersToFind 66 = .ok (.bipush 6, 2) := by decide +kernel
theorem dX8_metersToFind_68 : decode cX8_metersToFind 68 = .ok (.invokevirtual 48, 3) := by decide +kernel
theorem dX8_metersToFind_71 : decode cX8_metersToFind 71 = .ok (.invokevirtual 87, 3) := by decide +kernel
theorem dX8_metersToFind_74 : decode cX8_metersToFind 74 = .ok (.iinc 3 1, 3) := by decide +kernel
theorem dX8_metersToFind_77 : decode cX8_metersToFind 77 = .ok (.goto (-36), 3) := by decide +kernel
theorem dX8_metersToFind_80 : decode cX8_metersToFind 80 = .ok (.aload_n 0, 1) := by decide +kernel
theorem dX8_metersToFind_81 : decode cX8_metersToFind 81 = .ok (.iload_n 2, 1) := by decide +kernel
theorem dX8_metersToFind_82 : decode cX8_metersToFind 82 = .ok (.invokevirtual 44, 3) := by decide +kernel
theorem dX8_metersToFind_85 : decode cX8_metersToFind 85 = .ok (.ireturn, 1) := by decide +kernel
theorem dX8_supplyFor_0 : decode cX8_supplyFor 0 = .ok (.aload_n 0, 1) := by decide +kernel
theorem dX8_supplyFor_1 : decode cX8_supplyFor 1 = .ok (.iload_n 1, 1) := by decide +kernel
theorem dX8_supplyFor_2 : decode cX8_supplyFor 2 = .ok (.invokevirtual 115, 3) := by decide +kernel
theorem dX8_supplyFor_5 : decode cX8_supplyFor 5 = .ok (.ifCond .ne 9, 3) := by decide +kernel
theorem dX8_supplyFor_8 : decode cX8_supplyFor 8 = .ok (.aload_n 0, 1) := by decide +kernel
theorem dX8_supplyFor_9 : decode cX8_supplyFor 9 = .ok (.iconst 1, 1) := by decide +kernel
theorem dX8_supplyFor_10 : decode cX8_supplyFor 10 = .ok (.invokevirtual 95, 3) := by decide +kernel
theorem dX8_supplyFor_13 : decode cX8_supplyFor 13 = .ok (.ireturn, 1) := by decide +kernel
theorem dX8_supplyFor_14 : decode cX8_supplyFor 14 = .ok (.iload_n 2, 1) := by decide +kernel
theorem dX8_supplyFor_15 : decode cX8_supplyFor 15 = .ok (.sipush (-200), 3) := by decide +kernel
theorem dX8_supplyFor_18 : decode cX8_supplyFor 18 = .ok (.sipush 1200, 3) := by decide +kernel
theorem dX8_supplyFor_21 : decode cX8_supplyFor 21 = .ok (.invokestatic 83, 3) := by decide +kernel
theorem dX8_supplyFor_24 : decode cX8_supplyFor 24 = .ok (.ifCond .ne 9, 3) := by decide +kernel
theorem dX8_supplyFor_27 : decode cX8_supplyFor 27 = .ok (.aload_n 0, 1) := by decide +kernel
theorem dX8_supplyFor_28 : decode cX8_supplyFor 28 = .ok (.iconst 2, 1) := by decide +kernel
theorem dX8_supplyFor_29 : decode cX8_supplyFor 29 = .ok (.invokevirtual 95, 3) := by decide +kernel
theorem dX8_supplyFor_32 : decode cX8_supplyFor 32 = .ok (.ireturn, 1) := by decide +kernel
theorem dX8_supplyFor_33 : decode cX8_supplyFor 33 = .ok (.aload_n 0, 1) := by decide +kernel
theorem dX8_supplyFor_34 : decode cX8_supplyFor 34 = .ok (.getfield 7, 3) := by decide +kernel
theorem dX8_supplyFor_37 : decode cX8_supplyFor 37 = .ok (.iconst 0, 1) := by decide +kernel
theorem dX8_supplyFor_38 : decode cX8_supplyFor 38 = .ok (.iaload, 1) := by decide +kernel
theorem dX8_supplyFor_39 : decode cX8_supplyFor 39 = .ok (.istore_n 3, 1) := by decide +kernel
theorem dX8_supplyFor_40 : decode cX8_supplyFor 40 = .ok (.iconst (-1), 1) := by decide +kernel
theorem dX8_supplyFor_41 : decode cX8_supplyFor 41 = .ok (.istore 4, 2) := by decide +kernel
theorem dX8_supplyFor_43 : decode cX8_supplyFor 43 = .ok (.sipush 400, 3) := by decide +kernel
theorem dX8_supplyFor_46 : decode cX8_supplyFor 46 = .ok (.istore 5, 2) := by decide +kernel
theorem dX8_supplyFor_48 : decode cX8_supplyFor 48 = .ok (.iload 5, 2) := by decide +kernel
theorem dX8_supplyFor_50 : decode cX8_supplyFor 50 = .ok (.sipush 1200, 3) := by decide +kernel
theorem dX8_supplyFor_53 : decode cX8_supplyFor 53 = .ok (.if_icmp .gt 45, 3) := by decide +kernel
theorem dX8_supplyFor_56 : decode cX8_supplyFor 56 = .ok (.iload 4, 2) := by decide +kernel
theorem dX8_supplyFor_58 : decode cX8_supplyFor 58 = .ok (.iconst (-1), 1) := by decide +kernel
theorem dX8_supplyFor_59 : decode cX8_supplyFor 59 = .ok (.if_icmp .ne 39, 3) := by decide +kernel
theorem dX8_supplyFor_62 : decode cX8_supplyFor 62 = .ok (.aload_n 0, 1) := by decide +kernel
theorem dX8_supplyFor_63 : decode cX8_supplyFor 63 = .ok (.getfield 7, 3) := by decide +kernel
theorem dX8_supplyFor_66 : decode cX8_supplyFor 66 = .ok (.iconst 0, 1) := by decide +kernel
theorem dX8_supplyFor_67 : decode cX8_supplyFor 67 = .ok (.iload 5, 2) := by decide +kernel
theorem dX8_supplyFor_69 : decode cX8_supplyFor 69 = .ok (.iastore, 1) := by decide +kernel
theorem dX8_supplyFor_70 : decode cX8_supplyFor 70 = .ok (.aload_n 0, 1) := by decide +kernel
theorem dX8_supplyFor_71 : decode cX8_supplyFor 71 = .ok (.invokevirtual 126, 3) := by decide +kernel
theorem dX8_supplyFor_74 : decode cX8_supplyFor 74 = .ok (.aload_n 0, 1) := by decide +kernel
theorem dX8_supplyFor_75 : decode cX8_supplyFor 75 = .ok (.getfield 25, 3) := by decide +kernel
theorem dX8_supplyFor_78 : decode cX8_supplyFor 78 = .ok (.iload_n 1, 1) := by decide +kernel
theorem dX8_supplyFor_79 : decode cX8_supplyFor 79 = .ok (.iaload, 1) := by decide +kernel
theorem dX8_supplyFor_80 : decode cX8_supplyFor 80 = .ok (.iload_n 2, 1) := by decide +kernel
theorem dX8_supplyFor_81 : decode cX8_supplyFor 81 = .ok (.if_icmp .lt 8, 3) := by decide +kernel
theorem dX8_supplyFor_84 : decode cX8_supplyFor 84 = .ok (.iload 5, 2) := by decide +kernel
theorem dX8_supplyFor_86 : decode cX8_supplyFor 86 = .ok (.goto 4, 3) := by decide +kernel
theorem dX8_supplyFor_89 : decode cX8_supplyFor 89 = .ok (.iconst (-1), 1) := by decide +kernel
theorem dX8_supplyFor_90 : decode cX8_supplyFor 90 = .ok (.istore 4, 2) := by decide +kernel
theorem dX8_supplyFor_92 : decode cX8_supplyFor 92 = .ok (.iinc 5 1, 3) := by decide +kernel
theorem dX8_supplyFor_95 : decode cX8_supplyFor 95 = .ok (.goto (-47), 3) := by decide +kernel
theorem dX8_supplyFor_98 : decode cX8_supplyFor 98 = .ok (.aload_n 0, 1) := by decide +kernel
theorem dX8_supplyFor_99 : decode cX8_supplyFor 99 = .ok (.getfield 7, 3) := by decide +kernel
theorem dX8_supplyFor_102 : decode cX8_supplyFor 102 = .ok (.iconst 0, 1) := by decide +kernel
theorem dX8_supplyFor_103 : decode cX8_supplyFor 103 = .ok (.iload_n 3, 1) := by decide +kernel
theorem dX8_supplyFor_104 : decode cX8_supplyFor 104 = .ok (.iastore, 1) := by decide +kernel
theorem dX8_supplyFor_105 : decode cX8_supplyFor 105 = .ok (.aload_n 0, 1) := by decide +kernel
theorem dX8_supplyFor_106 : decode cX8_supplyFor 106 = .ok (.iload 4, 2) := by decide +kernel
theorem dX8_supplyFor_108 : decode cX8_supplyFor 108 = .ok (.invokevirtual 44, 3) := by decide +kernel
theorem dX8_supplyFor_111 : decode cX8_supplyFor 111 = .ok (.ireturn, 1) := by decide +kernel
theorem dX8_isWarm_0 : decode cX8_isWarm 0 = .ok (.iconst 1, 1) := by decide +kernel
theorem dX8_isWarm_1 : decode cX8_isWarm 1 = .ok (.istore_n 1, 1) := by decide +kernel
theorem dX8_isWarm_2 : decode cX8_isWarm 2 = .ok (.iconst 1, 1) := by decide +kernel
theorem dX8_isWarm_3 : decode cX8_isWarm 3 = .ok (.istore_n 2, 1) := by decide +kernel
theorem dX8_isWarm_4 : decode cX8_isWarm 4 = .ok (.iload_n 2, 1) := by decide +kernel
theorem dX8_isWarm_5 : decode cX8_isWarm 5 = .ok (.aload_n 0, 1) := by decide +kernel
theorem dX8_isWarm_6 : decode cX8_isWarm 6 = .ok (.getfield 7, 3) := by decide +kernel
theorem dX8_isWarm_9 : decode cX8_isWarm 9 = .ok (.iconst 5, 1) := by decide +kernel
theorem dX8_isWarm_10 : decode cX8_isWarm 10 = .ok (.iaload, 1) := by decide +kernel
theorem dX8_isWarm_11 : decode cX8_isWarm 11 = .ok (.if_icmp .ge 46, 3) := by decide +kernel
theorem dX8_isWarm_14 : decode cX8_isWarm 14 = .ok (.iload_n 1, 1) := by decide +kernel
theorem dX8_isWarm_15 : decode cX8_isWarm 15 = .ok (.ifCond .eq 34, 3) := by decide +kernel
theorem dX8_isWarm_18 : decode cX8_isWarm 18 = .ok (.aload_n 0, 1) := by decide +kernel
theorem dX8_isWarm_19 : decode cX8_isWarm 19 = .ok (.iload_n 2, 1) := by decide +kernel
theorem dX8_isWarm_20 : decode cX8_isWarm 20 = .ok (.iconst 3, 1) := by decide +kernel
theorem dX8_isWarm_21 : decode cX8_isWarm 21 = .ok (.invokevirtual 48, 3) := by decide +kernel
theorem dX8_isWarm_24 : decode cX8_isWarm 24 = .ok (.ifCond .eq 21, 3) := by decide +kernel
theorem dX8_isWarm_27 : decode cX8_isWarm 27 = .ok (.aload_n 0, 1) := by decide +kernel
theorem dX8_isWarm_28 : decode cX8_isWarm 28 = .ok (.getfield 25, 3) := by decide +kernel
theorem dX8_isWarm_31 : decode cX8_isWarm 31 = .ok (.iload_n 2, 1) := by decide +kernel
theorem dX8_isWarm_32 : decode cX8_isWarm 32 = .ok (.iaload, 1) := by decide +kernel
theorem dX8_isWarm_33 : decode cX8_isWarm 33 = .ok (.aload_n 0, 1) := by decide +kernel
theorem dX8_isWarm_34 : decode cX8_isWarm 34 = .ok (.getfield 28, 3) := by decide +kernel
theorem dX8_isWarm_37 : decode cX8_isWarm 37 = .ok (.iload_n 2, 1) := by decide +kernel
theorem dX8_isWarm_38 : decode cX8_isWarm 38 = .ok (.iaload, 1) := by decide +kernel
theorem dX8_isWarm_39 : decode cX8_isWarm 39 = .ok (.bipush 100, 2) := by decide +kernel
theorem dX8_isWarm_41 : decode cX8_isWarm 41 = .ok (.iadd, 1) := by decide +kernel
theorem dX8_isWarm_42 : decode cX8_isWarm 42 = .ok (.if_icmp .lt 7, 3) := by decide +kernel
theorem dX8_isWarm_45 : decode cX8_isWarm 45 = .ok (.iconst 1, 1) := by decide +kernel
theorem dX8_isWarm_46 : decode cX8_isWarm 46 = .ok (.goto 4, 3) := by decide +kernel
theorem dX8_isWarm_49 : decode cX8_isWarm 49 = .ok (.iconst 0, 1) := by decide +kernel
theorem dX8_isWarm_50 : decode cX8_isWarm 50 = .ok (.istore_n 1, 1) := by decide +kernel
theorem dX8_isWarm_51 : decode cX8_isWarm 51 = .ok (.iinc 2 1, 3) := by decide +kernel
theorem dX8_isWarm_54 : decode cX8_isWarm 54 = .ok (.goto (-50), 3) := by decide +kernel
theorem dX8_isWarm_57 : decode cX8_isWarm 57 = .ok (.iload_n 1, 1) := by decide +kernel
theorem dX8_isWarm_58 : decode cX8_isWarm 58 = .ok (.ireturn, 1) := by decide +kernel
theorem dX8_cheapestSupply_0 : decode cX8_cheapestSupply 0 = .ok (.aload_n 0, 1) := by decide +kernel
theorem dX8_cheapestSupply_1 : decode cX8_cheapestSupply 1 = .ok (.getfield 7, 3) := by decide +kernel
theorem dX8_cheapestSupply_4 : decode cX8_cheapestSupply 4 = .ok (.iconst 0, 1) := by decide +kernel
theorem dX8_cheapestSupply_5 : decode cX8_cheapestSupply 5 = .ok (.iaload, 1) := by decide +kernel
theorem dX8_cheapestSupply_6 : decode cX8_cheapestSupply 6 = .ok (.istore_n 1, 1) := by decide +kernel
theorem dX8_cheapestSupply_7 : decode cX8_cheapestSupply 7 = .ok (.iconst (-1), 1) := by decide +kernel
theorem dX8_cheapestSupply_8 : decode cX8_cheapestSupply 8 = .ok (.istore_n 2, 1) := by decide +kernel
theorem dX8_cheapestSupply_9 : decode cX8_cheapestSupply 9 = .ok (.iconst 0, 1) := by decide +kernel
theorem dX8_cheapestSupply_10 : decode cX8_cheapestSupply 10 = .ok (.istore_n 3, 1) := by decide +kernel
theorem dX8_cheapestSupply_11 : decode cX8_cheapestSupply 11 = .ok (.sipush 400, 3) := by decide +kernel
theorem dX8_cheapestSupply_14 : decode cX8_cheapestSupply 14 = .ok (.istore 4, 2) := by decide +kernel
theorem dX8_cheapestSupply_16 : decode cX8_cheapestSupply 16 = .ok (.iload 4, 2) := by decide +kernel
theorem dX8_cheapestSupply_18 : decode cX8_cheapestSupply 18 = .ok (.sipush 1200, 3) := by decide +kernel
theorem dX8_cheapestSupply_21 : decode cX8_cheapestSupply 21 = .ok (.if_icmp .gt 58, 3) := by decide +kernel
theorem dX8_cheapestSupply_24 : decode cX8_cheapestSupply 24 = .ok (.aload_n 0, 1) := by decide +kernel
theorem dX8_cheapestSupply_25 : decode cX8_cheapestSupply 25 = .ok (.getfield 7, 3) := by decide +kernel
theorem dX8_cheapestSupply_28 : decode cX8_cheapestSupply 28 = .ok (.iconst 0, 1) := by decide +kernel
theorem dX8_cheapestSupply_29 : decode cX8_cheapestSupply 29 = .ok (.iload 4, 2) := by decide +kernel
theorem dX8_cheapestSupply_31 : decode cX8_cheapestSupply 31 = .ok (.iastore, 1) := by decide +kernel
theorem dX8_cheapestSupply_32 : decode cX8_cheapestSupply 32 = .ok (.aload_n 0, 1) := by decide +kernel
theorem dX8_cheapestSupply_33 : decode cX8_cheapestSupply 33 = .ok (.invokevirtual 126, 3) := by decide +kernel
theorem dX8_cheapestSupply_36 : decode cX8_cheapestSupply 36 = .ok (.aload_n 0, 1) := by decide +kernel
theorem dX8_cheapestSupply_37 : decode cX8_cheapestSupply 37 = .ok (.invokevirtual 132, 3) := by decide +kernel
theorem dX8_cheapestSupply_40 : decode cX8_cheapestSupply 40 = .ok (.istore 5, 2) := by decide +kernel
theorem dX8_cheapestSupply_42 : decode cX8_cheapestSupply 42 = .ok (.aload_n 0, 1) := by decide +kernel
theorem dX8_cheapestSupply_43 : decode cX8_cheapestSupply 43 = .ok (.getfield 80, 3) := by decide +kernel
theorem dX8_cheapestSupply_46 : decode cX8_cheapestSupply 46 = .ok (.ifCond .ne 27, 3) := by decide +kernel
theorem dX8_cheapestSupply_49 : decode cX8_cheapestSupply 49 = .ok (.aload_n 0, 1) := by decide +kernel
theorem dX8_cheapestSupply_50 : decode cX8_cheapestSupply 50 = .ok (.invokevirtual 178, 3) := by decide +kernel
theorem dX8_cheapestSupply_53 : decode cX8_cheapestSupply 53 = .ok (.ifCond .eq 20, 3) := by decide +kernel
theorem dX8_cheapestSupply_56 : decode cX8_cheapestSupply 56 = .ok (.iload_n 2, 1) := by decide +kernel
theorem dX8_cheapestSupply_57 : decode cX8_cheapestSupply 57 = .ok (.iconst (-1), 1) := by decide +kernel
theorem dX8_cheapestSupply_58 : decode cX8_cheapestSupply 58 = .ok (.if_icmp .eq 9, 3) := by decide +kernel
theorem dX8_cheapestSupply_61 : decode cX8_cheapestSupply 61 = .ok (.iload 5, 2) := by decide +kernel
theorem dX8_cheapestSupply_63 : decode cX8_cheapestSupply 63 = .ok (.iload_n 3, 1) := by decide +kernel
theorem dX8_cheapestSupply_64 : decode cX8_cheapestSupply 64 = .ok (.if_icmp .ge 9, 3) := by decide +kernel
theorem dX8_cheapestSupply_67 : decode cX8_cheapestSupply 67 = .ok (.iload 4, 2) := by decide +kernel
theorem dX8_cheapestSupply_69 : decode cX8_cheapestSupply 69 = .ok (.istore_n 2, 1) := by decide +kernel
theorem dX8_cheapestSupply_70 : decode cX8_cheapestSupply 70 = .ok (.iload 5, 2) := by decide +kernel
theorem dX8_cheapestSupply_72 : decode cX8_cheapestSupply 72 = .ok (.istore_n 3, 1) := by decide +kernel
theorem dX8_cheapestSupply_73 : decode cX8_cheapestSupply 73 = .ok (.iinc 4 1, 3) := by decide +kernel
theorem dX8_cheapestSupply_76 : decode cX8_cheapestSupply 76 = .ok (.goto (-60), 3) := by decide +kernel
theorem dX8_cheapestSupply_79 : decode cX8_cheapestSupply 79 = .ok (.aload_n 0, 1) := by decide +kernel
theorem dX8_cheapestSupply_80 : decode cX8_cheapestSupply 80 = .ok (.getfield 7, 3) := by decide +kernel
theorem dX8_cheapestSupply_83 : decode cX8_cheapestSupply 83 = .ok (.iconst 0, 1) := by decide +kernel
theorem dX8_cheapestSupply_84 : decode cX8_cheapestSupply 84 = .ok (.iload_n 1, 1) := by decide +kernel
theorem dX8_cheapestSupply_85 : decode cX8_cheapestSupply 85 = .ok (.iastore, 1) := by decide +kernel
theorem dX8_cheapestSupply_86 : decode cX8_cheapestSupply 86 = .ok (.aload_n 0, 1) := by decide +kernel
theorem dX8_cheapestSupply_87 : decode cX8_cheapestSupply 87 = .ok (.iload_n 2, 1) := by decide +kernel
theorem dX8_cheapestSupply_88 : decode cX8_cheapestSupply 88 = .ok (.invokevirtual 44, 3) := by decide +kernel
theorem dX8_cheapestSupply_91 : decode cX8_cheapestSupply 91 = .ok (.ireturn, 1) := by decide +kernel
theorem dX8_saves_0 : decode cX8_saves 0 = .ok (.aload_n 0, 1) := by decide +kernel
theorem dX8_saves_1 : decode cX8_saves 1 = .ok (.iload_n 1, 1) := by decide +kernel
theorem dX8_saves_2 : decode cX8_saves 2 = .ok (.invokevirtual 115, 3) := by decide +kernel
theorem dX8_saves_5 : decode cX8_saves 5 = .ok (.ifCond .ne 9, 3) := by decide +kernel
theorem dX8_saves_8 : decode cX8_saves 8 = .ok (.aload_n 0, 1) := by decide +kernel
theorem dX8_saves_9 : decode cX8_saves 9 = .ok (.iconst 1, 1) := by decide +kernel
theorem dX8_saves_10 : decode cX8_saves 10 = .ok (.invokevirtual 95, 3) := by decide +kernel
theorem dX8_saves_13 : decode cX8_saves 13 = .ok (.ireturn, 1) := by decide +kernel
theorem dX8_saves_14 : decode cX8_saves 14 = .ok (.aload_n 0, 1) := by decide +kernel
theorem dX8_saves_15 : decode cX8_saves 15 = .ok (.invokevirtual 126, 3) := by decide +kernel
theorem dX8_saves_18 : decode cX8_saves 18 = .ok (.aload_n 0, 1) := by decide +kernel
theorem dX8_saves_19 : decode cX8_saves 19 = .ok (.invokevirtual 132, 3) := by decide +kernel
theorem dX8_saves_22 : decode cX8_saves 22 = .ok (.istore_n 2, 1) := by decide +kernel
theorem dX8_saves_23 : decode cX8_saves 23 = .ok (.aload_n 0, 1) := by decide +kernel
theorem dX8_saves_24 : decode cX8_saves 24 = .ok (.iload_n 1, 1) := by decide +kernel
theorem dX8_saves_25 : decode cX8_saves 25 = .ok (.iconst 5, 1) := by decide +kernel
theorem dX8_saves_26 : decode cX8_saves 26 = .ok (.invokevirtual 48, 3) := by decide +kernel
theorem dX8_saves_29 : decode cX8_saves 29 = .ok (.istore_n 3, 1) := by decide +kernel
theorem dX8_saves_30 : decode cX8_saves 30 = .ok (.aload_n 0, 1) := by decide +kernel
theorem dX8_saves_31 : decode cX8_saves 31 = .ok (.iload_n 1, 1) := by decide +kernel
theorem dX8_saves_32 : decode cX8_saves 32 = .ok (.iconst 5, 1) := by decide +kernel
theorem dX8_saves_33 : decode cX8_saves 33 = .ok (.iconst 0, 1) := by decide +kernel
theorem dX8_saves_34 : decode cX8_saves 34 = .ok (.invokevirtual 87, 3) := by decide +kernel
theorem dX8_saves_37 : decode cX8_saves 37 = .ok (.aload_n 0, 1) := by decide +kernel
theorem dX8_saves_38 : decode cX8_saves 38 = .ok (.invokevirtual 126, 3) := by decide +kernel
theorem dX8_saves_41 : decode cX8_saves 41 = .ok (.aload_n 0, 1) := by decide +kernel
theorem dX8_saves_42 : decode cX8_saves 42 = .ok (.invokevirtual 132, 3) := by decide +kernel
theorem dX8_saves_45 : decode cX8_saves 45 = .ok (.istore 4, 2) := by decide +kernel
theorem dX8_saves_47 : decode cX8_saves 47 = .ok (.aload_n 0, 1) := by decide +kernel
theorem dX8_saves_48 : decode cX8_saves 48 = .ok (.iload_n 1, 1) := by decide +kernel
theorem dX8_saves_49 : decode cX8_saves 49 = .ok (.iconst 5, 1) := by decide +kernel
theorem dX8_saves_50 : decode cX8_saves 50 = .ok (.iload_n 3, 1) := by decide +kernel
theorem dX8_saves_51 : decode cX8_saves 51 = .ok (.invokevirtual 87, 3) := by decide +kernel
theorem dX8_saves_54 : decode cX8_saves 54 = .ok (.aload_n 0, 1) := by decide +kernel
theorem dX8_saves_55 : decode cX8_saves 55 = .ok (.iload_n 2, 1) := by decide +kernel
theorem dX8_saves_56 : decode cX8_saves 56 = .ok (.iload 4, 2) := by decide +kernel
theorem dX8_saves_58 : decode cX8_saves 58 = .ok (.isub, 1) := by decide +kernel
theorem dX8_saves_59 : decode cX8_saves 59 = .ok (.invokevirtual 44, 3) := by decide +kernel
theorem dX8_saves_62 : decode cX8_saves 62 = .ok (.ireturn, 1) := by decide +kernel
theorem dX8_efficiency_0 : decode cX8_efficiency 0 = .ok (.aload_n 0, 1) := by decide +kernel
theorem dX8_efficiency_1 : decode cX8_efficiency 1 = .ok (.iconst 0, 1) := by decide +kernel
theorem dX8_efficiency_2 : decode cX8_efficiency 2 = .ok (.putfield 37, 3) := by decide +kernel
theorem dX8_efficiency_5 : decode cX8_efficiency 5 = .ok (.aload_n 0, 1) := by decide +kernel
theorem dX8_efficiency_6 : decode cX8_efficiency 6 = .ok (.invokevirtual 126, 3) := by decide +kernel
theorem dX8_efficiency_9 : decode cX8_efficiency 9 = .ok (.aload_n 0, 1) := by decide +kernel
theorem dX8_efficiency_10 : decode cX8_efficiency 10 = .ok (.getfield 22, 3) := by decide +kernel
theorem dX8_efficiency_13 : decode cX8_efficiency 13 = .ok (.iconst 0, 1) := by decide +kernel
theorem dX8_efficiency_14 : decode cX8_efficiency 14 = .ok (.iaload, 1) := by decide +kernel
theorem dX8_efficiency_15 : decode cX8_efficiency 15 = .ok (.aload_n 0, 1) := by decide +kernel
theorem dX8_efficiency_16 : decode cX8_efficiency 16 = .ok (.getfield 7, 3) := by decide +kernel
theorem dX8_efficiency_19 : decode cX8_efficiency 19 = .ok (.iconst 0, 1) := by decide +kernel
theorem dX8_efficiency_20 : decode cX8_efficiency 20 = .ok (.iaload, 1) := by decide +kernel
theorem dX8_efficiency_21 : decode cX8_efficiency 21 = .ok (.imul, 1) := by decide +kernel
theorem dX8_efficiency_22 : decode cX8_efficiency 22 = .ok (.istore_n 1, 1) := by decide +kernel
theorem dX8_efficiency_23 : decode cX8_efficiency 23 = .ok (.iload_n 1, 1) := by decide +kernel
theorem dX8_efficiency_24 : decode cX8_efficiency 24 = .ok (.ifCond .ne 7, 3) := by decide +kernel
theorem dX8_efficiency_27 : decode cX8_efficiency 27 = .ok (.dconst 0, 1) := by decide +kernel
theorem dX8_efficiency_28 : decode cX8_efficiency 28 = .ok (.goto 12, 3) := by decide +kernel
theorem dX8_efficiency_31 : decode cX8_efficiency 31 = .ok (.aload_n 0, 1) := by decide +kernel
theorem dX8_efficiency_32 : decode cX8_efficiency 32 = .ok (.iconst 0, 1) := by decide +kernel
theorem dX8_efficiency_33 : decode cX8_efficiency 33 = .ok (.invokevirtual 144, 3) := by decide +kernel
theorem dX8_efficiency_36 : decode cX8_efficiency 36 = .ok (.i2d, 1) := by decide +kernel
theorem dX8_efficiency_37 : decode cX8_efficiency 37 = .ok (.iload_n 1, 1) := by decide +kernel
theorem dX8_efficiency_38 : decode cX8_efficiency 38 = .ok (.i2d, 1) := by decide +kernel
theorem dX8_efficiency_39 : decode cX8_efficiency 39 = .ok (.ddiv, 1) := by decide +kernel
theorem dX8_efficiency_40 : decode cX8_efficiency 40 = .ok (.dreturn, 1) := by decide +kernel
theorem dX8_append_0 : decode cX8_append 0 = .ok (.iload_n 1, 1) := by decide +kernel
theorem dX8_append_1 : decode cX8_append 1 = .ok (.iconst 0, 1) := by decide +kernel
theorem dX8_append_2 : decode cX8_append 2 = .ok (.bipush 127, 2) := by decide +kernel
theorem dX8_append_4 : decode cX8_append 4 = .ok (.invokestatic 83, 3) := by decide +kernel
theorem dX8_append_7 : decode cX8_append 7 = .ok (.ifCond .ne 9, 3) := by decide +kernel
theorem dX8_append_10 : decode cX8_append 10 = .ok (.aload_n 0, 1) := by decide +kernel
theorem dX8_append_11 : decode cX8_append 11 = .ok (.iconst 1, 1) := by decide +kernel
theorem dX8_append_12 : decode cX8_append 12 = .ok (.invokevirtual 95, 3) := by decide +kernel
theorem dX8_append_15 : decode cX8_append 15 = .ok (.ireturn, 1) := by decide +kernel
theorem dX8_append_16 : decode cX8_append 16 = .ok (.aload_n 0, 1) := by decide +kernel
theorem dX8_append_17 : decode cX8_append 17 = .ok (.getfield 182, 3) := by decide +kernel
theorem dX8_append_20 : decode cX8_append 20 = .ok (.sipush 180, 3) := by decide +kernel
theorem dX8_append_23 : decode cX8_append 23 = .ok (.if_icmp .ne 9, 3) := by decide +kernel
theorem dX8_append_26 : decode cX8_append 26 = .ok (.aload_n 0, 1) := by decide +kernel
theorem dX8_append_27 : decode cX8_append 27 = .ok (.iconst 2, 1) := by decide +kernel
theorem dX8_append_28 : decode cX8_append 28 = .ok (.invokevirtual 95, 3) := by decide +kernel
theorem dX8_append_31 : decode cX8_append 31 = .ok (.ireturn, 1) := by decide +kernel
theorem dX8_append_32 : decode cX8_append 32 = .ok (.aload_n 0, 1) := by decide +kernel
theorem dX8_append_33 : decode cX8_append 33 = .ok (.getfield 19, 3) := by decide +kernel
theorem dX8_append_36 : decode cX8_append 36 = .ok (.aload_n 0, 1) := by decide +kernel
theorem dX8_append_37 : decode cX8_append 37 = .ok (.getfield 182, 3) := by decide +kernel
theorem dX8_append_40 : decode cX8_append 40 = .ok (.iload_n 1, 1) := by decide +kernel
theorem dX8_append_41 : decode cX8_append 41 = .ok (.iastore, 1) := by decide +kernel
theorem dX8_append_42 : decode cX8_append 42 = .ok (.aload_n 0, 1) := by decide +kernel
theorem dX8_append_43 : decode cX8_append 43 = .ok (.dup, 1) := by decide +kernel
theorem dX8_append_44 : decode cX8_append 44 = .ok (.getfield 182, 3) := by decide +kernel
theorem dX8_append_47 : decode cX8_append 47 = .ok (.iconst 1, 1) := by decide +kernel
theorem dX8_append_48 : decode cX8_append 48 = .ok (.iadd, 1) := by decide +kernel
theorem dX8_append_49 : decode cX8_append 49 = .ok (.putfield 182, 3) := by decide +kernel
theorem dX8_append_52 : decode cX8_append 52 = .ok (.aload_n 0, 1) := by decide +kernel
theorem dX8_append_53 : decode cX8_append 53 = .ok (.aload_n 0, 1) := by decide +kernel
theorem dX8_append_54 : decode cX8_append 54 = .ok (.getfield 182, 3) := by decide +kernel
theorem dX8_append_57 : decode cX8_append 57 = .ok (.invokevirtual 44, 3) := by decide +kernel
theorem dX8_append_60 : decode cX8_append 60 = .ok (.ireturn, 1) := by decide +kernel
theorem dX8_clearText_0 : decode cX8_clearText 0 = .ok (.aload_n 0, 1) := by decide +kernel
theorem dX8_clearText_1 : decode cX8_clearText 1 = .ok (.getfield 182, 3) := by decide +kernel
theorem dX8_clearText_4 : decode cX8_clearText 4 = .ok (.istore_n 1, 1) := by decide +kernel
theorem dX8_clearText_5 : decode cX8_clearText 5 = .ok (.aload_n 0, 1) := by decide +kernel
theorem dX8_clearText_6 : decode cX8_clearText 6 = .ok (.iconst 0, 1) := by decide +kernel
theorem dX8_clearText_7 : decode cX8_clearText 7 = .ok (.putfield 182, 3) := by decide +kernel
theorem dX8_clearText_10 : decode cX8_clearText 10 = .ok (.aload_n 0, 1) := by decide +kernel
theorem dX8_clearText_11 : decode cX8_clearText 11 = .ok (.iload_n 1, 1) := by decide +kernel
theorem dX8_clearText_12 : decode cX8_clearText 12 = .ok (.invokevirtual 44, 3) := by decide +kernel
theorem dX8_clearText_15 : decode cX8_clearText 15 = .ok (.ireturn, 1) := by decide +kernel
theorem dX8_isDigit_0 : decode cX8_isDigit 0 = .ok (.aload_n 0, 1) := by decide +kernel
theorem dX8_isDigit_1 : decode cX8_isDigit 1 = .ok (.getfield 185, 3) := by decide +kernel
theorem dX8_isDigit_4 : decode cX8_isDigit 4 = .ok (.aload_n 0, 1) := by decide +kernel
theorem dX8_isDigit_5 : decode cX8_isDigit 5 = .ok (.getfield 182, 3) := by decide +kernel
theorem dX8_isDigit_8 : decode cX8_isDigit 8 = .ok (.if_icmp .ge 26, 3) := by decide +kernel
theorem dX8_isDigit_11 : decode cX8_isDigit 11 = .ok (.aload_n 0, 1) := by decide +kernel
theorem dX8_isDigit_12 : decode cX8_isDigit 12 = .ok (.getfield 19, 3) := by decide +kernel
theorem dX8_isDigit_15 : decode cX8_isDigit 15 = .ok (.aload_n 0, 1) := by decide +kernel
theorem dX8_isDigit_16 : decode cX8_isDigit 16 = .ok (.getfield 185, 3) := by decide +kernel
theorem dX8_isDigit_19 : decode cX8_isDigit 19 = .ok (.iaload, 1) := by decide +kernel
theorem dX8_isDigit_20 : decode cX8_isDigit 20 = .ok (.bipush 48, 2) := by decide +kernel
theorem dX8_isDigit_22 : decode cX8_isDigit 22 = .ok (.bipush 57, 2) := by decide +kernel
theorem dX8_isDigit_24 : decode cX8_isDigit 24 = .ok (.invokestatic 83, 3) := by decide +kernel
theorem dX8_isDigit_27 : decode cX8_isDigit 27 = .ok (.ifCond .eq 7, 3) := by decide +kernel
theorem dX8_isDigit_30 : decode cX8_isDigit 30 = .ok (.iconst 1, 1) := by decide +kernel
theorem dX8_isDigit_31 : decode cX8_isDigit 31 = .ok (.goto 4, 3) := by decide +kernel
theorem dX8_isDigit_34 : decode cX8_isDigit 34 = .ok (.iconst 0, 1) := by decide +kernel
theorem dX8_isDigit_35 : decode cX8_isDigit 35 = .ok (.ireturn, 1) := by decide +kernel
theorem dX8_isNumber_0 : decode cX8_isNumber 0 = .ok (.aload_n 0, 1) := by decide +kernel
theorem dX8_isNumber_1 : decode cX8_isNumber 1 = .ok (.getfield 185, 3) := by decide +kernel
theorem dX8_isNumber_4 : decode cX8_isNumber 4 = .ok (.istore 5, 2) := by decide +kernel
theorem dX8_isNumber_6 : decode cX8_isNumber 6 = .ok (.aload_n 0, 1) := by decide +kernel
theorem dX8_isNumber_7 : decode cX8_isNumber 7 = .ok (.iconst 0, 1) := by decide +kernel
theorem dX8_isNumber_8 : decode cX8_isNumber 8 = .ok (.putfield 188, 3) := by decide +kernel
theorem dX8_isNumber_11 : decode cX8_isNumber 11 = .ok (.aload_n 0, 1) := by decide +kernel
theorem dX8_isNumber_12 : decode cX8_isNumber 12 = .ok (.invokevirtual 191, 3) := by decide +kernel
theorem dX8_isNumber_15 : decode cX8_isNumber 15 = .ok (.ifCond .eq 51, 3) := by decide +kernel
theorem dX8_isNumber_18 : decode cX8_isNumber 18 = .ok (.aload_n 0, 1) := by decide +kernel
theorem dX8_isNumber_19 : decode cX8_isNumber 19 = .ok (.getfield 185, 3) := by decide +kernel
theorem dX8_isNumber_22 : decode cX8_isNumber 22 = .ok (.iload 5, 2) := by decide +kernel
theorem dX8_isNumber_24 : decode cX8_isNumber 24 = .ok (.isub, 1) := by decide +kernel
theorem dX8_isNumber_25 : decode cX8_isNumber 25 = .ok (.iload_n 1, 1) := by decide +kernel
theorem dX8_isNumber_26 : decode cX8_isNumber 26 = .ok (.if_icmp .ge 40, 3) := by decide +kernel
theorem dX8_isNumber_29 : decode cX8_isNumber 29 = .ok (.aload_n 0, 1) := by decide +kernel
theorem dX8_isNumber_30 : decode cX8_isNumber 30 = .ok (.bipush 10, 2) := by decide +kernel
theorem dX8_isNumber_32 : decode cX8_isNumber 32 = .ok (.aload_n 0, 1) := by decide +kernel
theorem dX8_isNumber_33 : decode cX8_isNumber 33 = .ok (.getfield 188, 3) := by decide +kernel
theorem dX8_isNumber_36 : decode cX8_isNumber 36 = .ok (.imul, 1) := by decide +kernel
theorem dX8_isNumber_37 : decode cX8_isNumber 37 = .ok (.aload_n 0, 1) := by decide +kernel
theorem dX8_isNumber_38 : decode cX8_isNumber 38 = .ok (.getfield 19, 3) := by decide +kernel
theorem dX8_isNumber_41 : decode cX8_isNumber 41 = .ok (.aload_n 0, 1) := by decide +kernel
theorem dX8_isNumber_42 : decode cX8_isNumber 42 = .ok (.getfield 185, 3) := by decide +kernel
theorem dX8_isNumber_45 : decode cX8_isNumber 45 = .ok (.iaload, 1) := by decide +kernel
theorem dX8_isNumber_46 : decode cX8_isNumber 46 = .ok (.iadd, 1) := by decide +kernel
theorem dX8_isNumber_47 : decode cX8_isNumber 47 = .ok (.bipush 48, 2) := by decide +kernel
theorem dX8_isNumber_49 : decode cX8_isNumber 49 = .ok (.isub, 1) := by decide +kernel
theorem dX8_isNumber_50 : decode cX8_isNumber 50 = .ok (.putfield 188, 3) := by decide +kernel
theorem dX8_isNumber_53 : decode cX8_isNumber 53 = .ok (.aload_n 0, 1) := by decide +kernel
theorem dX8_isNumber_54 : decode cX8_isNumber 54 = .ok (.dup, 1) := by decide +kernel
theorem dX8_isNumber_55 : decode cX8_isNumber 55 = .ok (.getfield 185, 3) := by decide +kernel
theorem dX8_isNumber_58 : decode cX8_isNumber 58 = .ok (.iconst 1, 1) := by decide +kernel
theorem dX8_isNumber_59 : decode cX8_isNumber 59 = .ok (.iadd, 1) := by decide +kernel
theorem dX8_isNumber_60 : decode cX8_isNumber 60 = .ok (.putfield 185, 3) := by decide +kernel
theorem dX8_isNumber_63 : decode cX8_isNumber 63 = .ok (.goto (-52), 3) := by decide +kernel
theorem dX8_isNumber_66 : decode cX8_isNumber 66 = .ok (.aload_n 0, 1) := by decide +kernel
theorem dX8_isNumber_67 : decode cX8_isNumber 67 = .ok (.getfield 185, 3) := by decide +kernel
theorem dX8_isNumber_70 : decode cX8_isNumber 70 = .ok (.iload 5, 2) := by decide +kernel
theorem dX8_isNumber_72 : decode cX8_isNumber 72 = .ok (.if_icmp .eq 10, 3) := by decide +kernel
theorem dX8_isNumber_75 : decode cX8_isNumber 75 = .ok (.aload_n 0, 1) := by decide +kernel
theorem dX8_isNumber_76 : decode cX8_isNumber 76 = .ok (.invokevirtual 191, 3) := by decide +kernel
theorem dX8_isNumber_79 : decode cX8_isNumber 79 = .ok (.ifCond .eq 5, 3) := by decide +kernel
theorem dX8_isNumber_82 : decode cX8_isNumber 82 = .ok (.iconst 0, 1) := by decide +kernel
theorem dX8_isNumber_83 : decode cX8_isNumber 83 = .ok (.ireturn, 1) := by decide +kernel
theorem dX8_isNumber_84 : decode cX8_isNumber 84 = .ok (.aload_n 0, 1) := by decide +kernel
theorem dX8_isNumber_85 : decode cX8_isNumber 85 = .ok (.getfield 188, 3) := by decide +kernel
theorem dX8_isNumber_88 : decode cX8_isNumber 88 = .ok (.iload_n 2, 1) := by decide +kernel
theorem dX8_isNumber_89 : decode cX8_isNumber 89 = .ok (.iload_n 3, 1) := by decide +kernel
theorem dX8_isNumber_90 : decode cX8_isNumber 90 = .ok (.invokestatic 83, 3) := by decide +kernel
theorem dX8_isNumber_93 : decode cX8_isNumber 93 = .ok (.ifCond .ne 11, 3) := by decide +kernel
theorem dX8_isNumber_96 : decode cX8_isNumber 96 = .ok (.aload_n 0, 1) := by decide +kernel
theorem dX8_isNumber_97 : decode cX8_isNumber 97 = .ok (.iload 5, 2) := by decide +kernel
theorem dX8_isNumber_99 : decode cX8_isNumber 99 = .ok (.putfield 185, 3) := by decide +kernel
theorem dX8_isNumber_102 : decode cX8_isNumber 102 = .ok (.iconst 0, 1) := by decide +kernel
theorem dX8_isNumber_103 : decode cX8_isNumber 103 = .ok (.ireturn, 1) := by decide +kernel
theorem dX8_isNumber_104 : decode cX8_isNumber 104 = .ok (.aload_n 0, 1) := by decide +kernel
theorem dX8_isNumber_105 : decode cX8_isNumber 105 = .ok (.getfield 185, 3) := by decide +kernel
theorem dX8_isNumber_108 : decode cX8_isNumber 108 = .ok (.aload_n 0, 1) := by decide +kernel
theorem dX8_isNumber_109 : decode cX8_isNumber 109 = .ok (.getfield 182, 3) := by decide +kernel
theorem dX8_isNumber_112 : decode cX8_isNumber 112 = .ok (.if_icmp .eq 17, 3) := by decide +kernel
theorem dX8_isNumber_115 : decode cX8_isNumber 115 = .ok (.aload_n 0, 1) := by decide +kernel
theorem dX8_isNumber_116 : decode cX8_isNumber 116 = .ok (.getfield 19, 3) := by decide +kernel
theorem dX8_isNumber_119 : decode cX8_isNumber 119 = .ok (.aload_n 0, 1) := by decide +kernel
theorem dX8_isNumber_120 : decode cX8_isNumber 120 = .ok (.getfield 185, 3) := by decide +kernel
theorem dX8_isNumber_123 : decode cX8_isNumber 123 = .ok (.iaload, 1) := by decide +kernel
theorem dX8_isNumber_124 : decode cX8_isNumber 124 = .ok (.iload 4, 2) := by decide +kernel
theorem dX8_isNumber_126 : decode cX8_isNumber 126 = .ok (.if_icmp .eq 5, 3) := by decide +kernel
theorem dX8_isNumber_129 : decode cX8_isNumber 129 = .ok (.iconst 0, 1) := by decide +kernel
theorem dX8_isNumber_130 : decode cX8_isNumber 130 = .ok (.ireturn, 1) := by decide +kernel
theorem dX8_isNumber_131 : decode cX8_isNumber 131 = .ok (.aload_n 0, 1) := by decide +kernel
theorem dX8_isNumber_132 : decode cX8_isNumber 132 = .ok (.dup, 1) := by decide +kernel
theorem dX8_isNumber_133 : decode cX8_isNumber 133 = .ok (.getfield 185, 3) := by decide +kernel
theorem dX8_isNumber_136 : decode cX8_isNumber 136 = .ok (.iconst 1, 1) := by decide +kernel
theorem dX8_isNumber_137 : decode cX8_isNumber 137 = .ok (.iadd, 1) := by decide +kernel
theorem dX8_isNumber_138 : decode cX8_isNumber 138 = .ok (.putfield 185, 3) := by decide +kernel
theorem dX8_isNumber_141 : decode cX8_isNumber 141 = .ok (.iconst 1, 1) := by decide +kernel
theorem dX8_isNumber_142 : decode cX8_isNumber 142 = .ok (.ireturn, 1) := by decide +kernel
theorem dX8_isNodeText_0 : decode cX8_isNodeText 0 = .ok (.aload_n 0, 1) := by decide +kernel
theorem dX8_isNodeText_1 : decode cX8_isNodeText 1 = .ok (.getfield 7, 3) := by decide +kernel
theorem dX8_isNodeText_4 : decode cX8_isNodeText 4 = .ok (.iconst 5, 1) := by decide +kernel
theorem dX8_isNodeText_5 : decode cX8_isNodeText 5 = .ok (.iaload, 1) := by decide +kernel
theorem dX8_isNodeText_6 : decode cX8_isNodeText 6 = .ok (.istore_n 1, 1) := by decide +kernel
theorem dX8_isNodeText_7 : decode cX8_isNodeText 7 = .ok (.iload_n 1, 1) := by decide +kernel
theorem dX8_isNodeText_8 : decode cX8_isNodeText 8 = .ok (.bipush 16, 2) := by decide +kernel
theorem dX8_isNodeText_10 : decode cX8_isNodeText 10 = .ok (.if_icmp .eq 17, 3) := by decide +kernel
theorem dX8_isNodeText_13 : decode cX8_isNodeText 13 = .ok (.aload_n 0, 1) := by decide +kernel
theorem dX8_isNodeText_14 : decode cX8_isNodeText 14 = .ok (.iconst 2, 1) := by decide +kernel
theorem dX8_isNodeText_15 : decode cX8_isNodeText 15 = .ok (.iconst 0, 1) := by decide +kernel
theorem dX8_isNodeText_16 : decode cX8_isNodeText 16 = .ok (.iload_n 1, 1) := by decide +kernel
theorem dX8_isNodeText_17 : decode cX8_isNodeText 17 = .ok (.iconst 1, 1) := by decide +kernel
theorem dX8_isNodeText_18 : decode cX8_isNodeText 18 = .ok (.isub, 1) := by decide +kernel
theorem dX8_isNodeText_19 : decode cX8_isNodeText 19 = .ok (.bipush 44, 2) := by decide +kernel
theorem dX8_isNodeText_21 : decode cX8_isNodeText 21 = .ok (.invokevirtual 194, 3) := by decide +kernel
theorem dX8_isNodeText_24 : decode cX8_isNodeText 24 = .ok (.ifCond .ne 5, 3) := by decide +kernel
theorem dX8_isNodeText_27 : decode cX8_isNodeText 27 = .ok (.iconst 0, 1) := by decide +kernel
theorem dX8_isNodeText_28 : decode cX8_isNodeText 28 = .ok (.ireturn, 1) := by decide +kernel
theorem dX8_isNodeText_29 : decode cX8_isNodeText 29 = .ok (.aload_n 0, 1) := by decide +kernel
theorem dX8_isNodeText_30 : decode cX8_isNodeText 30 = .ok (.getfield 188, 3) := by decide +kernel
theorem dX8_isNodeText_33 : decode cX8_isNodeText 33 = .ok (.istore_n 2, 1) := by decide +kernel
theorem dX8_isNodeText_34 : decode cX8_isNodeText 34 = .ok (.aload_n 0, 1) := by decide +kernel
theorem dX8_isNodeText_35 : decode cX8_isNodeText 35 = .ok (.iconst 3, 1) := by decide +kernel
theorem dX8_isNodeText_36 : decode cX8_isNodeText 36 = .ok (.iconst 1, 1) := by decide +kernel
theorem dX8_isNodeText_37 : decode cX8_isNodeText 37 = .ok (.sipush 500, 3) := by decide +kernel
theorem dX8_isNodeText_40 : decode cX8_isNodeText 40 = .ok (.bipush 44, 2) := by decide +kernel
theorem dX8_isNodeText_42 : decode cX8_isNodeText 42 = .ok (.invokevirtual 194, 3) := by decide +kernel
theorem dX8_isNodeText_45 : decode cX8_isNodeText 45 = .ok (.ifCond .ne 5, 3) := by decide +kernel
theorem dX8_isNodeText_48 : decode cX8_isNodeText 48 = .ok (.iconst 0, 1) := by decide +kernel
theorem dX8_isNodeText_49 : decode cX8_isNodeText 49 = .ok (.ireturn, 1) := by decide +kernel
theorem dX8_isNodeText_50 : decode cX8_isNodeText 50 = .ok (.aload_n 0, 1) := by decide +kernel
theorem dX8_isNodeText_51 : decode cX8_isNodeText 51 = .ok (.getfield 188, 3) := by decide +kernel
theorem dX8_isNodeText_54 : decode cX8_isNodeText 54 = .ok (.istore_n 3, 1) := by decide +kernel
theorem dX8_isNodeText_55 : decode cX8_isNodeText 55 = .ok (.aload_n 0, 1) := by decide +kernel
theorem dX8_isNodeText_56 : decode cX8_isNodeText 56 = .ok (.iconst 2, 1) := by decide +kernel
theorem dX8_isNodeText_57 : decode cX8_isNodeText 57 = .ok (.iconst 0, 1) := by decide +kernel
theorem dX8_isNodeText_58 : decode cX8_isNodeText 58 = .ok (.bipush 50, 2) := by decide +kernel
theorem dX8_isNodeText_60 : decode cX8_isNodeText 60 = .ok (.bipush 44, 2) := by decide +kernel
theorem dX8_isNodeText_62 : decode cX8_isNodeText 62 = .ok (.invokevirtual 194, 3) := by decide +kernel
theorem dX8_isNodeText_65 : decode cX8_isNodeText 65 = .ok (.ifCond .ne 5, 3) := by decide +kernel
theorem dX8_isNodeText_68 : decode cX8_isNodeText 68 = .ok (.iconst 0, 1) := by decide +kernel
theorem dX8_isNodeText_69 : decode cX8_isNodeText 69 = .ok (.ireturn, 1) := by decide +kernel
theorem dX8_isNodeText_70 : decode cX8_isNodeText 70 = .ok (.aload_n 0, 1) := by decide +kernel
theorem dX8_isNodeText_71 : decode cX8_isNodeText 71 = .ok (.getfield 188, 3) := by decide +kernel
theorem dX8_isNodeText_74 : decode cX8_isNodeText 74 = .ok (.istore 4, 2) := by decide +kernel
theorem dX8_isNodeText_76 : decode cX8_isNodeText 76 = .ok (.aload_n 0, 1) := by decide +kernel
theorem dX8_isNodeText_77 : decode cX8_isNodeText 77 = .ok (.iconst 3, 1) := by decide +kernel
theorem dX8_isNodeText_78 : decode cX8_isNodeText 78 = .ok (.iconst 0, 1) := by decide +kernel
theorem dX8_isNodeText_79 : decode cX8_isNodeText 79 = .ok (.sipush 500, 3) := by decide +kernel
theorem dX8_isNodeText_82 : decode cX8_isNodeText 82 = .ok (.bipush 44, 2) := by decide +kernel
