theorem dX6_init_45 : decode cX6_init 45 = .ok (.aload_n 0, 1) := by decide +kernel
theorem dX6_init_46 : decode cX6_init 46 = .ok (.sipush 400, 3) := by decide +kernel
theorem dX6_init_49 : decode cX6_init 49 = .ok (.putfield 33, 3) := by decide +kernel
theorem dX6_init_52 : decode cX6_init 52 = .ok (.aload_n 0, 1) := by decide +kernel
theorem dX6_init_53 : decode cX6_init 53 = .ok (.bipush 10, 2) := by decide +kernel
theorem dX6_init_55 : decode cX6_init 55 = .ok (.putfield 36, 3) := by decide +kernel
theorem dX6_init_58 : decode cX6_init 58 = .ok (.aload_n 0, 1) := by decide +kernel
theorem dX6_init_59 : decode cX6_init 59 = .ok (.iconst 0, 1) := by decide +kernel
theorem dX6_init_60 : decode cX6_init 60 = .ok (.putfield 39, 3) := by decide +kernel
theorem dX6_init_63 : decode cX6_init 63 = .ok (.aload_n 0, 1) := by decide +kernel
theorem dX6_init_64 : decode cX6_init 64 = .ok (.iconst 0, 1) := by decide +kernel
theorem dX6_init_65 : decode cX6_init 65 = .ok (.putfield 42, 3) := by decide +kernel
theorem dX6_init_68 : decode cX6_init 68 = .ok (.return_, 1) := by decide +kernel
theorem dX6_copyFrom_0 : decode cX6_copyFrom 0 = .ok (.aload_n 0, 1) := by decide +kernel
theorem dX6_copyFrom_1 : decode cX6_copyFrom 1 = .ok (.getfield 10, 3) := by decide +kernel
theorem dX6_copyFrom_4 : decode cX6_copyFrom 4 = .ok (.aload_n 1, 1) := by decide +kernel
theorem dX6_copyFrom_5 : decode cX6_copyFrom 5 = .ok (.getfield 10, 3) := by decide +kernel
theorem dX6_copyFrom_8 : decode cX6_copyFrom 8 = .ok (.invokevirtual 45, 3) := by decide +kernel
theorem dX6_copyFrom_11 : decode cX6_copyFrom 11 = .ok (.aload_n 0, 1) := by decide +kernel
theorem dX6_copyFrom_12 : decode cX6_copyFrom 12 = .ok (.getfield 19, 3) := by decide +kernel
theorem dX6_copyFrom_15 : decode cX6_copyFrom 15 = .ok (.aload_n 1, 1) := by decide +kernel
theorem dX6_copyFrom_16 : decode cX6_copyFrom 16 = .ok (.getfield 19, 3) := by decide +kernel
theorem dX6_copyFrom_19 : decode cX6_copyFrom 19 = .ok (.invokevirtual 49, 3) := by decide +kernel
theorem dX6_copyFrom_22 : decode cX6_copyFrom 22 = .ok (.aload_n 0, 1) := by decide +kernel
theorem dX6_copyFrom_23 : decode cX6_copyFrom 23 = .ok (.aload_n 1, 1) := by decide +kernel
theorem dX6_copyFrom_24 : decode cX6_copyFrom 24 = .ok (.getfield 23, 3) := by decide +kernel
theorem dX6_copyFrom_27 : decode cX6_copyFrom 27 = .ok (.putfield 23, 3) := by decide +kernel
theorem dX6_copyFrom_30 : decode cX6_copyFrom 30 = .ok (.aload_n 0, 1) := by decide +kernel
theorem dX6_copyFrom_31 : decode cX6_copyFrom 31 = .ok (.aload_n 1, 1) := by decide +kernel
theorem dX6_copyFrom_32 : decode cX6_copyFrom 32 = .ok (.getfield 27, 3) := by decide +kernel
theorem dX6_copyFrom_35 : decode cX6_copyFrom 35 = .ok (.putfield 27, 3) := by decide +kernel
theorem dX6_copyFrom_38 : decode cX6_copyFrom 38 = .ok (.aload_n 0, 1) := by decide +kernel
theorem dX6_copyFrom_39 : decode cX6_copyFrom 39 = .ok (.aload_n 1, 1) := by decide +kernel
theorem dX6_copyFrom_40 : decode cX6_copyFrom 40 = .ok (.getfield 30, 3) := by decide +kernel
theorem dX6_copyFrom_43 : decode cX6_copyFrom 43 = .ok (.putfield 30, 3) := by decide +kernel
theorem dX6_copyFrom_46 : decode cX6_copyFrom 46 = .ok (.aload_n 0, 1) := by decide +kernel
theorem dX6_copyFrom_47 : decode cX6_copyFrom 47 = .ok (.aload_n 1, 1) := by decide +kernel
theorem dX6_copyFrom_48 : decode cX6_copyFrom 48 = .ok (.getfield 33, 3) := by decide +kernel
theorem dX6_copyFrom_51 : decode cX6_copyFrom 51 = .ok (.putfield 33, 3) := by decide +kernel
theorem dX6_copyFrom_54 : decode cX6_copyFrom 54 = .ok (.aload_n 0, 1) := by decide +kernel
theorem dX6_copyFrom_55 : decode cX6_copyFrom 55 = .ok (.aload_n 1, 1) := by decide +kernel
theorem dX6_copyFrom_56 : decode cX6_copyFrom 56 = .ok (.getfield 36, 3) := by decide +kernel
theorem dX6_copyFrom_59 : decode cX6_copyFrom 59 = .ok (.putfield 36, 3) := by decide +kernel
theorem dX6_copyFrom_62 : decode cX6_copyFrom 62 = .ok (.aload_n 0, 1) := by decide +kernel
theorem dX6_copyFrom_63 : decode cX6_copyFrom 63 = .ok (.aload_n 1, 1) := by decide +kernel
theorem dX6_copyFrom_64 : decode cX6_copyFrom 64 = .ok (.getfield 39, 3) := by decide +kernel
theorem dX6_copyFrom_67 : decode cX6_copyFrom 67 = .ok (.putfield 39, 3) := by decide +kernel
theorem dX6_copyFrom_70 : decode cX6_copyFrom 70 = .ok (.aload_n 0, 1) := by decide +kernel
theorem dX6_copyFrom_71 : decode cX6_copyFrom 71 = .ok (.aload_n 1, 1) := by decide +kernel
theorem dX6_copyFrom_72 : decode cX6_copyFrom 72 = .ok (.getfield 42, 3) := by decide +kernel
theorem dX6_copyFrom_75 : decode cX6_copyFrom 75 = .ok (.putfield 42, 3) := by decide +kernel
theorem dX6_copyFrom_78 : decode cX6_copyFrom 78 = .ok (.return_, 1) := by decide +kernel
theorem dX7_init_0 : decode cX7_init 0 = .ok (.aload_n 0, 1) := by decide +kernel
theorem dX7_init_1 : decode cX7_init 1 = .ok (.invokespecial 1, 3) := by decide +kernel
theorem dX7_init_4 : decode cX7_init 4 = .ok (.aload_n 0, 1) := by decide +kernel
theorem dX7_init_5 : decode cX7_init 5 = .ok (.new 7, 3) := by decide +kernel
theorem dX7_init_8 : decode cX7_init 8 = .ok (.dup, 1) := by decide +kernel
theorem dX7_init_9 : decode cX7_init 9 = .ok (.invokespecial 9, 3) := by decide +kernel
theorem dX7_init_12 : decode cX7_init 12 = .ok (.putfield 10, 3) := by decide +kernel
theorem dX7_init_15 : decode cX7_init 15 = .ok (.aload_n 0, 1) := by decide +kernel
theorem dX7_init_16 : decode cX7_init 16 = .ok (.new 16, 3) := by decide +kernel
theorem dX7_init_19 : decode cX7_init 19 = .ok (.dup, 1) := by decide +kernel
theorem dX7_init_20 : decode cX7_init 20 = .ok (.invokespecial 18, 3) := by decide +kernel
theorem dX7_init_23 : decode cX7_init 23 = .ok (.putfield 19, 3) := by decide +kernel
theorem dX7_init_26 : decode cX7_init 26 = .ok (.aload_n 0, 1) := by decide +kernel
theorem dX7_init_27 : decode cX7_init 27 = .ok (.new 23, 3) := by decide +kernel
theorem dX7_init_30 : decode cX7_init 30 = .ok (.dup, 1) := by decide +kernel
theorem dX7_init_31 : decode cX7_init 31 = .ok (.invokespecial 25, 3) := by decide +kernel
theorem dX7_init_34 : decode cX7_init 34 = .ok (.putfield 26, 3) := by decide +kernel
theorem dX7_init_37 : decode cX7_init 37 = .ok (.aload_n 0, 1) := by decide +kernel
theorem dX7_init_38 : decode cX7_init 38 = .ok (.new 30, 3) := by decide +kernel
theorem dX7_init_41 : decode cX7_init 41 = .ok (.dup, 1) := by decide +kernel
theorem dX7_init_42 : decode cX7_init 42 = .ok (.invokespecial 32, 3) := by decide +kernel
theorem dX7_init_45 : decode cX7_init 45 = .ok (.putfield 33, 3) := by decide +kernel
theorem dX7_init_48 : decode cX7_init 48 = .ok (.aload_n 0, 1) := by decide +kernel
theorem dX7_init_49 : decode cX7_init 49 = .ok (.new 37, 3) := by decide +kernel
theorem dX7_init_52 : decode cX7_init 52 = .ok (.dup, 1) := by decide +kernel
theorem dX7_init_53 : decode cX7_init 53 = .ok (.invokespecial 39, 3) := by decide +kernel
theorem dX7_init_56 : decode cX7_init 56 = .ok (.putfield 40, 3) := by decide +kernel
theorem dX7_init_59 : decode cX7_init 59 = .ok (.aload_n 0, 1) := by decide +kernel
theorem dX7_init_60 : decode cX7_init 60 = .ok (.new 30, 3) := by decide +kernel
theorem dX7_init_63 : decode cX7_init 63 = .ok (.dup, 1) := by decide +kernel
theorem dX7_init_64 : decode cX7_init 64 = .ok (.invokespecial 32, 3) := by decide +kernel
theorem dX7_init_67 : decode cX7_init 67 = .ok (.putfield 44, 3) := by decide +kernel
theorem dX7_init_70 : decode cX7_init 70 = .ok (.aload_n 0, 1) := by decide +kernel
theorem dX7_init_71 : decode cX7_init 71 = .ok (.new 37, 3) := by decide +kernel
theorem dX7_init_74 : decode cX7_init 74 = .ok (.dup, 1) := by decide +kernel
theorem dX7_init_75 : decode cX7_init 75 = .ok (.invokespecial 39, 3) := by decide +kernel
theorem dX7_init_78 : decode cX7_init 78 = .ok (.putfield 47, 3) := by decide +kernel
theorem dX7_init_81 : decode cX7_init 81 = .ok (.aload_n 0, 1) := by decide +kernel
theorem dX7_init_82 : decode cX7_init 82 = .ok (.new 50, 3) := by decide +kernel
theorem dX7_init_85 : decode cX7_init 85 = .ok (.dup, 1) := by decide +kernel
theorem dX7_init_86 : decode cX7_init 86 = .ok (.invokespecial 52, 3) := by decide +kernel
theorem dX7_init_89 : decode cX7_init 89 = .ok (.putfield 53, 3) := by decide +kernel
theorem dX7_init_92 : decode cX7_init 92 = .ok (.aload_n 0, 1) := by decide +kernel
theorem dX7_init_93 : decode cX7_init 93 = .ok (.bipush 16, 2) := by decide +kernel
theorem dX7_init_95 : decode cX7_init 95 = .ok (.newarray .int, 2) := by decide +kernel
theorem dX7_init_97 : decode cX7_init 97 = .ok (.putfield 57, 3) := by decide +kernel
theorem dX7_init_100 : decode cX7_init 100 = .ok (.aload_n 0, 1) := by decide +kernel
theorem dX7_init_101 : decode cX7_init 101 = .ok (.invokevirtual 61, 3) := by decide +kernel
theorem dX7_init_104 : decode cX7_init 104 = .ok (.return_, 1) := by decide +kernel
theorem dX7_addNode_0 : decode cX7_addNode 0 = .ok (.aload_n 0, 1) := by decide +kernel
theorem dX7_addNode_1 : decode cX7_addNode 1 = .ok (.iload_n 1, 1) := by decide +kernel
theorem dX7_addNode_2 : decode cX7_addNode 2 = .ok (.invokevirtual 64, 3) := by decide +kernel
theorem dX7_addNode_5 : decode cX7_addNode 5 = .ok (.iload_n 2, 1) := by decide +kernel
theorem dX7_addNode_6 : decode cX7_addNode 6 = .ok (.iconst 1, 1) := by decide +kernel
theorem dX7_addNode_7 : decode cX7_addNode 7 = .ok (.sipush 500, 3) := by decide +kernel
theorem dX7_addNode_10 : decode cX7_addNode 10 = .ok (.invokestatic 68, 3) := by decide +kernel
theorem dX7_addNode_13 : decode cX7_addNode 13 = .ok (.iload_n 3, 1) := by decide +kernel
theorem dX7_addNode_14 : decode cX7_addNode 14 = .ok (.iconst 0, 1) := by decide +kernel
theorem dX7_addNode_15 : decode cX7_addNode 15 = .ok (.bipush 50, 2) := by decide +kernel
theorem dX7_addNode_17 : decode cX7_addNode 17 = .ok (.invokestatic 68, 3) := by decide +kernel
theorem dX7_addNode_20 : decode cX7_addNode 20 = .ok (.iload 4, 2) := by decide +kernel
theorem dX7_addNode_22 : decode cX7_addNode 22 = .ok (.iconst 0, 1) := by decide +kernel
theorem dX7_addNode_23 : decode cX7_addNode 23 = .ok (.sipush 500, 3) := by decide +kernel
theorem dX7_addNode_26 : decode cX7_addNode 26 = .ok (.invokestatic 68, 3) := by decide +kernel
theorem dX7_addNode_29 : decode cX7_addNode 29 = .ok (.iload 5, 2) := by decide +kernel
theorem dX7_addNode_31 : decode cX7_addNode 31 = .ok (.iconst 0, 1) := by decide +kernel
theorem dX7_addNode_32 : decode cX7_addNode 32 = .ok (.sipush 1200, 3) := by decide +kernel
theorem dX7_addNode_35 : decode cX7_addNode 35 = .ok (.invokestatic 68, 3) := by decide +kernel
theorem dX7_addNode_38 : decode cX7_addNode 38 = .ok (.aload_n 0, 1) := by decide +kernel
theorem dX7_addNode_39 : decode cX7_addNode 39 = .ok (.getfield 10, 3) := by decide +kernel
theorem dX7_addNode_42 : decode cX7_addNode 42 = .ok (.getfield 72, 3) := by decide +kernel
theorem dX7_addNode_45 : decode cX7_addNode 45 = .ok (.getfield 75, 3) := by decide +kernel
theorem dX7_addNode_48 : decode cX7_addNode 48 = .ok (.bipush 16, 2) := by decide +kernel
theorem dX7_addNode_50 : decode cX7_addNode 50 = .ok (.if_icmp .lt 13, 3) := by decide +kernel
theorem dX7_addNode_53 : decode cX7_addNode 53 = .ok (.new 79, 3) := by decide +kernel
theorem dX7_addNode_56 : decode cX7_addNode 56 = .ok (.dup, 1) := by decide +kernel
theorem dX7_addNode_57 : decode cX7_addNode 57 = .ok (.ldc 81, 2) := by decide +kernel
theorem dX7_addNode_59 : decode cX7_addNode 59 = .ok (.invokespecial 83, 3) := by decide +kernel
theorem dX7_addNode_62 : decode cX7_addNode 62 = .ok (.athrow, 1) := by decide +kernel
theorem dX7_addNode_63 : decode cX7_addNode 63 = .ok (.aload_n 0, 1) := by decide +kernel
theorem dX7_addNode_64 : decode cX7_addNode 64 = .ok (.getfield 19, 3) := by decide +kernel
theorem dX7_addNode_67 : decode cX7_addNode 67 = .ok (.aload_n 0, 1) := by decide +kernel
theorem dX7_addNode_68 : decode cX7_addNode 68 = .ok (.getfield 10, 3) := by decide +kernel
theorem dX7_addNode_71 : decode cX7_addNode 71 = .ok (.invokevirtual 86, 3) := by decide +kernel
theorem dX7_addNode_74 : decode cX7_addNode 74 = .ok (.aload_n 0, 1) := by decide +kernel
theorem dX7_addNode_75 : decode cX7_addNode 75 = .ok (.getfield 10, 3) := by decide +kernel
theorem dX7_addNode_78 : decode cX7_addNode 78 = .ok (.getfield 72, 3) := by decide +kernel
theorem dX7_addNode_81 : decode cX7_addNode 81 = .ok (.iload_n 1, 1) := by decide +kernel
theorem dX7_addNode_82 : decode cX7_addNode 82 = .ok (.iload_n 2, 1) := by decide +kernel
theorem dX7_addNode_83 : decode cX7_addNode 83 = .ok (.iload_n 3, 1) := by decide +kernel
theorem dX7_addNode_84 : decode cX7_addNode 84 = .ok (.iload 4, 2) := by decide +kernel
theorem dX7_addNode_86 : decode cX7_addNode 86 = .ok (.iload 5, 2) := by decide +kernel
theorem dX7_addNode_88 : decode cX7_addNode 88 = .ok (.invokevirtual 90, 3) := by decide +kernel
theorem dX7_addNode_91 : decode cX7_addNode 91 = .ok (.istore 6, 2) := by decide +kernel
theorem dX7_addNode_93 : decode cX7_addNode 93 = .ok (.aload_n 0, 1) := by decide +kernel
theorem dX7_addNode_94 : decode cX7_addNode 94 = .ok (.invokevirtual 61, 3) := by decide +kernel
theorem dX7_addNode_97 : decode cX7_addNode 97 = .ok (.iload 6, 2) := by decide +kernel
theorem dX7_addNode_99 : decode cX7_addNode 99 = .ok (.ireturn, 1) := by decide +kernel
theorem dX7_setDraw_0 : decode cX7_setDraw 0 = .ok (.aload_n 0, 1) := by decide +kernel
theorem dX7_setDraw_1 : decode cX7_setDraw 1 = .ok (.iload_n 1, 1) := by decide +kernel
theorem dX7_setDraw_2 : decode cX7_setDraw 2 = .ok (.invokevirtual 94, 3) := by decide +kernel
theorem dX7_setDraw_5 : decode cX7_setDraw 5 = .ok (.iload_n 2, 1) := by decide +kernel
theorem dX7_setDraw_6 : decode cX7_setDraw 6 = .ok (.iconst 0, 1) := by decide +kernel
theorem dX7_setDraw_7 : decode cX7_setDraw 7 = .ok (.sipush 500, 3) := by decide +kernel
theorem dX7_setDraw_10 : decode cX7_setDraw 10 = .ok (.invokestatic 68, 3) := by decide +kernel
theorem dX7_setDraw_13 : decode cX7_setDraw 13 = .ok (.iload_n 3, 1) := by decide +kernel
theorem dX7_setDraw_14 : decode cX7_setDraw 14 = .ok (.iconst 0, 1) := by decide +kernel
theorem dX7_setDraw_15 : decode cX7_setDraw 15 = .ok (.sipush 1200, 3) := by decide +kernel
theorem dX7_setDraw_18 : decode cX7_setDraw 18 = .ok (.invokestatic 68, 3) := by decide +kernel
theorem dX7_setDraw_21 : decode cX7_setDraw 21 = .ok (.aload_n 0, 1) := by decide +kernel
theorem dX7_setDraw_22 : decode cX7_setDraw 22 = .ok (.getfield 19, 3) := by decide +kernel
theorem dX7_setDraw_25 : decode cX7_setDraw 25 = .ok (.aload_n 0, 1) := by decide +kernel
theorem dX7_setDraw_26 : decode cX7_setDraw 26 = .ok (.getfield 10, 3) := by decide +kernel
theorem dX7_setDraw_29 : decode cX7_setDraw 29 = .ok (.invokevirtual 86, 3) := by decide +kernel
theorem dX7_setDraw_32 : decode cX7_setDraw 32 = .ok (.aload_n 0, 1) := by decide +kernel
theorem dX7_setDraw_33 : decode cX7_setDraw 33 = .ok (.getfield 10, 3) := by decide +kernel
theorem dX7_setDraw_36 : decode cX7_setDraw 36 = .ok (.getfield 72, 3) := by decide +kernel
theorem dX7_setDraw_39 : decode cX7_setDraw 39 = .ok (.getfield 97, 3) := by decide +kernel
theorem dX7_setDraw_42 : decode cX7_setDraw 42 = .ok (.iload_n 1, 1) := by decide +kernel
theorem dX7_setDraw_43 : decode cX7_setDraw 43 = .ok (.iaload, 1) := by decide +kernel
theorem dX7_setDraw_44 : decode cX7_setDraw 44 = .ok (.istore 4, 2) := by decide +kernel
theorem dX7_setDraw_46 : decode cX7_setDraw 46 = .ok (.aload_n 0, 1) := by decide +kernel
theorem dX7_setDraw_47 : decode cX7_setDraw 47 = .ok (.getfield 10, 3) := by decide +kernel
theorem dX7_setDraw_50 : decode cX7_setDraw 50 = .ok (.getfield 72, 3) := by decide +kernel
theorem dX7_setDraw_53 : decode cX7_setDraw 53 = .ok (.getfield 97, 3) := by decide +kernel
theorem dX7_setDraw_56 : decode cX7_setDraw 56 = .ok (.iload_n 1, 1) := by decide +kernel
theorem dX7_setDraw_57 : decode cX7_setDraw 57 = .ok (.iload_n 2, 1) := by decide +kernel
theorem dX7_setDraw_58 : decode cX7_setDraw 58 = .ok (.iastore, 1) := by decide +kernel
theorem dX7_setDraw_59 : decode cX7_setDraw 59 = .ok (.aload_n 0, 1) := by decide +kernel
theorem dX7_setDraw_60 : decode cX7_setDraw 60 = .ok (.getfield 10, 3) := by decide +kernel
theorem dX7_setDraw_63 : decode cX7_setDraw 63 = .ok (.getfield 72, 3) := by decide +kernel
theorem dX7_setDraw_66 : decode cX7_setDraw 66 = .ok (.getfield 100, 3) := by decide +kernel
theorem dX7_setDraw_69 : decode cX7_setDraw 69 = .ok (.iload_n 1, 1) := by decide +kernel
theorem dX7_setDraw_70 : decode cX7_setDraw 70 = .ok (.iload_n 3, 1) := by decide +kernel
theorem dX7_setDraw_71 : decode cX7_setDraw 71 = .ok (.iastore, 1) := by decide +kernel
theorem dX7_setDraw_72 : decode cX7_setDraw 72 = .ok (.aload_n 0, 1) := by decide +kernel
theorem dX7_setDraw_73 : decode cX7_setDraw 73 = .ok (.invokevirtual 61, 3) := by decide +kernel
theorem dX7_setDraw_76 : decode cX7_setDraw 76 = .ok (.iload 4, 2) := by decide +kernel
theorem dX7_setDraw_78 : decode cX7_setDraw 78 = .ok (.ireturn, 1) := by decide +kernel
theorem dX7_setLeak_0 : decode cX7_setLeak 0 = .ok (.aload_n 0, 1) := by decide +kernel
theorem dX7_setLeak_1 : decode cX7_setLeak 1 = .ok (.iload_n 1, 1) := by decide +kernel
theorem dX7_setLeak_2 : decode cX7_setLeak 2 = .ok (.invokevirtual 94, 3) := by decide +kernel
theorem dX7_setLeak_5 : decode cX7_setLeak 5 = .ok (.iload_n 2, 1) := by decide +kernel
theorem dX7_setLeak_6 : decode cX7_setLeak 6 = .ok (.iconst 0, 1) := by decide +kernel
theorem dX7_setLeak_7 : decode cX7_setLeak 7 = .ok (.bipush 100, 2) := by decide +kernel
theorem dX7_setLeak_9 : decode cX7_setLeak 9 = .ok (.invokestatic 68, 3) := by decide +kernel
theorem dX7_setLeak_12 : decode cX7_setLeak 12 = .ok (.aload_n 0, 1) := by decide +kernel
theorem dX7_setLeak_13 : decode cX7_setLeak 13 = .ok (.getfield 19, 3) := by decide +kernel
theorem dX7_setLeak_16 : decode cX7_setLeak 16 = .ok (.aload_n 0, 1) := by decide +kernel
theorem dX7_setLeak_17 : decode cX7_setLeak 17 = .ok (.getfield 10, 3) := by decide +kernel
theorem dX7_setLeak_20 : decode cX7_setLeak 20 = .ok (.invokevirtual 86, 3) := by decide +kernel
theorem dX7_setLeak_23 : decode cX7_setLeak 23 = .ok (.aload_n 0, 1) := by decide +kernel
theorem dX7_setLeak_24 : decode cX7_setLeak 24 = .ok (.getfield 10, 3) := by decide +kernel
theorem dX7_setLeak_27 : decode cX7_setLeak 27 = .ok (.getfield 72, 3) := by decide +kernel
theorem dX7_setLeak_30 : decode cX7_setLeak 30 = .ok (.getfield 103, 3) := by decide +kernel
theorem dX7_setLeak_33 : decode cX7_setLeak 33 = .ok (.iload_n 1, 1) := by decide +kernel
theorem dX7_setLeak_34 : decode cX7_setLeak 34 = .ok (.iaload, 1) := by decide +kernel
theorem dX7_setLeak_35 : decode cX7_setLeak 35 = .ok (.istore_n 3, 1) := by decide +kernel
theorem dX7_setLeak_36 : decode cX7_setLeak 36 = .ok (.aload_n 0, 1) := by decide +kernel
theorem dX7_setLeak_37 : decode cX7_setLeak 37 = .ok (.getfield 10, 3) := by decide +kernel
theorem dX7_setLeak_40 : decode cX7_setLeak 40 = .ok (.getfield 72, 3) := by decide +kernel
theorem dX7_setLeak_43 : decode cX7_setLeak 43 = .ok (.getfield 103, 3) := by decide +kernel
theorem dX7_setLeak_46 : decode cX7_setLeak 46 = .ok (.iload_n 1, 1) := by decide +kernel
theorem dX7_setLeak_47 : decode cX7_setLeak 47 = .ok (.iload_n 2, 1) := by decide +kernel
theorem dX7_setLeak_48 : decode cX7_setLeak 48 = .ok (.iastore, 1) := by decide +kernel
theorem dX7_setLeak_49 : decode cX7_setLeak 49 = .ok (.aload_n 0, 1) := by decide +kernel
theorem dX7_setLeak_50 : decode cX7_setLeak 50 = .ok (.invokevirtual 61, 3) := by decide +kernel
theorem dX7_setLeak_53 : decode cX7_setLeak 53 = .ok (.iload_n 3, 1) := by decide +kernel
theorem dX7_setLeak_54 : decode cX7_setLeak 54 = .ok (.ireturn, 1) := by decide +kernel
theorem dX7_setTemperatures_0 : decode cX7_setTemperatures 0 = .ok (.iload_n 1, 1) := by decide +kernel
theorem dX7_setTemperatures_1 : decode cX7_setTemperatures 1 = .ok (.sipush 400, 3) := by decide +kernel
theorem dX7_setTemperatures_4 : decode cX7_setTemperatures 4 = .ok (.sipush 1200, 3) := by decide +kernel
theorem dX7_setTemperatures_7 : decode cX7_setTemperatures 7 = .ok (.invokestatic 68, 3) := by decide +kernel
theorem dX7_setTemperatures_10 : decode cX7_setTemperatures 10 = .ok (.iload_n 2, 1) := by decide +kernel
theorem dX7_setTemperatures_11 : decode cX7_setTemperatures 11 = .ok (.sipush (-200), 3) := by decide +kernel
theorem dX7_setTemperatures_14 : decode cX7_setTemperatures 14 = .ok (.sipush 300, 3) := by decide +kernel
theorem dX7_setTemperatures_17 : decode cX7_setTemperatures 17 = .ok (.invokestatic 68, 3) := by decide +kernel
theorem dX7_setTemperatures_20 : decode cX7_setTemperatures 20 = .ok (.aload_n 0, 1) := by decide +kernel
theorem dX7_setTemperatures_21 : decode cX7_setTemperatures 21 = .ok (.getfield 19, 3) := by decide +kernel
theorem dX7_setTemperatures_24 : decode cX7_setTemperatures 24 = .ok (.aload_n 0, 1) := by decide +kernel
theorem dX7_setTemperatures_25 : decode cX7_setTemperatures 25 = .ok (.getfield 10, 3) := by decide +kernel
theorem dX7_setTemperatures_28 : decode cX7_setTemperatures 28 = .ok (.invokevirtual 86, 3) := by decide +kernel
theorem dX7_setTemperatures_31 : decode cX7_setTemperatures 31 = .ok (.aload_n 0, 1) := by decide +kernel
theorem dX7_setTemperatures_32 : decode cX7_setTemperatures 32 = .ok (.getfield 10, 3) := by decide +kernel
theorem dX7_setTemperatures_35 : decode cX7_setTemperatures 35 = .ok (.getfield 106, 3) := by decide +kernel
theorem dX7_setTemperatures_38 : decode cX7_setTemperatures 38 = .ok (.istore_n 3, 1) := by decide +kernel
theorem dX7_setTemperatures_39 : decode cX7_setTemperatures 39 = .ok (.aload_n 0, 1) := by decide +kernel
theorem dX7_setTemperatures_40 : decode cX7_setTemperatures 40 = .ok (.getfield 10, 3) := by decide +kernel
theorem dX7_setTemperatures_43 : decode cX7_setTemperatures 43 = .ok (.iload_n 1, 1) := by decide +kernel
theorem dX7_setTemperatures_44 : decode cX7_setTemperatures 44 = .ok (.putfield 106, 3) := by decide +kernel
theorem dX7_setTemperatures_47 : decode cX7_setTemperatures 47 = .ok (.aload_n 0, 1) := by decide +kernel
theorem dX7_setTemperatures_48 : decode cX7_setTemperatures 48 = .ok (.getfield 10, 3) := by decide +kernel
theorem dX7_setTemperatures_51 : decode cX7_setTemperatures 51 = .ok (.iload_n 2, 1) := by decide +kernel
theorem dX7_setTemperatures_52 : decode cX7_setTemperatures 52 = .ok (.putfield 109, 3) := by decide +kernel
theorem dX7_setTemperatures_55 : decode cX7_setTemperatures 55 = .ok (.aload_n 0, 1) := by decide +kernel
theorem dX7_setTemperatures_56 : decode cX7_setTemperatures 56 = .ok (.invokevirtual 61, 3) := by decide +kernel
theorem dX7_setTemperatures_59 : decode cX7_setTemperatures 59 = .ok (.iload_n 3, 1) := by decide +kernel
theorem dX7_setTemperatures_60 : decode cX7_setTemperatures 60 = .ok (.ireturn, 1) := by decide +kernel
theorem dX7_node_0 : decode cX7_node 0 = .ok (.aload_n 0, 1) := by decide +kernel
theorem dX7_node_1 : decode cX7_node 1 = .ok (.iload_n 1, 1) := by decide +kernel
theorem dX7_node_2 : decode cX7_node 2 = .ok (.invokevirtual 64, 3) := by decide +kernel
theorem dX7_node_5 : decode cX7_node 5 = .ok (.iload_n 2, 1) := by decide +kernel
theorem dX7_node_6 : decode cX7_node 6 = .ok (.iconst 0, 1) := by decide +kernel
theorem dX7_node_7 : decode cX7_node 7 = .ok (.bipush 11, 2) := by decide +kernel
theorem dX7_node_9 : decode cX7_node 9 = .ok (.invokestatic 68, 3) := by decide +kernel
theorem dX7_node_12 : decode cX7_node 12 = .ok (.aload_n 0, 1) := by decide +kernel
theorem dX7_node_13 : decode cX7_node 13 = .ok (.iload_n 1, 1) := by decide +kernel
theorem dX7_node_14 : decode cX7_node 14 = .ok (.iload_n 2, 1) := by decide +kernel
theorem dX7_node_15 : decode cX7_node 15 = .ok (.invokevirtual 112, 3) := by decide +kernel
theorem dX7_node_18 : decode cX7_node 18 = .ok (.ireturn, 1) := by decide +kernel
theorem dX7_heat_0 : decode cX7_heat 0 = .ok (.aload_n 0, 1) := by decide +kernel
theorem dX7_heat_1 : decode cX7_heat 1 = .ok (.iload_n 1, 1) := by decide +kernel
theorem dX7_heat_2 : decode cX7_heat 2 = .ok (.invokevirtual 94, 3) := by decide +kernel
theorem dX7_heat_5 : decode cX7_heat 5 = .ok (.iload_n 2, 1) := by decide +kernel
theorem dX7_heat_6 : decode cX7_heat 6 = .ok (.iconst 0, 1) := by decide +kernel
theorem dX7_heat_7 : decode cX7_heat 7 = .ok (.iconst 5, 1) := by decide +kernel
theorem dX7_heat_8 : decode cX7_heat 8 = .ok (.invokestatic 68, 3) := by decide +kernel
theorem dX7_heat_11 : decode cX7_heat 11 = .ok (.aload_n 0, 1) := by decide +kernel
theorem dX7_heat_12 : decode cX7_heat 12 = .ok (.iload_n 1, 1) := by decide +kernel
theorem dX7_heat_13 : decode cX7_heat 13 = .ok (.iload_n 2, 1) := by decide +kernel
theorem dX7_heat_14 : decode cX7_heat 14 = .ok (.invokevirtual 116, 3) := by decide +kernel
theorem dX7_heat_17 : decode cX7_heat 17 = .ok (.ireturn, 1) := by decide +kernel
theorem dX7_value_0 : decode cX7_value 0 = .ok (.iload_n 1, 1) := by decide +kernel
theorem dX7_value_1 : decode cX7_value 1 = .ok (.iconst 0, 1) := by decide +kernel
theorem dX7_value_2 : decode cX7_value 2 = .ok (.bipush 14, 2) := by decide +kernel
theorem dX7_value_4 : decode cX7_value 4 = .ok (.invokestatic 68, 3) := by decide +kernel
theorem dX7_value_7 : decode cX7_value 7 = .ok (.aload_n 0, 1) := by decide +kernel
theorem dX7_value_8 : decode cX7_value 8 = .ok (.iload_n 1, 1) := by decide +kernel
theorem dX7_value_9 : decode cX7_value 9 = .ok (.invokevirtual 119, 3) := by decide +kernel
theorem dX7_value_12 : decode cX7_value 12 = .ok (.ireturn, 1) := by decide +kernel
theorem dX7_sum_0 : decode cX7_sum 0 = .ok (.iload_n 1, 1) := by decide +kernel
theorem dX7_sum_1 : decode cX7_sum 1 = .ok (.iconst 0, 1) := by decide +kernel
theorem dX7_sum_2 : decode cX7_sum 2 = .ok (.iconst 2, 1) := by decide +kernel
theorem dX7_sum_3 : decode cX7_sum 3 = .ok (.invokestatic 68, 3) := by decide +kernel
theorem dX7_sum_6 : decode cX7_sum 6 = .ok (.aload_n 0, 1) := by decide +kernel
theorem dX7_sum_7 : decode cX7_sum 7 = .ok (.iload_n 1, 1) := by decide +kernel
theorem dX7_sum_8 : decode cX7_sum 8 = .ok (.invokevirtual 123, 3) := by decide +kernel
theorem dX7_sum_11 : decode cX7_sum 11 = .ok (.ireturn, 1) := by decide +kernel
theorem dX7_addBoiler_0 : decode cX7_addBoiler 0 = .ok (.iload_n 1, 1) := by decide +kernel
theorem dX7_addBoiler_1 : decode cX7_addBoiler 1 = .ok (.iconst 1, 1) := by decide +kernel
theorem dX7_addBoiler_2 : decode cX7_addBoiler 2 = .ok (.ldc 126, 2) := by decide +kernel
theorem dX7_addBoiler_4 : decode cX7_addBoiler 4 = .ok (.invokestatic 68, 3) := by decide +kernel
theorem dX7_addBoiler_7 : decode cX7_addBoiler 7 = .ok (.iload_n 2, 1) := by decide +kernel
theorem dX7_addBoiler_8 : decode cX7_addBoiler 8 = .ok (.iconst 0, 1) := by decide +kernel
theorem dX7_addBoiler_9 : decode cX7_addBoiler 9 = .ok (.iload_n 1, 1) := by decide +kernel
theorem dX7_addBoiler_10 : decode cX7_addBoiler 10 = .ok (.invokestatic 68, 3) := by decide +kernel
theorem dX7_addBoiler_13 : decode cX7_addBoiler 13 = .ok (.iload_n 3, 1) := by decide +kernel
theorem dX7_addBoiler_14 : decode cX7_addBoiler 14 = .ok (.iconst 0, 1) := by decide +kernel
theorem dX7_addBoiler_15 : decode cX7_addBoiler 15 = .ok (.bipush 99, 2) := by decide +kernel
theorem dX7_addBoiler_17 : decode cX7_addBoiler 17 = .ok (.invokestatic 68, 3) := by decide +kernel
theorem dX7_addBoiler_20 : decode cX7_addBoiler 20 = .ok (.aload_n 0, 1) := by decide +kernel
theorem dX7_addBoiler_21 : decode cX7_addBoiler 21 = .ok (.getfield 10, 3) := by decide +kernel
theorem dX7_addBoiler_24 : decode cX7_addBoiler 24 = .ok (.getfield 127, 3) := by decide +kernel
theorem dX7_addBoiler_27 : decode cX7_addBoiler 27 = .ok (.getfield 131, 3) := by decide +kernel
theorem dX7_addBoiler_30 : decode cX7_addBoiler 30 = .ok (.iconst 4, 1) := by decide +kernel
theorem dX7_addBoiler_31 : decode cX7_addBoiler 31 = .ok (.if_icmp .lt 13, 3) := by decide +kernel
theorem dX7_addBoiler_34 : decode cX7_addBoiler 34 = .ok (.new 79, 3) := by decide +kernel
theorem dX7_addBoiler_37 : decode cX7_addBoiler 37 = .ok (.dup, 1) := by decide +kernel
theorem dX7_addBoiler_38 : decode cX7_addBoiler 38 = .ok (.ldc 134, 2) := by decide +kernel
theorem dX7_addBoiler_40 : decode cX7_addBoiler 40 = .ok (.invokespecial 83, 3) := by decide +kernel
theorem dX7_addBoiler_43 : decode cX7_addBoiler 43 = .ok (.athrow, 1) := by decide +kernel
theorem dX7_addBoiler_44 : decode cX7_addBoiler 44 = .ok (.aload_n 0, 1) := by decide +kernel
theorem dX7_addBoiler_45 : decode cX7_addBoiler 45 = .ok (.getfield 19, 3) := by decide +kernel
theorem dX7_addBoiler_48 : decode cX7_addBoiler 48 = .ok (.aload_n 0, 1) := by decide +kernel
theorem dX7_addBoiler_49 : decode cX7_addBoiler 49 = .ok (.getfield 10, 3) := by decide +kernel
theorem dX7_addBoiler_52 : decode cX7_addBoiler 52 = .ok (.invokevirtual 86, 3) := by decide +kernel
theorem dX7_addBoiler_55 : decode cX7_addBoiler 55 = .ok (.aload_n 0, 1) := by decide +kernel
theorem dX7_addBoiler_56 : decode cX7_addBoiler 56 = .ok (.getfield 10, 3) := by decide +kernel
theorem dX7_addBoiler_59 : decode cX7_addBoiler 59 = .ok (.getfield 127, 3) := by decide +kernel
theorem dX7_addBoiler_62 : decode cX7_addBoiler 62 = .ok (.iload_n 1, 1) := by decide +kernel
theorem dX7_addBoiler_63 : decode cX7_addBoiler 63 = .ok (.iload_n 2, 1) := by decide +kernel
theorem dX7_addBoiler_64 : decode cX7_addBoiler 64 = .ok (.iload_n 3, 1) := by decide +kernel
theorem dX7_addBoiler_65 : decode cX7_addBoiler 65 = .ok (.invokevirtual 136, 3) := by decide +kernel
theorem dX7_addBoiler_68 : decode cX7_addBoiler 68 = .ok (.istore 4, 2) := by decide +kernel
theorem dX7_addBoiler_70 : decode cX7_addBoiler 70 = .ok (.aload_n 0, 1) := by decide +kernel
theorem dX7_addBoiler_71 : decode cX7_addBoiler 71 = .ok (.invokevirtual 61, 3) := by decide +kernel
theorem dX7_addBoiler_74 : decode cX7_addBoiler 74 = .ok (.iload 4, 2) := by decide +kernel
theorem dX7_addBoiler_76 : decode cX7_addBoiler 76 = .ok (.ireturn, 1) := by decide +kernel
theorem dX7_setCost_0 : decode cX7_setCost 0 = .ok (.aload_n 0, 1) := by decide +kernel
theorem dX7_setCost_1 : decode cX7_setCost 1 = .ok (.iload_n 1, 1) := by decide +kernel
theorem dX7_setCost_2 : decode cX7_setCost 2 = .ok (.invokevirtual 140, 3) := by decide +kernel
theorem dX7_setCost_5 : decode cX7_setCost 5 = .ok (.iload_n 2, 1) := by decide +kernel
theorem dX7_setCost_6 : decode cX7_setCost 6 = .ok (.iconst 0, 1) := by decide +kernel
theorem dX7_setCost_7 : decode cX7_setCost 7 = .ok (.bipush 99, 2) := by decide +kernel
theorem dX7_setCost_9 : decode cX7_setCost 9 = .ok (.invokestatic 68, 3) := by decide +kernel
theorem dX7_setCost_12 : decode cX7_setCost 12 = .ok (.aload_n 0, 1) := by decide +kernel
theorem dX7_setCost_13 : decode cX7_setCost 13 = .ok (.getfield 19, 3) := by decide +kernel
theorem dX7_setCost_16 : decode cX7_setCost 16 = .ok (.aload_n 0, 1) := by decide +kernel
theorem dX7_setCost_17 : decode cX7_setCost 17 = .ok (.getfield 10, 3) := by decide +kernel
theorem dX7_setCost_20 : decode cX7_setCost 20 = .ok (.invokevirtual 86, 3) := by decide +kernel
theorem dX7_setCost_23 : decode cX7_setCost 23 = .ok (.aload_n 0, 1) := by decide +kernel
theorem dX7_setCost_24 : decode cX7_setCost 24 = .ok (.getfield 10, 3) := by decide +kernel
theorem dX7_setCost_27 : decode cX7_setCost 27 = .ok (.getfield 127, 3) := by decide +kernel
theorem dX7_setCost_30 : decode cX7_setCost 30 = .ok (.getfield 143, 3) := by decide +kernel
theorem dX7_setCost_33 : decode cX7_setCost 33 = .ok (.iload_n 1, 1) := by decide +kernel
theorem dX7_setCost_34 : decode cX7_setCost 34 = .ok (.iaload, 1) := by decide +kernel
theorem dX7_setCost_35 : decode cX7_setCost 35 = .ok (.istore_n 3, 1) := by decide +kernel
theorem dX7_setCost_36 : decode cX7_setCost 36 = .ok (.aload_n 0, 1) := by decide +kernel
theorem dX7_setCost_37 : decode cX7_setCost 37 = .ok (.getfield 10, 3) := by decide +kernel
theorem dX7_setCost_40 : decode cX7_setCost 40 = .ok (.getfield 127, 3) := by decide +kernel
theorem dX7_setCost_43 : decode cX7_setCost 43 = .ok (.getfield 143, 3) := by decide +kernel
theorem dX7_setCost_46 : decode cX7_setCost 46 = .ok (.iload_n 1, 1) := by decide +kernel
theorem dX7_setCost_47 : decode cX7_setCost 47 = .ok (.iload_n 2, 1) := by decide +kernel
theorem dX7_setCost_48 : decode cX7_setCost 48 = .ok (.iastore, 1) := by decide +kernel
theorem dX7_setCost_49 : decode cX7_setCost 49 = .ok (.aload_n 0, 1) := by decide +kernel
theorem dX7_setCost_50 : decode cX7_setCost 50 = .ok (.invokevirtual 61, 3) := by decide +kernel
theorem dX7_setCost_53 : decode cX7_setCost 53 = .ok (.iload_n 3, 1) := by decide +kernel
theorem dX7_setCost_54 : decode cX7_setCost 54 = .ok (.ireturn, 1) := by decide +kernel
theorem dX7_boiler_0 : decode cX7_boiler 0 = .ok (.aload_n 0, 1) := by decide +kernel
theorem dX7_boiler_1 : decode cX7_boiler 1 = .ok (.iload_n 1, 1) := by decide +kernel
theorem dX7_boiler_2 : decode cX7_boiler 2 = .ok (.invokevirtual 140, 3) := by decide +kernel
theorem dX7_boiler_5 : decode cX7_boiler 5 = .ok (.iload_n 2, 1) := by decide +kernel
theorem dX7_boiler_6 : decode cX7_boiler 6 = .ok (.iconst 0, 1) := by decide +kernel
theorem dX7_boiler_7 : decode cX7_boiler 7 = .ok (.iconst 4, 1) := by decide +kernel
theorem dX7_boiler_8 : decode cX7_boiler 8 = .ok (.invokestatic 68, 3) := by decide +kernel
theorem dX7_boiler_11 : decode cX7_boiler 11 = .ok (.aload_n 0, 1) := by decide +kernel
theorem dX7_boiler_12 : decode cX7_boiler 12 = .ok (.iload_n 1, 1) := by decide +kernel
theorem dX7_boiler_13 : decode cX7_boiler 13 = .ok (.iload_n 2, 1) := by decide +kernel
theorem dX7_boiler_14 : decode cX7_boiler 14 = .ok (.invokevirtual 146, 3) := by decide +kernel
theorem dX7_boiler_17 : decode cX7_boiler 17 = .ok (.ireturn, 1) := by decide +kernel
theorem dX7_setTariff_0 : decode cX7_setTariff 0 = .ok (.iload_n 1, 1) := by decide +kernel
theorem dX7_setTariff_1 : decode cX7_setTariff 1 = .ok (.iconst 0, 1) := by decide +kernel
theorem dX7_setTariff_2 : decode cX7_setTariff 2 = .ok (.sipush 999, 3) := by decide +kernel
theorem dX7_setTariff_5 : decode cX7_setTariff 5 = .ok (.invokestatic 68, 3) := by decide +kernel
theorem dX7_setTariff_8 : decode cX7_setTariff 8 = .ok (.iload_n 2, 1) := by decide +kernel
theorem dX7_setTariff_9 : decode cX7_setTariff 9 = .ok (.iconst 0, 1) := by decide +kernel
theorem dX7_setTariff_10 : decode cX7_setTariff 10 = .ok (.sipush 1200, 3) := by decide +kernel
theorem dX7_setTariff_13 : decode cX7_setTariff 13 = .ok (.invokestatic 68, 3) := by decide +kernel
theorem dX7_setTariff_16 : decode cX7_setTariff 16 = .ok (.iload_n 3, 1) := by decide +kernel
theorem dX7_setTariff_17 : decode cX7_setTariff 17 = .ok (.iconst 0, 1) := by decide +kernel
theorem dX7_setTariff_18 : decode cX7_setTariff 18 = .ok (.bipush 99, 2) := by decide +kernel
theorem dX7_setTariff_20 : decode cX7_setTariff 20 = .ok (.invokestatic 68, 3) := by decide +kernel
theorem dX7_setTariff_23 : decode cX7_setTariff 23 = .ok (.aload_n 0, 1) := by decide +kernel
theorem dX7_setTariff_24 : decode cX7_setTariff 24 = .ok (.getfield 19, 3) := by decide +kernel
theorem dX7_setTariff_27 : decode cX7_setTariff 27 = .ok (.aload_n 0, 1) := by decide +kernel
theorem dX7_setTariff_28 : decode cX7_setTariff 28 = .ok (.getfield 10, 3) := by decide +kernel
theorem dX7_setTariff_31 : decode cX7_setTariff 31 = .ok (.invokevirtual 86, 3) := by decide +kernel
theorem dX7_setTariff_34 : decode cX7_setTariff 34 = .ok (.aload_n 0, 1) := by decide +kernel
theorem dX7_setTariff_35 : decode cX7_setTariff 35 = .ok (.getfield 10, 3) := by decide +kernel
theorem dX7_setTariff_38 : decode cX7_setTariff 38 = .ok (.getfield 149, 3) := by decide +kernel
theorem dX7_setTariff_41 : decode cX7_setTariff 41 = .ok (.istore 4, 2) := by decide +kernel
theorem dX7_setTariff_43 : decode cX7_setTariff 43 = .ok (.aload_n 0, 1) := by decide +kernel
theorem dX7_setTariff_44 : decode cX7_setTariff 44 = .ok (.getfield 10, 3) := by decide +kernel
theorem dX7_setTariff_47 : decode cX7_setTariff 47 = .ok (.iload_n 1, 1) := by decide +kernel
theorem dX7_setTariff_48 : decode cX7_setTariff 48 = .ok (.putfield 149, 3) := by decide +kernel
theorem dX7_setTariff_51 : decode cX7_setTariff 51 = .ok (.aload_n 0, 1) := by decide +kernel
theorem dX7_setTariff_52 : decode cX7_setTariff 52 = .ok (.getfield 10, 3) := by decide +kernel
theorem dX7_setTariff_55 : decode cX7_setTariff 55 = .ok (.iload_n 2, 1) := by decide +kernel
theorem dX7_setTariff_56 : decode cX7_setTariff 56 = .ok (.putfield 152, 3) := by decide +kernel
theorem dX7_setTariff_59 : decode cX7_setTariff 59 = .ok (.aload_n 0, 1) := by decide +kernel
theorem dX7_setTariff_60 : decode cX7_setTariff 60 = .ok (.getfield 10, 3) := by decide +kernel
theorem dX7_setTariff_63 : decode cX7_setTariff 63 = .ok (.iload_n 3, 1) := by decide +kernel
theorem dX7_setTariff_64 : decode cX7_setTariff 64 = .ok (.putfield 155, 3) := by decide +kernel
theorem dX7_setTariff_67 : decode cX7_setTariff 67 = .ok (.iload 4, 2) := by decide +kernel
theorem dX7_setTariff_69 : decode cX7_setTariff 69 = .ok (.ireturn, 1) := by decide +kernel
theorem dX7_pass_0 : decode cX7_pass 0 = .ok (.iload_n 1, 1) := by decide +kernel
theorem dX7_pass_1 : decode cX7_pass 1 = .ok (.iconst 1, 1) := by decide +kernel
theorem dX7_pass_2 : decode cX7_pass 2 = .ok (.bipush 100, 2) := by decide +kernel
theorem dX7_pass_4 : decode cX7_pass 4 = .ok (.invokestatic 68, 3) := by decide +kernel
theorem dX7_pass_7 : decode cX7_pass 7 = .ok (.aload_n 0, 1) := by decide +kernel
theorem dX7_pass_8 : decode cX7_pass 8 = .ok (.getfield 10, 3) := by decide +kernel
theorem dX7_pass_11 : decode cX7_pass 11 = .ok (.getfield 158, 3) := by decide +kernel
theorem dX7_pass_14 : decode cX7_pass 14 = .ok (.iload_n 1, 1) := by decide +kernel
theorem dX7_pass_15 : decode cX7_pass 15 = .ok (.iadd, 1) := by decide +kernel
theorem dX7_pass_16 : decode cX7_pass 16 = .ok (.sipush 200, 3) := by decide +kernel
theorem dX7_pass_19 : decode cX7_pass 19 = .ok (.if_icmp .le 13, 3) := by decide +kernel
theorem dX7_pass_22 : decode cX7_pass 22 = .ok (.new 79, 3) := by decide +kernel
theorem dX7_pass_25 : decode cX7_pass 25 = .ok (.dup, 1) := by decide +kernel
theorem dX7_pass_26 : decode cX7_pass 26 = .ok (.ldc 161, 2) := by decide +kernel
theorem dX7_pass_28 : decode cX7_pass 28 = .ok (.invokespecial 83, 3) := by decide +kernel
theorem dX7_pass_31 : decode cX7_pass 31 = .ok (.athrow, 1) := by decide +kernel
theorem dX7_pass_32 : decode cX7_pass 32 = .ok (.aload_n 0, 1) := by decide +kernel
theorem dX7_pass_33 : decode cX7_pass 33 = .ok (.getfield 19, 3) := by decide +kernel
theorem dX7_pass_36 : decode cX7_pass 36 = .ok (.aload_n 0, 1) := by decide +kernel
theorem dX7_pass_37 : decode cX7_pass 37 = .ok (.getfield 10, 3) := by decide +kernel
theorem dX7_pass_40 : decode cX7_pass 40 = .ok (.invokevirtual 86, 3) := by decide +kernel
theorem dX7_pass_43 : decode cX7_pass 43 = .ok (.iconst 1, 1) := by decide +kernel
theorem dX7_pass_44 : decode cX7_pass 44 = .ok (.istore_n 2, 1) := by decide +kernel
theorem dX7_pass_45 : decode cX7_pass 45 = .ok (.iload_n 2, 1) := by decide +kernel
theorem dX7_pass_46 : decode cX7_pass 46 = .ok (.aload_n 0, 1) := by decide +kernel
theorem dX7_pass_47 : decode cX7_pass 47 = .ok (.getfield 10, 3) := by decide +kernel
theorem dX7_pass_50 : decode cX7_pass 50 = .ok (.getfield 72, 3) := by decide +kernel
theorem dX7_pass_53 : decode cX7_pass 53 = .ok (.getfield 75, 3) := by decide +kernel
theorem dX7_pass_56 : decode cX7_pass 56 = .ok (.if_icmp .ge 31, 3) := by decide +kernel
theorem dX7_pass_59 : decode cX7_pass 59 = .ok (.aload_n 0, 1) := by decide +kernel
theorem dX7_pass_60 : decode cX7_pass 60 = .ok (.getfield 10, 3) := by decide +kernel
theorem dX7_pass_63 : decode cX7_pass 63 = .ok (.getfield 72, 3) := by decide +kernel
theorem dX7_pass_66 : decode cX7_pass 66 = .ok (.getfield 163, 3) := by decide +kernel
theorem dX7_pass_69 : decode cX7_pass 69 = .ok (.iload_n 2, 1) := by decide +kernel
theorem dX7_pass_70 : decode cX7_pass 70 = .ok (.dup2, 1) := by decide +kernel
theorem dX7_pass_71 : decode cX7_pass 71 = .ok (.iaload, 1) := by decide +kernel
theorem dX7_pass_72 : decode cX7_pass 72 = .ok (.iload_n 1, 1) := by decide +kernel
theorem dX7_pass_73 : decode cX7_pass 73 = .ok (.aload_n 0, 1) := by decide +kernel
theorem dX7_pass_74 : decode cX7_pass 74 = .ok (.iload_n 2, 1) := by decide +kernel
theorem dX7_pass_75 : decode cX7_pass 75 = .ok (.invokevirtual 166, 3) := by decide +kernel
theorem dX7_pass_78 : decode cX7_pass 78 = .ok (.imul, 1) := by decide +kernel
theorem dX7_pass_79 : decode cX7_pass 79 = .ok (.iadd, 1) := by decide +kernel
theorem dX7_pass_80 : decode cX7_pass 80 = .ok (.iastore, 1) := by decide +kernel
theorem dX7_pass_81 : decode cX7_pass 81 = .ok (.iinc 2 1, 3) := by decide +kernel
theorem dX7_pass_84 : decode cX7_pass 84 = .ok (.goto (-39), 3) := by decide +kernel
theorem dX7_pass_87 : decode cX7_pass 87 = .ok (.aload_n 0, 1) := by decide +kernel
theorem dX7_pass_88 : decode cX7_pass 88 = .ok (.getfield 10, 3) := by decide +kernel
theorem dX7_pass_91 : decode cX7_pass 91 = .ok (.dup, 1) := by decide +kernel
theorem dX7_pass_92 : decode cX7_pass 92 = .ok (.getfield 169, 3) := by decide +kernel
theorem dX7_pass_95 : decode cX7_pass 95 = .ok (.iload_n 1, 1) := by decide +kernel
theorem dX7_pass_96 : decode cX7_pass 96 = .ok (.aload_n 0, 1) := by decide +kernel
theorem dX7_pass_97 : decode cX7_pass 97 = .ok (.getfield 33, 3) := by decide +kernel
theorem dX7_pass_100 : decode cX7_pass 100 = .ok (.getfield 172, 3) := by decide +kernel
theorem dX7_pass_103 : decode cX7_pass 103 = .ok (.imul, 1) := by decide +kernel
theorem dX7_pass_104 : decode cX7_pass 104 = .ok (.iadd, 1) := by decide +kernel
theorem dX7_pass_105 : decode cX7_pass 105 = .ok (.putfield 169, 3) := by decide +kernel
theorem dX7_pass_108 : decode cX7_pass 108 = .ok (.aload_n 0, 1) := by decide +kernel
theorem dX7_pass_109 : decode cX7_pass 109 = .ok (.getfield 10, 3) := by decide +kernel
theorem dX7_pass_112 : decode cX7_pass 112 = .ok (.dup, 1) := by decide +kernel
theorem dX7_pass_113 : decode cX7_pass 113 = .ok (.getfield 158, 3) := by decide +kernel
theorem dX7_pass_116 : decode cX7_pass 116 = .ok (.iload_n 1, 1) := by decide +kernel
theorem dX7_pass_117 : decode cX7_pass 117 = .ok (.iadd, 1) := by decide +kernel
theorem dX7_pass_118 : decode cX7_pass 118 = .ok (.putfield 158, 3) := by decide +kernel
theorem dX7_pass_121 : decode cX7_pass 121 = .ok (.aload_n 0, 1) := by decide +kernel
theorem dX7_pass_122 : decode cX7_pass 122 = .ok (.getfield 10, 3) := by decide +kernel
theorem dX7_pass_125 : decode cX7_pass 125 = .ok (.getfield 158, 3) := by decide +kernel
theorem dX7_pass_128 : decode cX7_pass 128 = .ok (.ireturn, 1) := by decide +kernel
theorem dX7_setMeter_0 : decode cX7_setMeter 0 = .ok (.aload_n 0, 1) := by decide +kernel
theorem dX7_setMeter_1 : decode cX7_setMeter 1 = .ok (.iload_n 1, 1) := by decide +kernel
theorem dX7_setMeter_2 : decode cX7_setMeter 2 = .ok (.invokevirtual 94, 3) := by decide +kernel
theorem dX7_setMeter_5 : decode cX7_setMeter 5 = .ok (.aload_n 0, 1) := by decide +kernel
theorem dX7_setMeter_6 : decode cX7_setMeter 6 = .ok (.getfield 19, 3) := by decide +kernel
theorem dX7_setMeter_9 : decode cX7_setMeter 9 = .ok (.aload_n 0, 1) := by decide +kernel
theorem dX7_setMeter_10 : decode cX7_setMeter 10 = .ok (.getfield 10, 3) := by decide +kernel
theorem dX7_setMeter_13 : decode cX7_setMeter 13 = .ok (.invokevirtual 86, 3) := by decide +kernel
theorem dX7_setMeter_16 : decode cX7_setMeter 16 = .ok (.aload_n 0, 1) := by decide +kernel
theorem dX7_setMeter_17 : decode cX7_setMeter 17 = .ok (.getfield 10, 3) := by decide +kernel
theorem dX7_setMeter_20 : decode cX7_setMeter 20 = .ok (.getfield 72, 3) := by decide +kernel
theorem dX7_setMeter_23 : decode cX7_setMeter 23 = .ok (.getfield 173, 3) := by decide +kernel
theorem dX7_setMeter_26 : decode cX7_setMeter 26 = .ok (.iload_n 1, 1) := by decide +kernel
theorem dX7_setMeter_27 : decode cX7_setMeter 27 = .ok (.iload_n 2, 1) := by decide +kernel
theorem dX7_setMeter_28 : decode cX7_setMeter 28 = .ok (.ifCond .eq 7, 3) := by decide +kernel
theorem dX7_setMeter_31 : decode cX7_setMeter 31 = .ok (.iconst 1, 1) := by decide +kernel
theorem dX7_setMeter_32 : decode cX7_setMeter 32 = .ok (.goto 4, 3) := by decide +kernel
theorem dX7_setMeter_35 : decode cX7_setMeter 35 = .ok (.iconst 0, 1) := by decide +kernel
theorem dX7_setMeter_36 : decode cX7_setMeter 36 = .ok (.iastore, 1) := by decide +kernel
theorem dX7_setMeter_37 : decode cX7_setMeter 37 = .ok (.aload_n 0, 1) := by decide +kernel
theorem dX7_setMeter_38 : decode cX7_setMeter 38 = .ok (.invokevirtual 61, 3) := by decide +kernel
theorem dX7_setMeter_41 : decode cX7_setMeter 41 = .ok (.aload_n 0, 1) := by decide +kernel
theorem dX7_setMeter_42 : decode cX7_setMeter 42 = .ok (.getfield 10, 3) := by decide +kernel
theorem dX7_setMeter_45 : decode cX7_setMeter 45 = .ok (.getfield 72, 3) := by decide +kernel
theorem dX7_setMeter_48 : decode cX7_setMeter 48 = .ok (.invokevirtual 176, 3) := by decide +kernel
theorem dX7_setMeter_51 : decode cX7_setMeter 51 = .ok (.ireturn, 1) := by decide +kernel
theorem dX7_efficiency_0 : decode cX7_efficiency 0 = .ok (.aload_n 0, 1) := by decide +kernel
theorem dX7_efficiency_1 : decode cX7_efficiency 1 = .ok (.getfield 33, 3) := by decide +kernel
theorem dX7_efficiency_4 : decode cX7_efficiency 4 = .ok (.getfield 216, 3) := by decide +kernel
theorem dX7_efficiency_7 : decode cX7_efficiency 7 = .ok (.iconst 0, 1) := by decide +kernel
theorem dX7_efficiency_8 : decode cX7_efficiency 8 = .ok (.iaload, 1) := by decide +kernel
theorem dX7_efficiency_9 : decode cX7_efficiency 9 = .ok (.aload_n 0, 1) := by decide +kernel
theorem dX7_efficiency_10 : decode cX7_efficiency 10 = .ok (.getfield 10, 3) := by decide +kernel
theorem dX7_efficiency_13 : decode cX7_efficiency 13 = .ok (.getfield 106, 3) := by decide +kernel
theorem dX7_efficiency_16 : decode cX7_efficiency 16 = .ok (.imul, 1) := by decide +kernel
theorem dX7_efficiency_17 : decode cX7_efficiency 17 = .ok (.istore_n 1, 1) := by decide +kernel
theorem dX7_efficiency_18 : decode cX7_efficiency 18 = .ok (.iload_n 1, 1) := by decide +kernel
theorem dX7_efficiency_19 : decode cX7_efficiency 19 = .ok (.ifCond .ne 5, 3) := by decide +kernel
theorem dX7_efficiency_22 : decode cX7_efficiency 22 = .ok (.dconst 0, 1) := by decide +kernel
theorem dX7_efficiency_23 : decode cX7_efficiency 23 = .ok (.dreturn, 1) := by decide +kernel
theorem dX7_efficiency_24 : decode cX7_efficiency 24 = .ok (.aload_n 0, 1) := by decide +kernel
theorem dX7_efficiency_25 : decode cX7_efficiency 25 = .ok (.iconst 0, 1) := by decide +kernel
theorem dX7_efficiency_26 : decode cX7_efficiency 26 = .ok (.invokevirtual 123, 3) := by decide +kernel
theorem dX7_efficiency_29 : decode cX7_efficiency 29 = .ok (.i2d, 1) := by decide +kernel
theorem dX7_efficiency_30 : decode cX7_efficiency 30 = .ok (.iload_n 1, 1) := by decide +kernel
theorem dX7_efficiency_31 : decode cX7_efficiency 31 = .ok (.i2d, 1) := by decide +kernel
theorem dX7_efficiency_32 : decode cX7_efficiency 32 = .ok (.ddiv, 1) := by decide +kernel
theorem dX7_efficiency_33 : decode cX7_efficiency 33 = .ok (.dreturn, 1) := by decide +kernel
theorem dX7_settle_0 : decode cX7_settle 0 = .ok (.aload_n 0, 1) := by decide +kernel
theorem dX7_settle_1 : decode cX7_settle 1 = .ok (.getfield 33, 3) := by decide +kernel
theorem dX7_settle_4 : decode cX7_settle 4 = .ok (.aload_n 0, 1) := by decide +kernel
theorem dX7_settle_5 : decode cX7_settle 5 = .ok (.getfield 10, 3) := by decide +kernel
theorem dX7_settle_8 : decode cX7_settle 8 = .ok (.aload_n 0, 1) := by decide +kernel
theorem dX7_settle_9 : decode cX7_settle 9 = .ok (.getfield 10, 3) := by decide +kernel
theorem dX7_settle_12 : decode cX7_settle 12 = .ok (.getfield 106, 3) := by decide +kernel
theorem dX7_settle_15 : decode cX7_settle 15 = .ok (.invokevirtual 210, 3) := by decide +kernel
theorem dX7_settle_18 : decode cX7_settle 18 = .ok (.aload_n 0, 1) := by decide +kernel
theorem dX7_settle_19 : decode cX7_settle 19 = .ok (.getfield 40, 3) := by decide +kernel
theorem dX7_settle_22 : decode cX7_settle 22 = .ok (.aload_n 0, 1) := by decide +kernel
theorem dX7_settle_23 : decode cX7_settle 23 = .ok (.getfield 10, 3) := by decide +kernel
theorem dX7_settle_26 : decode cX7_settle 26 = .ok (.getfield 72, 3) := by decide +kernel
theorem dX7_settle_29 : decode cX7_settle 29 = .ok (.invokevirtual 195, 3) := by decide +kernel
theorem dX7_settle_32 : decode cX7_settle 32 = .ok (.aload_n 0, 1) := by decide +kernel
theorem dX7_settle_33 : decode cX7_settle 33 = .ok (.getfield 40, 3) := by decide +kernel
theorem dX7_settle_36 : decode cX7_settle 36 = .ok (.aload_n 0, 1) := by decide +kernel
theorem dX7_settle_37 : decode cX7_settle 37 = .ok (.getfield 10, 3) := by decide +kernel
theorem dX7_settle_40 : decode cX7_settle 40 = .ok (.getfield 72, 3) := by decide +kernel
theorem dX7_settle_43 : decode cX7_settle 43 = .ok (.invokevirtual 199, 3) := by decide +kernel
theorem dX7_settle_46 : decode cX7_settle 46 = .ok (.return_, 1) := by decide +kernel
theorem dX7_requireNode_0 : decode cX7_requireNode 0 = .ok (.iload_n 1, 1) := by decide +kernel
theorem dX7_requireNode_1 : decode cX7_requireNode 1 = .ok (.ifCond .lt 17, 3) := by decide +kernel
theorem dX7_requireNode_4 : decode cX7_requireNode 4 = .ok (.iload_n 1, 1) := by decide +kernel
theorem dX7_requireNode_5 : decode cX7_requireNode 5 = .ok (.aload_n 0, 1) := by decide +kernel
theorem dX7_requireNode_6 : decode cX7_requireNode 6 = .ok (.getfield 10, 3) := by decide +kernel
theorem dX7_requireNode_9 : decode cX7_requireNode 9 = .ok (.getfield 72, 3) := by decide +kernel
theorem dX7_requireNode_12 : decode cX7_requireNode 12 = .ok (.getfield 75, 3) := by decide +kernel
theorem dX7_requireNode_15 : decode cX7_requireNode 15 = .ok (.if_icmp .lt 14, 3) := by decide +kernel
theorem dX7_requireNode_18 : decode cX7_requireNode 18 = .ok (.new 256, 3) := by decide +kernel
theorem dX7_requireNode_21 : decode cX7_requireNode 21 = .ok (.dup, 1) := by decide +kernel
theorem dX7_requireNode_22 : decode cX7_requireNode 22 = .ok (.ldc_w 258, 3) := by decide +kernel
theorem dX7_requireNode_25 : decode cX7_requireNode 25 = .ok (.invokespecial 260, 3) := by decide +kernel
theorem dX7_requireNode_28 : decode cX7_requireNode 28 = .ok (.athrow, 1) := by decide +kernel
theorem dX7_requireNode_29 : decode cX7_requireNode 29 = .ok (.return_, 1) := by decide +kernel
theorem dX7_requirePipe_0 : decode cX7_requirePipe 0 = .ok (.iload_n 1, 1) := by decide +kernel
theorem dX7_requirePipe_1 : decode cX7_requirePipe 1 = .ok (.iconst 1, 1) := by decide +kernel
theorem dX7_requirePipe_2 : decode cX7_requirePipe 2 = .ok (.if_icmp .lt 17, 3) := by decide +kernel
theorem dX7_requirePipe_5 : decode cX7_requirePipe 5 = .ok (.iload_n 1, 1) := by decide +kernel
theorem dX7_requirePipe_6 : decode cX7_requirePipe 6 = .ok (.aload_n 0, 1) := by decide +kernel
theorem dX7_requirePipe_7 : decode cX7_requirePipe 7 = .ok (.getfield 10, 3) := by decide +kernel
theorem dX7_requirePipe_10 : decode cX7_requirePipe 10 = .ok (.getfield 72, 3) := by decide +kernel
theorem dX7_requirePipe_13 : decode cX7_requirePipe 13 = .ok (.getfield 75, 3) := by decide +kernel
theorem dX7_requirePipe_16 : decode cX7_requirePipe 16 = .ok (.if_icmp .lt 14, 3) := by decide +kernel
theorem dX7_requirePipe_19 : decode cX7_requirePipe 19 = .ok (.new 256, 3) := by decide +kernel
theorem dX7_requirePipe_22 : decode cX7_requirePipe 22 = .ok (.dup, 1) := by decide +kernel
theorem dX7_requirePipe_23 : decode cX7_requirePipe 23 = .ok (.ldc_w 261, 3) := by decide +kernel
theorem dX7_requirePipe_26 : decode cX7_requirePipe 26 = .ok (.invokespecial 260, 3) := by decide +kernel
theorem dX7_requirePipe_29 : decode cX7_requirePipe 29 = .ok (.athrow, 1) := by decide +kernel
theorem dX7_requirePipe_30 : decode cX7_requirePipe 30 = .ok (.return_, 1) := by decide +kernel
theorem dX7_requireBoiler_0 : decode cX7_requireBoiler 0 = .ok (.iload_n 1, 1) := by decide +kernel
theorem dX7_requireBoiler_1 : decode cX7_requireBoiler 1 = .ok (.ifCond .lt 17, 3) := by decide +kernel
theorem dX7_requireBoiler_4 : decode cX7_requireBoiler 4 = .ok (.iload_n 1, 1) := by decide +kernel
theorem dX7_requireBoiler_5 : decode cX7_requireBoiler 5 = .ok (.aload_n 0, 1) := by decide +kernel
theorem dX7_requireBoiler_6 : decode cX7_requireBoiler 6 = .ok (.getfield 10, 3) := by decide +kernel
theorem dX7_requireBoiler_9 : decode cX7_requireBoiler 9 = .ok (.getfield 127, 3) := by decide +kernel
theorem dX7_requireBoiler_12 : decode cX7_requireBoiler 12 = .ok (.getfield 131, 3) := by decide +kernel
theorem dX7_requireBoiler_15 : decode cX7_requireBoiler 15 = .ok (.if_icmp .lt 14, 3) := by decide +kernel
theorem dX7_requireBoiler_18 : decode cX7_requireBoiler 18 = .ok (.new 256, 3) := by decide +kernel
theorem dX7_requireBoiler_21 : decode cX7_requireBoiler 21 = .ok (.dup, 1) := by decide +kernel
theorem dX7_requireBoiler_22 : decode cX7_requireBoiler 22 = .ok (.ldc_w 263, 3) := by decide +kernel
theorem dX7_requireBoiler_25 : decode cX7_requireBoiler 25 = .ok (.invokespecial 260, 3) := by decide +kernel
theorem dX7_requireBoiler_28 : decode cX7_requireBoiler 28 = .ok (.athrow, 1) := by decide +kernel
theorem dX7_requireBoiler_29 : decode cX7_requireBoiler 29 = .ok (.return_, 1) := by decide +kernel
theorem dX7_requireWithin_0 : decode cX7_requireWithin 0 = .ok (.iload_n 0, 1) := by decide +kernel
theorem dX7_requireWithin_1 : decode cX7_requireWithin 1 = .ok (.iload_n 1, 1) := by decide +kernel
theorem dX7_requireWithin_2 : decode cX7_requireWithin 2 = .ok (.if_icmp .lt 8, 3) := by decide +kernel
theorem dX7_requireWithin_5 : decode cX7_requireWithin 5 = .ok (.iload_n 0, 1) := by decide +kernel
theorem dX7_requireWithin_6 : decode cX7_requireWithin 6 = .ok (.iload_n 2, 1) := by decide +kernel
theorem dX7_requireWithin_7 : decode cX7_requireWithin 7 = .ok (.if_icmp .le 14, 3) := by decide +kernel
theorem dX7_requireWithin_10 : decode cX7_requireWithin 10 = .ok (.new 265, 3) := by decide +kernel
theorem dX7_requireWithin_13 : decode cX7_requireWithin 13 = .ok (.dup, 1) := by decide +kernel
theorem dX7_requireWithin_14 : decode cX7_requireWithin 14 = .ok (.ldc_w 267, 3) := by decide +kernel
theorem dX7_requireWithin_17 : decode cX7_requireWithin 17 = .ok (.invokespecial 269, 3) := by decide +kernel
theorem dX7_requireWithin_20 : decode cX7_requireWithin 20 = .ok (.athrow, 1) := by decide +kernel
theorem dX7_requireWithin_21 : decode cX7_requireWithin 21 = .ok (.return_, 1) := by decide +kernel
theorem dX7_nodeFact_0 : decode cX7_nodeFact 0 = .ok (.aload_n 0, 1) := by decide +kernel
theorem dX7_nodeFact_1 : decode cX7_nodeFact 1 = .ok (.getfield 10, 3) := by decide +kernel
theorem dX7_nodeFact_4 : decode cX7_nodeFact 4 = .ok (.getfield 72, 3) := by decide +kernel
theorem dX7_nodeFact_7 : decode cX7_nodeFact 7 = .ok (.astore_n 3, 1) := by decide +kernel
theorem dX7_nodeFact_8 : decode cX7_nodeFact 8 = .ok (.iload_n 2, 1) := by decide +kernel
theorem dX7_nodeFact_9 : decode cX7_nodeFact 9 = .ok (.tableswitch 151 0 10 #[59, 66, 73, 80, 87, 94, 101, 111, 121, 139, 145], 59) := by decide +kernel
theorem dX7_nodeFact_68 : decode cX7_nodeFact 68 = .ok (.aload_n 3, 1) := by decide +kernel
theorem dX7_nodeFact_69 : decode cX7_nodeFact 69 = .ok (.getfield 270, 3) := by decide +kernel
theorem dX7_nodeFact_72 : decode cX7_nodeFact 72 = .ok (.iload_n 1, 1) := by decide +kernel
theorem dX7_nodeFact_73 : decode cX7_nodeFact 73 = .ok (.iaload, 1) := by decide +kernel
theorem dX7_nodeFact_74 : decode cX7_nodeFact 74 = .ok (.ireturn, 1) := by decide +kernel
theorem dX7_nodeFact_75 : decode cX7_nodeFact 75 = .ok (.aload_n 3, 1) := by decide +kernel
theorem dX7_nodeFact_76 : decode cX7_nodeFact 76 = .ok (.getfield 273, 3) := by decide +kernel
theorem dX7_nodeFact_79 : decode cX7_nodeFact 79 = .ok (.iload_n 1, 1) := by decide +kernel
theorem dX7_nodeFact_80 : decode cX7_nodeFact 80 = .ok (.iaload, 1) := by decide +kernel
theorem dX7_nodeFact_81 : decode cX7_nodeFact 81 = .ok (.ireturn, 1) := by decide +kernel
theorem dX7_nodeFact_82 : decode cX7_nodeFact 82 = .ok (.aload_n 3, 1) := by decide +kernel
theorem dX7_nodeFact_83 : decode cX7_nodeFact 83 = .ok (.getfield 275, 3) := by decide +kernel
theorem dX7_nodeFact_86 : decode cX7_nodeFact 86 = .ok (.iload_n 1, 1) := by decide +kernel
theorem dX7_nodeFact_87 : decode cX7_nodeFact 87 = .ok (.iaload, 1) := by decide +kernel
theorem dX7_nodeFact_88 : decode cX7_nodeFact 88 = .ok (.ireturn, 1) := by decide +kernel
theorem dX7_nodeFact_89 : decode cX7_nodeFact 89 = .ok (.aload_n 3, 1) := by decide +kernel
theorem dX7_nodeFact_90 : decode cX7_nodeFact 90 = .ok (.getfield 97, 3) := by decide +kernel
theorem dX7_nodeFact_93 : decode cX7_nodeFact 93 = .ok (.iload_n 1, 1) := by decide +kernel
theorem dX7_nodeFact_94 : decode cX7_nodeFact 94 = .ok (.iaload, 1) := by decide +kernel
theorem dX7_nodeFact_95 : decode cX7_nodeFact 95 = .ok (.ireturn, 1) := by decide +kernel
theorem dX7_nodeFact_96 : decode cX7_nodeFact 96 = .ok (.aload_n 3, 1) := by decide +kernel
theorem dX7_nodeFact_97 : decode cX7_nodeFact 97 = .ok (.getfield 100, 3) := by decide +kernel
theorem dX7_nodeFact_100 : decode cX7_nodeFact 100 = .ok (.iload_n 1, 1) := by decide +kernel
theorem dX7_nodeFact_101 : decode cX7_nodeFact 101 = .ok (.iaload, 1) := by decide +kernel
theorem dX7_nodeFact_102 : decode cX7_nodeFact 102 = .ok (.ireturn, 1) := by decide +kernel
theorem dX7_nodeFact_103 : decode cX7_nodeFact 103 = .ok (.aload_n 3, 1) := by decide +kernel
theorem dX7_nodeFact_104 : decode cX7_nodeFact 104 = .ok (.getfield 103, 3) := by decide +kernel
theorem dX7_nodeFact_107 : decode cX7_nodeFact 107 = .ok (.iload_n 1, 1) := by decide +kernel
theorem dX7_nodeFact_108 : decode cX7_nodeFact 108 = .ok (.iaload, 1) := by decide +kernel
theorem dX7_nodeFact_109 : decode cX7_nodeFact 109 = .ok (.ireturn, 1) := by decide +kernel
theorem dX7_nodeFact_110 : decode cX7_nodeFact 110 = .ok (.aload_n 0, 1) := by decide +kernel
theorem dX7_nodeFact_111 : decode cX7_nodeFact 111 = .ok (.getfield 33, 3) := by decide +kernel
theorem dX7_nodeFact_114 : decode cX7_nodeFact 114 = .ok (.getfield 216, 3) := by decide +kernel
theorem dX7_nodeFact_117 : decode cX7_nodeFact 117 = .ok (.iload_n 1, 1) := by decide +kernel
theorem dX7_nodeFact_118 : decode cX7_nodeFact 118 = .ok (.iaload, 1) := by decide +kernel
theorem dX7_nodeFact_119 : decode cX7_nodeFact 119 = .ok (.ireturn, 1) := by decide +kernel
theorem dX7_nodeFact_120 : decode cX7_nodeFact 120 = .ok (.aload_n 0, 1) := by decide +kernel
theorem dX7_nodeFact_121 : decode cX7_nodeFact 121 = .ok (.getfield 33, 3) := by decide +kernel
theorem dX7_nodeFact_124 : decode cX7_nodeFact 124 = .ok (.getfield 278, 3) := by decide +kernel
theorem dX7_nodeFact_127 : decode cX7_nodeFact 127 = .ok (.iload_n 1, 1) := by decide +kernel
theorem dX7_nodeFact_128 : decode cX7_nodeFact 128 = .ok (.iaload, 1) := by decide +kernel
theorem dX7_nodeFact_129 : decode cX7_nodeFact 129 = .ok (.ireturn, 1) := by decide +kernel
theorem dX7_nodeFact_130 : decode cX7_nodeFact 130 = .ok (.iload_n 1, 1) := by decide +kernel
theorem dX7_nodeFact_131 : decode cX7_nodeFact 131 = .ok (.ifCond .ne 7, 3) := by decide +kernel
theorem dX7_nodeFact_134 : decode cX7_nodeFact 134 = .ok (.iconst (-1), 1) := by decide +kernel
theorem dX7_nodeFact_135 : decode cX7_nodeFact 135 = .ok (.goto 12, 3) := by decide +kernel
theorem dX7_nodeFact_138 : decode cX7_nodeFact 138 = .ok (.aload_n 0, 1) := by decide +kernel
theorem dX7_nodeFact_139 : decode cX7_nodeFact 139 = .ok (.getfield 33, 3) := by decide +kernel
theorem dX7_nodeFact_142 : decode cX7_nodeFact 142 = .ok (.aload_n 3, 1) := by decide +kernel
theorem dX7_nodeFact_143 : decode cX7_nodeFact 143 = .ok (.iload_n 1, 1) := by decide +kernel
theorem dX7_nodeFact_144 : decode cX7_nodeFact 144 = .ok (.invokevirtual 281, 3) := by decide +kernel
theorem dX7_nodeFact_147 : decode cX7_nodeFact 147 = .ok (.ireturn, 1) := by decide +kernel
theorem dX7_nodeFact_148 : decode cX7_nodeFact 148 = .ok (.aload_n 3, 1) := by decide +kernel
theorem dX7_nodeFact_149 : decode cX7_nodeFact 149 = .ok (.iload_n 1, 1) := by decide +kernel
theorem dX7_nodeFact_150 : decode cX7_nodeFact 150 = .ok (.invokevirtual 285, 3) := by decide +kernel
theorem dX7_nodeFact_153 : decode cX7_nodeFact 153 = .ok (.ireturn, 1) := by decide +kernel
theorem dX7_nodeFact_154 : decode cX7_nodeFact 154 = .ok (.aload_n 3, 1) := by decide +kernel
theorem dX7_nodeFact_155 : decode cX7_nodeFact 155 = .ok (.iload_n 1, 1) := by decide +kernel
theorem dX7_nodeFact_156 : decode cX7_nodeFact 156 = .ok (.invokevirtual 288, 3) := by decide +kernel
theorem dX7_nodeFact_159 : decode cX7_nodeFact 159 = .ok (.ireturn, 1) := by decide +kernel
theorem dX7_nodeFact_160 : decode cX7_nodeFact 160 = .ok (.aload_n 3, 1) := by decide +kernel
theorem dX7_nodeFact_161 : decode cX7_nodeFact 161 = .ok (.getfield 163, 3) := by decide +kernel
theorem dX7_nodeFact_164 : decode cX7_nodeFact 164 = .ok (.iload_n 1, 1) := by decide +kernel
theorem dX7_nodeFact_165 : decode cX7_nodeFact 165 = .ok (.iaload, 1) := by decide +kernel
theorem dX7_nodeFact_166 : decode cX7_nodeFact 166 = .ok (.ireturn, 1) := by decide +kernel
theorem dX7_heatOf_0 : decode cX7_heatOf 0 = .ok (.aload_n 0, 1) := by decide +kernel
theorem dX7_heatOf_1 : decode cX7_heatOf 1 = .ok (.getfield 10, 3) := by decide +kernel
theorem dX7_heatOf_4 : decode cX7_heatOf 4 = .ok (.getfield 72, 3) := by decide +kernel
theorem dX7_heatOf_7 : decode cX7_heatOf 7 = .ok (.astore_n 3, 1) := by decide +kernel
theorem dX7_heatOf_8 : decode cX7_heatOf 8 = .ok (.iload_n 2, 1) := by decide +kernel
theorem dX7_heatOf_9 : decode cX7_heatOf 9 = .ok (.tableswitch 118 0 4 #[35, 41, 71, 88, 98], 35) := by decide +kernel
theorem dX7_heatOf_44 : decode cX7_heatOf 44 = .ok (.aload_n 0, 1) := by decide +kernel
theorem dX7_heatOf_45 : decode cX7_heatOf 45 = .ok (.iload_n 1, 1) := by decide +kernel
theorem dX7_heatOf_46 : decode cX7_heatOf 46 = .ok (.invokevirtual 291, 3) := by decide +kernel
theorem dX7_heatOf_49 : decode cX7_heatOf 49 = .ok (.ireturn, 1) := by decide +kernel
theorem dX7_heatOf_50 : decode cX7_heatOf 50 = .ok (.aload_n 0, 1) := by decide +kernel
theorem dX7_heatOf_51 : decode cX7_heatOf 51 = .ok (.getfield 33, 3) := by decide +kernel
theorem dX7_heatOf_54 : decode cX7_heatOf 54 = .ok (.getfield 216, 3) := by decide +kernel
theorem dX7_heatOf_57 : decode cX7_heatOf 57 = .ok (.iload_n 1, 1) := by decide +kernel
theorem dX7_heatOf_58 : decode cX7_heatOf 58 = .ok (.iaload, 1) := by decide +kernel
theorem dX7_heatOf_59 : decode cX7_heatOf 59 = .ok (.aload_n 0, 1) := by decide +kernel
theorem dX7_heatOf_60 : decode cX7_heatOf 60 = .ok (.getfield 33, 3) := by decide +kernel
theorem dX7_heatOf_63 : decode cX7_heatOf 63 = .ok (.aload_n 3, 1) := by decide +kernel
theorem dX7_heatOf_64 : decode cX7_heatOf 64 = .ok (.iload_n 1, 1) := by decide +kernel
theorem dX7_heatOf_65 : decode cX7_heatOf 65 = .ok (.invokevirtual 294, 3) := by decide +kernel
theorem dX7_heatOf_68 : decode cX7_heatOf 68 = .ok (.aload_n 0, 1) := by decide +kernel
theorem dX7_heatOf_69 : decode cX7_heatOf 69 = .ok (.getfield 33, 3) := by decide +kernel
theorem dX7_heatOf_72 : decode cX7_heatOf 72 = .ok (.getfield 278, 3) := by decide +kernel
theorem dX7_heatOf_75 : decode cX7_heatOf 75 = .ok (.iload_n 1, 1) := by decide +kernel
theorem dX7_heatOf_76 : decode cX7_heatOf 76 = .ok (.iaload, 1) := by decide +kernel
theorem dX7_heatOf_77 : decode cX7_heatOf 77 = .ok (.isub, 1) := by decide +kernel
theorem dX7_heatOf_78 : decode cX7_heatOf 78 = .ok (.imul, 1) := by decide +kernel
theorem dX7_heatOf_79 : decode cX7_heatOf 79 = .ok (.ireturn, 1) := by decide +kernel
theorem dX7_heatOf_80 : decode cX7_heatOf 80 = .ok (.aload_n 3, 1) := by decide +kernel
theorem dX7_heatOf_81 : decode cX7_heatOf 81 = .ok (.getfield 103, 3) := by decide +kernel
theorem dX7_heatOf_84 : decode cX7_heatOf 84 = .ok (.iload_n 1, 1) := by decide +kernel
theorem dX7_heatOf_85 : decode cX7_heatOf 85 = .ok (.iaload, 1) := by decide +kernel
theorem dX7_heatOf_86 : decode cX7_heatOf 86 = .ok (.aload_n 0, 1) := by decide +kernel
theorem dX7_heatOf_87 : decode cX7_heatOf 87 = .ok (.getfield 33, 3) := by decide +kernel
theorem dX7_heatOf_90 : decode cX7_heatOf 90 = .ok (.getfield 278, 3) := by decide +kernel
theorem dX7_heatOf_93 : decode cX7_heatOf 93 = .ok (.iload_n 1, 1) := by decide +kernel
theorem dX7_heatOf_94 : decode cX7_heatOf 94 = .ok (.iaload, 1) := by decide +kernel
theorem dX7_heatOf_95 : decode cX7_heatOf 95 = .ok (.imul, 1) := by decide +kernel
theorem dX7_heatOf_96 : decode cX7_heatOf 96 = .ok (.ireturn, 1) := by decide +kernel
theorem dX7_heatOf_97 : decode cX7_heatOf 97 = .ok (.aload_n 0, 1) := by decide +kernel
theorem dX7_heatOf_98 : decode cX7_heatOf 98 = .ok (.getfield 33, 3) := by decide +kernel
theorem dX7_heatOf_101 : decode cX7_heatOf 101 = .ok (.getfield 297, 3) := by decide +kernel
theorem dX7_heatOf_104 : decode cX7_heatOf 104 = .ok (.iload_n 1, 1) := by decide +kernel
theorem dX7_heatOf_105 : decode cX7_heatOf 105 = .ok (.iaload, 1) := by decide +kernel
theorem dX7_heatOf_106 : decode cX7_heatOf 106 = .ok (.ireturn, 1) := by decide +kernel
theorem dX7_heatOf_107 : decode cX7_heatOf 107 = .ok (.aload_n 0, 1) := by decide +kernel
theorem dX7_heatOf_108 : decode cX7_heatOf 108 = .ok (.getfield 33, 3) := by decide +kernel
theorem dX7_heatOf_111 : decode cX7_heatOf 111 = .ok (.getfield 216, 3) := by decide +kernel
theorem dX7_heatOf_114 : decode cX7_heatOf 114 = .ok (.iload_n 1, 1) := by decide +kernel
theorem dX7_heatOf_115 : decode cX7_heatOf 115 = .ok (.iaload, 1) := by decide +kernel
theorem dX7_heatOf_116 : decode cX7_heatOf 116 = .ok (.aload_n 0, 1) := by decide +kernel
theorem dX7_heatOf_117 : decode cX7_heatOf 117 = .ok (.getfield 33, 3) := by decide +kernel
theorem dX7_heatOf_120 : decode cX7_heatOf 120 = .ok (.aload_n 3, 1) := by decide +kernel
theorem dX7_heatOf_121 : decode cX7_heatOf 121 = .ok (.iload_n 1, 1) := by decide +kernel
theorem dX7_heatOf_122 : decode cX7_heatOf 122 = .ok (.invokevirtual 294, 3) := by decide +kernel
theorem dX7_heatOf_125 : decode cX7_heatOf 125 = .ok (.imul, 1) := by decide +kernel
theorem dX7_heatOf_126 : decode cX7_heatOf 126 = .ok (.ireturn, 1) := by decide +kernel
theorem dX7_heatOf_127 : decode cX7_heatOf 127 = .ok (.aload_n 0, 1) := by decide +kernel
theorem dX7_heatOf_128 : decode cX7_heatOf 128 = .ok (.iload_n 1, 1) := by decide +kernel
theorem dX7_heatOf_129 : decode cX7_heatOf 129 = .ok (.invokevirtual 166, 3) := by decide +kernel
theorem dX7_heatOf_132 : decode cX7_heatOf 132 = .ok (.ireturn, 1) := by decide +kernel
theorem dX7_deliveredBy_0 : decode cX7_deliveredBy 0 = .ok (.aload_n 0, 1) := by decide +kernel
theorem dX7_deliveredBy_1 : decode cX7_deliveredBy 1 = .ok (.getfield 10, 3) := by decide +kernel
theorem dX7_deliveredBy_4 : decode cX7_deliveredBy 4 = .ok (.getfield 72, 3) := by decide +kernel
theorem dX7_deliveredBy_7 : decode cX7_deliveredBy 7 = .ok (.getfield 97, 3) := by decide +kernel
theorem dX7_deliveredBy_10 : decode cX7_deliveredBy 10 = .ok (.iload_n 1, 1) := by decide +kernel
theorem dX7_deliveredBy_11 : decode cX7_deliveredBy 11 = .ok (.iaload, 1) := by decide +kernel
theorem dX7_deliveredBy_12 : decode cX7_deliveredBy 12 = .ok (.aload_n 0, 1) := by decide +kernel
theorem dX7_deliveredBy_13 : decode cX7_deliveredBy 13 = .ok (.getfield 33, 3) := by decide +kernel
theorem dX7_deliveredBy_16 : decode cX7_deliveredBy 16 = .ok (.getfield 278, 3) := by decide +kernel
theorem dX7_deliveredBy_19 : decode cX7_deliveredBy 19 = .ok (.iload_n 1, 1) := by decide +kernel
theorem dX7_deliveredBy_20 : decode cX7_deliveredBy 20 = .ok (.iaload, 1) := by decide +kernel
theorem dX7_deliveredBy_21 : decode cX7_deliveredBy 21 = .ok (.aload_n 0, 1) := by decide +kernel
theorem dX7_deliveredBy_22 : decode cX7_deliveredBy 22 = .ok (.getfield 33, 3) := by decide +kernel
theorem dX7_deliveredBy_25 : decode cX7_deliveredBy 25 = .ok (.aload_n 0, 1) := by decide +kernel
theorem dX7_deliveredBy_26 : decode cX7_deliveredBy 26 = .ok (.getfield 10, 3) := by decide +kernel
theorem dX7_deliveredBy_29 : decode cX7_deliveredBy 29 = .ok (.getfield 72, 3) := by decide +kernel
theorem dX7_deliveredBy_32 : decode cX7_deliveredBy 32 = .ok (.iload_n 1, 1) := by decide +kernel
theorem dX7_deliveredBy_33 : decode cX7_deliveredBy 33 = .ok (.invokevirtual 281, 3) := by decide +kernel
theorem dX7_deliveredBy_36 : decode cX7_deliveredBy 36 = .ok (.isub, 1) := by decide +kernel
theorem dX7_deliveredBy_37 : decode cX7_deliveredBy 37 = .ok (.imul, 1) := by decide +kernel
theorem dX7_deliveredBy_38 : decode cX7_deliveredBy 38 = .ok (.ireturn, 1) := by decide +kernel
theorem dX7_billOf_0 : decode cX7_billOf 0 = .ok (.aload_n 0, 1) := by decide +kernel
theorem dX7_billOf_1 : decode cX7_billOf 1 = .ok (.getfield 33, 3) := by decide +kernel
theorem dX7_billOf_4 : decode cX7_billOf 4 = .ok (.aload_n 0, 1) := by decide +kernel
theorem dX7_billOf_5 : decode cX7_billOf 5 = .ok (.getfield 10, 3) := by decide +kernel
theorem dX7_billOf_8 : decode cX7_billOf 8 = .ok (.getfield 72, 3) := by decide +kernel
theorem dX7_billOf_11 : decode cX7_billOf 11 = .ok (.iload_n 1, 1) := by decide +kernel
theorem dX7_billOf_12 : decode cX7_billOf 12 = .ok (.invokevirtual 281, 3) := by decide +kernel
theorem dX7_billOf_15 : decode cX7_billOf 15 = .ok (.aload_n 0, 1) := by decide +kernel
theorem dX7_billOf_16 : decode cX7_billOf 16 = .ok (.getfield 10, 3) := by decide +kernel
theorem dX7_billOf_19 : decode cX7_billOf 19 = .ok (.getfield 152, 3) := by decide +kernel
theorem dX7_billOf_22 : decode cX7_billOf 22 = .ok (.isub, 1) := by decide +kernel
theorem dX7_billOf_23 : decode cX7_billOf 23 = .ok (.istore_n 2, 1) := by decide +kernel
theorem dX7_billOf_24 : decode cX7_billOf 24 = .ok (.aload_n 0, 1) := by decide +kernel
theorem dX7_billOf_25 : decode cX7_billOf 25 = .ok (.iload_n 1, 1) := by decide +kernel
theorem dX7_billOf_26 : decode cX7_billOf 26 = .ok (.invokevirtual 291, 3) := by decide +kernel
theorem dX7_billOf_29 : decode cX7_billOf 29 = .ok (.aload_n 0, 1) := by decide +kernel
theorem dX7_billOf_30 : decode cX7_billOf 30 = .ok (.getfield 10, 3) := by decide +kernel
theorem dX7_billOf_33 : decode cX7_billOf 33 = .ok (.getfield 149, 3) := by decide +kernel
theorem dX7_billOf_36 : decode cX7_billOf 36 = .ok (.imul, 1) := by decide +kernel
theorem dX7_billOf_37 : decode cX7_billOf 37 = .ok (.sipush 1000, 3) := by decide +kernel
theorem dX7_billOf_40 : decode cX7_billOf 40 = .ok (.idiv, 1) := by decide +kernel
theorem dX7_billOf_41 : decode cX7_billOf 41 = .ok (.aload_n 0, 1) := by decide +kernel
theorem dX7_billOf_42 : decode cX7_billOf 42 = .ok (.getfield 10, 3) := by decide +kernel
theorem dX7_billOf_45 : decode cX7_billOf 45 = .ok (.getfield 72, 3) := by decide +kernel
theorem dX7_billOf_48 : decode cX7_billOf 48 = .ok (.getfield 97, 3) := by decide +kernel
theorem dX7_billOf_51 : decode cX7_billOf 51 = .ok (.iload_n 1, 1) := by decide +kernel
theorem dX7_billOf_52 : decode cX7_billOf 52 = .ok (.iaload, 1) := by decide +kernel
theorem dX7_billOf_53 : decode cX7_billOf 53 = .ok (.iload_n 2, 1) := by decide +kernel
theorem dX7_billOf_54 : decode cX7_billOf 54 = .ok (.imul, 1) := by decide +kernel
theorem dX7_billOf_55 : decode cX7_billOf 55 = .ok (.aload_n 0, 1) := by decide +kernel
theorem dX7_billOf_56 : decode cX7_billOf 56 = .ok (.getfield 10, 3) := by decide +kernel
theorem dX7_billOf_59 : decode cX7_billOf 59 = .ok (.getfield 155, 3) := by decide +kernel
theorem dX7_billOf_62 : decode cX7_billOf 62 = .ok (.imul, 1) := by decide +kernel
theorem dX7_billOf_63 : decode cX7_billOf 63 = .ok (.sipush 1000, 3) := by decide +kernel
theorem dX7_billOf_66 : decode cX7_billOf 66 = .ok (.idiv, 1) := by decide +kernel
theorem dX7_billOf_67 : decode cX7_billOf 67 = .ok (.iadd, 1) := by decide +kernel
theorem dX7_billOf_68 : decode cX7_billOf 68 = .ok (.ireturn, 1) := by decide +kernel
theorem dX7_number_0 : decode cX7_number 0 = .ok (.iload_n 1, 1) := by decide +kernel
theorem dX7_number_1 : decode cX7_number 1 = .ok (.tableswitch 194 0 13 #[71, 79, 87, 95, 103, 111, 122, 133, 141, 149, 157, 165, 173, 184], 71) := by decide +kernel
theorem dX7_number_72 : decode cX7_number 72 = .ok (.aload_n 0, 1) := by decide +kernel
theorem dX7_number_73 : decode cX7_number 73 = .ok (.getfield 10, 3) := by decide +kernel
theorem dX7_number_76 : decode cX7_number 76 = .ok (.getfield 106, 3) := by decide +kernel
theorem dX7_number_79 : decode cX7_number 79 = .ok (.ireturn, 1) := by decide +kernel
theorem dX7_number_80 : decode cX7_number 80 = .ok (.aload_n 0, 1) := by decide +kernel
theorem dX7_number_81 : decode cX7_number 81 = .ok (.getfield 10, 3) := by decide +kernel
theorem dX7_number_84 : decode cX7_number 84 = .ok (.getfield 109, 3) := by decide +kernel
theorem dX7_number_87 : decode cX7_number 87 = .ok (.ireturn, 1) := by decide +kernel
theorem dX7_number_88 : decode cX7_number 88 = .ok (.aload_n 0, 1) := by decide +kernel
theorem dX7_number_89 : decode cX7_number 89 = .ok (.getfield 10, 3) := by decide +kernel
theorem dX7_number_92 : decode cX7_number 92 = .ok (.getfield 149, 3) := by decide +kernel
theorem dX7_number_95 : decode cX7_number 95 = .ok (.ireturn, 1) := by decide +kernel
theorem dX7_number_96 : decode cX7_number 96 = .ok (.aload_n 0, 1) := by decide +kernel
theorem dX7_number_97 : decode cX7_number 97 = .ok (.getfield 10, 3) := by decide +kernel
theorem dX7_number_100 : decode cX7_number 100 = .ok (.getfield 152, 3) := by decide +kernel
theorem dX7_number_103 : decode cX7_number 103 = .ok (.ireturn, 1) := by decide +kernel
theorem dX7_number_104 : decode cX7_number 104 = .ok (.aload_n 0, 1) := by decide +kernel
theorem dX7_number_105 : decode cX7_number 105 = .ok (.getfield 10, 3) := by decide +kernel
theorem dX7_number_108 : decode cX7_number 108 = .ok (.getfield 155, 3) := by decide +kernel
theorem dX7_number_111 : decode cX7_number 111 = .ok (.ireturn, 1) := by decide +kernel
theorem dX7_number_112 : decode cX7_number 112 = .ok (.aload_n 0, 1) := by decide +kernel
theorem dX7_number_113 : decode cX7_number 113 = .ok (.getfield 10, 3) := by decide +kernel
theorem dX7_number_116 : decode cX7_number 116 = .ok (.getfield 72, 3) := by decide +kernel
theorem dX7_number_119 : decode cX7_number 119 = .ok (.getfield 75, 3) := by decide +kernel
theorem dX7_number_122 : decode cX7_number 122 = .ok (.ireturn, 1) := by decide +kernel
theorem dX7_number_123 : decode cX7_number 123 = .ok (.aload_n 0, 1) := by decide +kernel
theorem dX7_number_124 : decode cX7_number 124 = .ok (.getfield 10, 3) := by decide +kernel
theorem dX7_number_127 : decode cX7_number 127 = .ok (.getfield 127, 3) := by decide +kernel
theorem dX7_number_130 : decode cX7_number 130 = .ok (.getfield 131, 3) := by decide +kernel
theorem dX7_number_133 : decode cX7_number 133 = .ok (.ireturn, 1) := by decide +kernel
theorem dX7_number_134 : decode cX7_number 134 = .ok (.aload_n 0, 1) := by decide +kernel
theorem dX7_number_135 : decode cX7_number 135 = .ok (.getfield 33, 3) := by decide +kernel
theorem dX7_number_138 : decode cX7_number 138 = .ok (.getfield 300, 3) := by decide +kernel
theorem dX7_number_141 : decode cX7_number 141 = .ok (.ireturn, 1) := by decide +kernel
theorem dX7_number_142 : decode cX7_number 142 = .ok (.aload_n 0, 1) := by decide +kernel
theorem dX7_number_143 : decode cX7_number 143 = .ok (.getfield 33, 3) := by decide +kernel
theorem dX7_number_146 : decode cX7_number 146 = .ok (.getfield 213, 3) := by decide +kernel
theorem dX7_number_149 : decode cX7_number 149 = .ok (.ireturn, 1) := by decide +kernel
theorem dX7_number_150 : decode cX7_number 150 = .ok (.aload_n 0, 1) := by decide +kernel
theorem dX7_number_151 : decode cX7_number 151 = .ok (.getfield 33, 3) := by decide +kernel
theorem dX7_number_154 : decode cX7_number 154 = .ok (.getfield 172, 3) := by decide +kernel
theorem dX7_number_157 : decode cX7_number 157 = .ok (.ireturn, 1) := by decide +kernel
theorem dX7_number_158 : decode cX7_number 158 = .ok (.aload_n 0, 1) := by decide +kernel
theorem dX7_number_159 : decode cX7_number 159 = .ok (.getfield 10, 3) := by decide +kernel
theorem dX7_number_162 : decode cX7_number 162 = .ok (.getfield 169, 3) := by decide +kernel
theorem dX7_number_165 : decode cX7_number 165 = .ok (.ireturn, 1) := by decide +kernel
theorem dX7_number_166 : decode cX7_number 166 = .ok (.aload_n 0, 1) := by decide +kernel
theorem dX7_number_167 : decode cX7_number 167 = .ok (.getfield 10, 3) := by decide +kernel
theorem dX7_number_170 : decode cX7_number 170 = .ok (.getfield 158, 3) := by decide +kernel
theorem dX7_number_173 : decode cX7_number 173 = .ok (.ireturn, 1) := by decide +kernel
theorem dX7_number_174 : decode cX7_number 174 = .ok (.aload_n 0, 1) := by decide +kernel
theorem dX7_number_175 : decode cX7_number 175 = .ok (.getfield 10, 3) := by decide +kernel
theorem dX7_number_178 : decode cX7_number 178 = .ok (.getfield 72, 3) := by decide +kernel
theorem dX7_number_181 : decode cX7_number 181 = .ok (.invokevirtual 303, 3) := by decide +kernel
theorem dX7_number_184 : decode cX7_number 184 = .ok (.ireturn, 1) := by decide +kernel
theorem dX7_number_185 : decode cX7_number 185 = .ok (.aload_n 0, 1) := by decide +kernel
theorem dX7_number_186 : decode cX7_number 186 = .ok (.getfield 33, 3) := by decide +kernel
theorem dX7_number_189 : decode cX7_number 189 = .ok (.getfield 297, 3) := by decide +kernel
theorem dX7_number_192 : decode cX7_number 192 = .ok (.iconst 0, 1) := by decide +kernel
theorem dX7_number_193 : decode cX7_number 193 = .ok (.iaload, 1) := by decide +kernel
theorem dX7_number_194 : decode cX7_number 194 = .ok (.ireturn, 1) := by decide +kernel
theorem dX7_number_195 : decode cX7_number 195 = .ok (.aload_n 0, 1) := by decide +kernel
theorem dX7_number_196 : decode cX7_number 196 = .ok (.getfield 10, 3) := by decide +kernel
theorem dX7_number_199 : decode cX7_number 199 = .ok (.getfield 72, 3) := by decide +kernel
theorem dX7_number_202 : decode cX7_number 202 = .ok (.invokevirtual 176, 3) := by decide +kernel
theorem dX7_number_205 : decode cX7_number 205 = .ok (.ireturn, 1) := by decide +kernel
theorem dX7_sumOfHeats_0 : decode cX7_sumOfHeats 0 = .ok (.iconst 0, 1) := by decide +kernel
theorem dX7_sumOfHeats_1 : decode cX7_sumOfHeats 1 = .ok (.istore_n 2, 1) := by decide +kernel
theorem dX7_sumOfHeats_2 : decode cX7_sumOfHeats 2 = .ok (.iconst 1, 1) := by decide +kernel
theorem dX7_sumOfHeats_3 : decode cX7_sumOfHeats 3 = .ok (.istore_n 3, 1) := by decide +kernel
theorem dX7_sumOfHeats_4 : decode cX7_sumOfHeats 4 = .ok (.iload_n 3, 1) := by decide +kernel
theorem dX7_sumOfHeats_5 : decode cX7_sumOfHeats 5 = .ok (.aload_n 0, 1) := by decide +kernel
theorem dX7_sumOfHeats_6 : decode cX7_sumOfHeats 6 = .ok (.getfield 10, 3) := by decide +kernel
theorem dX7_sumOfHeats_9 : decode cX7_sumOfHeats 9 = .ok (.getfield 72, 3) := by decide +kernel
theorem dX7_sumOfHeats_12 : decode cX7_sumOfHeats 12 = .ok (.getfield 75, 3) := by decide +kernel
theorem dX7_sumOfHeats_15 : decode cX7_sumOfHeats 15 = .ok (.if_icmp .ge 18, 3) := by decide +kernel
theorem dX7_sumOfHeats_18 : decode cX7_sumOfHeats 18 = .ok (.iload_n 2, 1) := by decide +kernel
theorem dX7_sumOfHeats_19 : decode cX7_sumOfHeats 19 = .ok (.aload_n 0, 1) := by decide +kernel
theorem dX7_sumOfHeats_20 : decode cX7_sumOfHeats 20 = .ok (.iload_n 3, 1) := by decide +kernel
theorem dX7_sumOfHeats_21 : decode cX7_sumOfHeats 21 = .ok (.iload_n 1, 1) := by decide +kernel
theorem dX7_sumOfHeats_22 : decode cX7_sumOfHeats 22 = .ok (.invokevirtual 116, 3) := by decide +kernel
theorem dX7_sumOfHeats_25 : decode cX7_sumOfHeats 25 = .ok (.iadd, 1) := by decide +kernel
theorem dX7_sumOfHeats_26 : decode cX7_sumOfHeats 26 = .ok (.istore_n 2, 1) := by decide +kernel
theorem dX7_sumOfHeats_27 : decode cX7_sumOfHeats 27 = .ok (.iinc 3 1, 3) := by decide +kernel
theorem dX7_sumOfHeats_30 : decode cX7_sumOfHeats 30 = .ok (.goto (-26), 3) := by decide +kernel
theorem dX7_sumOfHeats_33 : decode cX7_sumOfHeats 33 = .ok (.iload_n 2, 1) := by decide +kernel
theorem dX7_sumOfHeats_34 : decode cX7_sumOfHeats 34 = .ok (.ireturn, 1) := by decide +kernel
theorem dX7_boilerFact_0 : decode cX7_boilerFact 0 = .ok (.aload_n 0, 1) := by decide +kernel
theorem dX7_boilerFact_1 : decode cX7_boilerFact 1 = .ok (.getfield 10, 3) := by decide +kernel
theorem dX7_boilerFact_4 : decode cX7_boilerFact 4 = .ok (.getfield 127, 3) := by decide +kernel
theorem dX7_boilerFact_7 : decode cX7_boilerFact 7 = .ok (.astore_n 3, 1) := by decide +kernel
theorem dX7_boilerFact_8 : decode cX7_boilerFact 8 = .ok (.iload_n 2, 1) := by decide +kernel
theorem dX7_boilerFact_9 : decode cX7_boilerFact 9 = .ok (.tableswitch 62 0 3 #[31, 38, 45, 52], 31) := by decide +kernel
theorem dX7_boilerFact_40 : decode cX7_boilerFact 40 = .ok (.aload_n 3, 1) := by decide +kernel
theorem dX7_boilerFact_41 : decode cX7_boilerFact 41 = .ok (.getfield 306, 3) := by decide +kernel
theorem dX7_boilerFact_44 : decode cX7_boilerFact 44 = .ok (.iload_n 1, 1) := by decide +kernel
theorem dX7_boilerFact_45 : decode cX7_boilerFact 45 = .ok (.iaload, 1) := by decide +kernel
theorem dX7_boilerFact_46 : decode cX7_boilerFact 46 = .ok (.ireturn, 1) := by decide +kernel
theorem dX7_boilerFact_47 : decode cX7_boilerFact 47 = .ok (.aload_n 3, 1) := by decide +kernel
theorem dX7_boilerFact_48 : decode cX7_boilerFact 48 = .ok (.getfield 309, 3) := by decide +kernel
theorem dX7_boilerFact_51 : decode cX7_boilerFact 51 = .ok (.iload_n 1, 1) := by decide +kernel
theorem dX7_boilerFact_52 : decode cX7_boilerFact 52 = .ok (.iaload, 1) := by decide +kernel
theorem dX7_boilerFact_53 : decode cX7_boilerFact 53 = .ok (.ireturn, 1) := by decide +kernel
theorem dX7_boilerFact_54 : decode cX7_boilerFact 54 = .ok (.aload_n 3, 1) := by decide +kernel
theorem dX7_boilerFact_55 : decode cX7_boilerFact 55 = .ok (.getfield 143, 3) := by decide +kernel
theorem dX7_boilerFact_58 : decode cX7_boilerFact 58 = .ok (.iload_n 1, 1) := by decide +kernel
theorem dX7_boilerFact_59 : decode cX7_boilerFact 59 = .ok (.iaload, 1) := by decide +kernel
theorem dX7_boilerFact_60 : decode cX7_boilerFact 60 = .ok (.ireturn, 1) := by decide +kernel
theorem dX7_boilerFact_61 : decode cX7_boilerFact 61 = .ok (.aload_n 0, 1) := by decide +kernel
theorem dX7_boilerFact_62 : decode cX7_boilerFact 62 = .ok (.getfield 33, 3) := by decide +kernel
theorem dX7_boilerFact_65 : decode cX7_boilerFact 65 = .ok (.getfield 312, 3) := by decide +kernel
theorem dX7_boilerFact_68 : decode cX7_boilerFact 68 = .ok (.iload_n 1, 1) := by decide +kernel
theorem dX7_boilerFact_69 : decode cX7_boilerFact 69 = .ok (.iaload, 1) := by decide +kernel
theorem dX7_boilerFact_70 : decode cX7_boilerFact 70 = .ok (.ireturn, 1) := by decide +kernel
theorem dX7_boilerFact_71 : decode cX7_boilerFact 71 = .ok (.aload_n 3, 1) := by decide +kernel
theorem dX7_boilerFact_72 : decode cX7_boilerFact 72 = .ok (.iload_n 1, 1) := by decide +kernel
theorem dX7_boilerFact_73 : decode cX7_boilerFact 73 = .ok (.invokevirtual 315, 3) := by decide +kernel
theorem dX7_boilerFact_76 : decode cX7_boilerFact 76 = .ok (.ireturn, 1) := by decide +kernel
theorem dX7_copyRow_0 : decode cX7_copyRow 0 = .ok (.aload_n 0, 1) := by decide +kernel
theorem dX7_copyRow_1 : decode cX7_copyRow 1 = .ok (.iconst 0, 1) := by decide +kernel
theorem dX7_copyRow_2 : decode cX7_copyRow 2 = .ok (.aload_n 1, 1) := by decide +kernel
theorem dX7_copyRow_3 : decode cX7_copyRow 3 = .ok (.iconst 0, 1) := by decide +kernel
theorem dX7_copyRow_4 : decode cX7_copyRow 4 = .ok (.aload_n 0, 1) := by decide +kernel
theorem dX7_copyRow_5 : decode cX7_copyRow 5 = .ok (.arraylength, 1) := by decide +kernel
theorem dX7_copyRow_6 : decode cX7_copyRow 6 = .ok (.aload_n 1, 1) := by decide +kernel
theorem dX7_copyRow_7 : decode cX7_copyRow 7 = .ok (.arraylength, 1) := by decide +kernel
theorem dX7_copyRow_8 : decode cX7_copyRow 8 = .ok (.invokestatic 330, 3) := by decide +kernel
theorem dX7_copyRow_11 : decode cX7_copyRow 11 = .ok (.invokestatic 335, 3) := by decide +kernel
theorem dX7_copyRow_14 : decode cX7_copyRow 14 = .ok (.return_, 1) := by decide +kernel
theorem dJ6_bitCount_0f7a4_0 : decode cJ6_bitCount_0f7a4 0 = .ok (.iload_n 0, 1) := by decide +kernel
theorem dJ6_bitCount_0f7a4_1 : decode cJ6_bitCount_0f7a4 1 = .ok (.iload_n 0, 1) := by decide +kernel
theorem dJ6_bitCount_0f7a4_2 : decode cJ6_bitCount_0f7a4 2 = .ok (.iconst 1, 1) := by decide +kernel
theorem dJ6_bitCount_0f7a4_3 : decode cJ6_bitCount_0f7a4 3 = .ok (.iushr, 1) := by decide +kernel
theorem dJ6_bitCount_0f7a4_4 : decode cJ6_bitCount_0f7a4 4 = .ok (.ldc_w 265, 3) := by decide +kernel
theorem dJ6_bitCount_0f7a4_7 : decode cJ6_bitCount_0f7a4 7 = .ok (.iand, 1) := by decide +kernel
theorem dJ6_bitCount_0f7a4_8 : decode cJ6_bitCount_0f7a4 8 = .ok (.isub, 1) := by decide +kernel
theorem dJ6_bitCount_0f7a4_9 : decode cJ6_bitCount_0f7a4 9 = .ok (.istore_n 0, 1) := by decide +kernel
theorem dJ6_bitCount_0f7a4_10 : decode cJ6_bitCount_0f7a4 10 = .ok (.iload_n 0, 1) := by decide +kernel
theorem dJ6_bitCount_0f7a4_11 : decode cJ6_bitCount_0f7a4 11 = .ok (.ldc_w 266, 3) := by decide +kernel
theorem dJ6_bitCount_0f7a4_14 : decode cJ6_bitCount_0f7a4 14 = .ok (.iand, 1) := by decide +kernel
theorem dJ6_bitCount_0f7a4_15 : decode cJ6_bitCount_0f7a4 15 = .ok (.iload_n 0, 1) := by decide +kernel
theorem dJ6_bitCount_0f7a4_16 : decode cJ6_bitCount_0f7a4 16 = .ok (.iconst 2, 1) := by decide +kernel
theorem dJ6_bitCount_0f7a4_17 : decode cJ6_bitCount_0f7a4 17 = .ok (.iushr, 1) := by decide +kernel
theorem dJ6_bitCount_0f7a4_18 : decode cJ6_bitCount_0f7a4 18 = .ok (.ldc_w 266, 3) := by decide +kernel
theorem dJ6_bitCount_0f7a4_21 : decode cJ6_bitCount_0f7a4 21 = .ok (.iand, 1) := by decide +kernel
theorem dJ6_bitCount_0f7a4_22 : decode cJ6_bitCount_0f7a4 22 = .ok (.iadd, 1) := by decide +kernel
theorem dJ6_bitCount_0f7a4_23 : decode cJ6_bitCount_0f7a4 23 = .ok (.istore_n 0, 1) := by decide +kernel
theorem dJ6_bitCount_0f7a4_24 : decode cJ6_bitCount_0f7a4 24 = .ok (.iload_n 0, 1) := by decide +kernel
theorem dJ6_bitCount_0f7a4_25 : decode cJ6_bitCount_0f7a4 25 = .ok (.iload_n 0, 1) := by decide +kernel
theorem dJ6_bitCount_0f7a4_26 : decode cJ6_bitCount_0f7a4 26 = .ok (.iconst 4, 1) := by decide +kernel
theorem dJ6_bitCount_0f7a4_27 : decode cJ6_bitCount_0f7a4 27 = .ok (.iushr, 1) := by decide +kernel
theorem dJ6_bitCount_0f7a4_28 : decode cJ6_bitCount_0f7a4 28 = .ok (.iadd, 1) := by decide +kernel
theorem dJ6_bitCount_0f7a4_29 : decode cJ6_bitCount_0f7a4 29 = .ok (.ldc_w 267, 3) := by decide +kernel
theorem dJ6_bitCount_0f7a4_32 : decode cJ6_bitCount_0f7a4 32 = .ok (.iand, 1) := by decide +kernel
theorem dJ6_bitCount_0f7a4_33 : decode cJ6_bitCount_0f7a4 33 = .ok (.istore_n 0, 1) := by decide +kernel
theorem dJ6_bitCount_0f7a4_34 : decode cJ6_bitCount_0f7a4 34 = .ok (.iload_n 0, 1) := by decide +kernel
theorem dJ6_bitCount_0f7a4_35 : decode cJ6_bitCount_0f7a4 35 = .ok (.iload_n 0, 1) := by decide +kernel
theorem dJ6_bitCount_0f7a4_36 : decode cJ6_bitCount_0f7a4 36 = .ok (.bipush 8, 2) := by decide +kernel
theorem dJ6_bitCount_0f7a4_38 : decode cJ6_bitCount_0f7a4 38 = .ok (.iushr, 1) := by decide +kernel
theorem dJ6_bitCount_0f7a4_39 : decode cJ6_bitCount_0f7a4 39 = .ok (.iadd, 1) := by decide +kernel
theorem dJ6_bitCount_0f7a4_40 : decode cJ6_bitCount_0f7a4 40 = .ok (.istore_n 0, 1) := by decide +kernel
theorem dJ6_bitCount_0f7a4_41 : decode cJ6_bitCount_0f7a4 41 = .ok (.iload_n 0, 1) := by decide +kernel
theorem dJ6_bitCount_0f7a4_42 : decode cJ6_bitCount_0f7a4 42 = .ok (.iload_n 0, 1) := by decide +kernel
theorem dJ6_bitCount_0f7a4_43 : decode cJ6_bitCount_0f7a4 43 = .ok (.bipush 16, 2) := by decide +kernel
theorem dJ6_bitCount_0f7a4_45 : decode cJ6_bitCount_0f7a4 45 = .ok (.iushr, 1) := by decide +kernel
theorem dJ6_bitCount_0f7a4_46 : decode cJ6_bitCount_0f7a4 46 = .ok (.iadd, 1) := by decide +kernel
theorem dJ6_bitCount_0f7a4_47 : decode cJ6_bitCount_0f7a4 47 = .ok (.istore_n 0, 1) := by decide +kernel
theorem dJ6_bitCount_0f7a4_48 : decode cJ6_bitCount_0f7a4 48 = .ok (.iload_n 0, 1) := by decide +kernel
theorem dJ6_bitCount_0f7a4_49 : decode cJ6_bitCount_0f7a4 49 = .ok (.bipush 63, 2) := by decide +kernel
theorem dJ6_bitCount_0f7a4_51 : decode cJ6_bitCount_0f7a4 51 = .ok (.iand, 1) := by decide +kernel
theorem dJ6_bitCount_0f7a4_52 : decode cJ6_bitCount_0f7a4 52 = .ok (.ireturn, 1) := by decide +kernel
theorem dL_cell_0 : decode cL_cell 0 = .ok (.iload_n 1, 1) := by decide +kernel
theorem dL_cell_1 : decode cL_cell 1 = .ok (.aload_n 0, 1) := by decide +kernel
theorem dL_cell_2 : decode cL_cell 2 = .ok (.arraylength, 1) := by decide +kernel
theorem dL_cell_3 : decode cL_cell 3 = .ok (.if_icmp .ge 9, 3) := by decide +kernel
theorem dL_cell_6 : decode cL_cell 6 = .ok (.aload_n 0, 1) := by decide +kernel
theorem dL_cell_7 : decode cL_cell 7 = .ok (.iload_n 1, 1) := by decide +kernel
theorem dL_cell_8 : decode cL_cell 8 = .ok (.iaload, 1) := by decide +kernel
theorem dL_cell_9 : decode cL_cell 9 = .ok (.goto 9, 3) := by decide +kernel
theorem dL_cell_12 : decode cL_cell 12 = .ok (.ldc 7, 2) := by decide +kernel
theorem dL_cell_14 : decode cL_cell 14 = .ok (.iload_n 1, 1) := by decide +kernel
theorem dL_cell_15 : decode cL_cell 15 = .ok (.iconst 3, 1) := by decide +kernel
theorem dL_cell_16 : decode cL_cell 16 = .ok (.iadd, 1) := by decide +kernel
theorem dL_cell_17 : decode cL_cell 17 = .ok (.imul, 1) := by decide +kernel
theorem dL_cell_18 : decode cL_cell 18 = .ok (.ireturn, 1) := by decide +kernel
theorem dL_low_0 : decode cL_low 0 = .ok (.iload_n 0, 1) := by decide +kernel
theorem dL_low_1 : decode cL_low 1 = .ok (.ldc 8, 2) := by decide +kernel
theorem dL_low_3 : decode cL_low 3 = .ok (.iand, 1) := by decide +kernel
theorem dL_low_4 : decode cL_low 4 = .ok (.iload_n 1, 1) := by decide +kernel
theorem dL_low_5 : decode cL_low 5 = .ok (.irem, 1) := by decide +kernel
theorem dL_low_6 : decode cL_low 6 = .ok (.ireturn, 1) := by decide +kernel
theorem dL_below_0 : decode cL_below 0 = .ok (.iload_n 1, 1) := by decide +kernel
theorem dL_below_1 : decode cL_below 1 = .ok (.istore_n 3, 1) := by decide +kernel
