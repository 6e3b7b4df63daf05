theorem dL_acts_896 : decode cL_acts 896 = .ok (.goto 4, 3) := by decide +kernel
theorem dL_acts_899 : decode cL_acts 899 = .ok (.iconst 0, 1) := by decide +kernel
theorem dL_acts_900 : decode cL_acts 900 = .ok (.invokestatic 56, 3) := by decide +kernel
theorem dL_acts_903 : decode cL_acts 903 = .ok (.iload 17, 2) := by decide +kernel
theorem dL_acts_905 : decode cL_acts 905 = .ok (.if_icmp .ne 7, 3) := by decide +kernel
theorem dL_acts_908 : decode cL_acts 908 = .ok (.iconst 1, 1) := by decide +kernel
theorem dL_acts_909 : decode cL_acts 909 = .ok (.goto 4, 3) := by decide +kernel
theorem dL_acts_912 : decode cL_acts 912 = .ok (.iconst 0, 1) := by decide +kernel
theorem dL_acts_913 : decode cL_acts 913 = .ok (.ireturn, 1) := by decide +kernel
theorem dL_acts_914 : decode cL_acts 914 = .ok (.aload_n 1, 1) := by decide +kernel
theorem dL_acts_915 : decode cL_acts 915 = .ok (.iconst 5, 1) := by decide +kernel
theorem dL_acts_916 : decode cL_acts 916 = .ok (.iaload, 1) := by decide +kernel
theorem dL_acts_917 : decode cL_acts 917 = .ok (.bipush 8, 2) := by decide +kernel
theorem dL_acts_919 : decode cL_acts 919 = .ok (.if_icmp .ne 23, 3) := by decide +kernel
theorem dL_acts_922 : decode cL_acts 922 = .ok (.aload_n 0, 1) := by decide +kernel
theorem dL_acts_923 : decode cL_acts 923 = .ok (.iconst 0, 1) := by decide +kernel
theorem dL_acts_924 : decode cL_acts 924 = .ok (.iconst 0, 1) := by decide +kernel
theorem dL_acts_925 : decode cL_acts 925 = .ok (.iconst 0, 1) := by decide +kernel
theorem dL_acts_926 : decode cL_acts 926 = .ok (.iconst 0, 1) := by decide +kernel
theorem dL_acts_927 : decode cL_acts 927 = .ok (.iconst 0, 1) := by decide +kernel
theorem dL_acts_928 : decode cL_acts 928 = .ok (.invokestatic 60, 3) := by decide +kernel
theorem dL_acts_931 : decode cL_acts 931 = .ok (.ldc 64, 2) := by decide +kernel
theorem dL_acts_933 : decode cL_acts 933 = .ok (.if_icmp .ne 7, 3) := by decide +kernel
theorem dL_acts_936 : decode cL_acts 936 = .ok (.iconst 1, 1) := by decide +kernel
theorem dL_acts_937 : decode cL_acts 937 = .ok (.goto 4, 3) := by decide +kernel
theorem dL_acts_940 : decode cL_acts 940 = .ok (.iconst 0, 1) := by decide +kernel
theorem dL_acts_941 : decode cL_acts 941 = .ok (.ireturn, 1) := by decide +kernel
theorem dL_acts_942 : decode cL_acts 942 = .ok (.bipush 8, 2) := by decide +kernel
theorem dL_acts_944 : decode cL_acts 944 = .ok (.aload_n 1, 1) := by decide +kernel
theorem dL_acts_945 : decode cL_acts 945 = .ok (.iconst 5, 1) := by decide +kernel
theorem dL_acts_946 : decode cL_acts 946 = .ok (.iaload, 1) := by decide +kernel
theorem dL_acts_947 : decode cL_acts 947 = .ok (.imul, 1) := by decide +kernel
theorem dL_acts_948 : decode cL_acts 948 = .ok (.istore 18, 2) := by decide +kernel
theorem dL_acts_950 : decode cL_acts 950 = .ok (.aload_n 2, 1) := by decide +kernel
theorem dL_acts_951 : decode cL_acts 951 = .ok (.iload 18, 2) := by decide +kernel
theorem dL_acts_953 : decode cL_acts 953 = .ok (.iload 6, 2) := by decide +kernel
theorem dL_acts_955 : decode cL_acts 955 = .ok (.aload_n 1, 1) := by decide +kernel
theorem dL_acts_956 : decode cL_acts 956 = .ok (.iconst 5, 1) := by decide +kernel
theorem dL_acts_957 : decode cL_acts 957 = .ok (.iaload, 1) := by decide +kernel
theorem dL_acts_958 : decode cL_acts 958 = .ok (.irem, 1) := by decide +kernel
theorem dL_acts_959 : decode cL_acts 959 = .ok (.iastore, 1) := by decide +kernel
theorem dL_acts_960 : decode cL_acts 960 = .ok (.aload_n 2, 1) := by decide +kernel
theorem dL_acts_961 : decode cL_acts 961 = .ok (.iload 18, 2) := by decide +kernel
theorem dL_acts_963 : decode cL_acts 963 = .ok (.iconst 1, 1) := by decide +kernel
theorem dL_acts_964 : decode cL_acts 964 = .ok (.iadd, 1) := by decide +kernel
theorem dL_acts_965 : decode cL_acts 965 = .ok (.iconst 1, 1) := by decide +kernel
theorem dL_acts_966 : decode cL_acts 966 = .ok (.iload 6, 2) := by decide +kernel
theorem dL_acts_968 : decode cL_acts 968 = .ok (.bipush 8, 2) := by decide +kernel
theorem dL_acts_970 : decode cL_acts 970 = .ok (.idiv, 1) := by decide +kernel
theorem dL_acts_971 : decode cL_acts 971 = .ok (.sipush 500, 3) := by decide +kernel
theorem dL_acts_974 : decode cL_acts 974 = .ok (.irem, 1) := by decide +kernel
theorem dL_acts_975 : decode cL_acts 975 = .ok (.iadd, 1) := by decide +kernel
theorem dL_acts_976 : decode cL_acts 976 = .ok (.iastore, 1) := by decide +kernel
theorem dL_acts_977 : decode cL_acts 977 = .ok (.aload_n 2, 1) := by decide +kernel
theorem dL_acts_978 : decode cL_acts 978 = .ok (.iload 18, 2) := by decide +kernel
theorem dL_acts_980 : decode cL_acts 980 = .ok (.iconst 2, 1) := by decide +kernel
theorem dL_acts_981 : decode cL_acts 981 = .ok (.iadd, 1) := by decide +kernel
theorem dL_acts_982 : decode cL_acts 982 = .ok (.iload 6, 2) := by decide +kernel
theorem dL_acts_984 : decode cL_acts 984 = .ok (.iconst 3, 1) := by decide +kernel
theorem dL_acts_985 : decode cL_acts 985 = .ok (.idiv, 1) := by decide +kernel
theorem dL_acts_986 : decode cL_acts 986 = .ok (.bipush 51, 2) := by decide +kernel
theorem dL_acts_988 : decode cL_acts 988 = .ok (.irem, 1) := by decide +kernel
theorem dL_acts_989 : decode cL_acts 989 = .ok (.iastore, 1) := by decide +kernel
theorem dL_acts_990 : decode cL_acts 990 = .ok (.aload_n 2, 1) := by decide +kernel
theorem dL_acts_991 : decode cL_acts 991 = .ok (.iload 18, 2) := by decide +kernel
theorem dL_acts_993 : decode cL_acts 993 = .ok (.iconst 3, 1) := by decide +kernel
theorem dL_acts_994 : decode cL_acts 994 = .ok (.iadd, 1) := by decide +kernel
theorem dL_acts_995 : decode cL_acts 995 = .ok (.iload 6, 2) := by decide +kernel
theorem dL_acts_997 : decode cL_acts 997 = .ok (.iconst 4, 1) := by decide +kernel
theorem dL_acts_998 : decode cL_acts 998 = .ok (.irem, 1) := by decide +kernel
theorem dL_acts_999 : decode cL_acts 999 = .ok (.ifCond .ne 7, 3) := by decide +kernel
theorem dL_acts_1002 : decode cL_acts 1002 = .ok (.iconst 0, 1) := by decide +kernel
theorem dL_acts_1003 : decode cL_acts 1003 = .ok (.goto 11, 3) := by decide +kernel
theorem dL_acts_1006 : decode cL_acts 1006 = .ok (.iload 6, 2) := by decide +kernel
theorem dL_acts_1008 : decode cL_acts 1008 = .ok (.iconst 5, 1) := by decide +kernel
theorem dL_acts_1009 : decode cL_acts 1009 = .ok (.idiv, 1) := by decide +kernel
theorem dL_acts_1010 : decode cL_acts 1010 = .ok (.sipush 501, 3) := by decide +kernel
theorem dL_acts_1013 : decode cL_acts 1013 = .ok (.irem, 1) := by decide +kernel
theorem dL_acts_1014 : decode cL_acts 1014 = .ok (.iastore, 1) := by decide +kernel
theorem dL_acts_1015 : decode cL_acts 1015 = .ok (.aload_n 2, 1) := by decide +kernel
theorem dL_acts_1016 : decode cL_acts 1016 = .ok (.iload 18, 2) := by decide +kernel
theorem dL_acts_1018 : decode cL_acts 1018 = .ok (.iconst 4, 1) := by decide +kernel
theorem dL_acts_1019 : decode cL_acts 1019 = .ok (.iadd, 1) := by decide +kernel
theorem dL_acts_1020 : decode cL_acts 1020 = .ok (.iload 6, 2) := by decide +kernel
theorem dL_acts_1022 : decode cL_acts 1022 = .ok (.bipush 7, 2) := by decide +kernel
theorem dL_acts_1024 : decode cL_acts 1024 = .ok (.idiv, 1) := by decide +kernel
theorem dL_acts_1025 : decode cL_acts 1025 = .ok (.sipush 1201, 3) := by decide +kernel
theorem dL_acts_1028 : decode cL_acts 1028 = .ok (.irem, 1) := by decide +kernel
theorem dL_acts_1029 : decode cL_acts 1029 = .ok (.iastore, 1) := by decide +kernel
theorem dL_acts_1030 : decode cL_acts 1030 = .ok (.aload_n 1, 1) := by decide +kernel
theorem dL_acts_1031 : decode cL_acts 1031 = .ok (.iconst 5, 1) := by decide +kernel
theorem dL_acts_1032 : decode cL_acts 1032 = .ok (.dup2, 1) := by decide +kernel
theorem dL_acts_1033 : decode cL_acts 1033 = .ok (.iaload, 1) := by decide +kernel
theorem dL_acts_1034 : decode cL_acts 1034 = .ok (.iconst 1, 1) := by decide +kernel
theorem dL_acts_1035 : decode cL_acts 1035 = .ok (.iadd, 1) := by decide +kernel
theorem dL_acts_1036 : decode cL_acts 1036 = .ok (.iastore, 1) := by decide +kernel
theorem dL_acts_1037 : decode cL_acts 1037 = .ok (.aload_n 0, 1) := by decide +kernel
theorem dL_acts_1038 : decode cL_acts 1038 = .ok (.aload_n 2, 1) := by decide +kernel
theorem dL_acts_1039 : decode cL_acts 1039 = .ok (.iload 18, 2) := by decide +kernel
theorem dL_acts_1041 : decode cL_acts 1041 = .ok (.iaload, 1) := by decide +kernel
theorem dL_acts_1042 : decode cL_acts 1042 = .ok (.aload_n 2, 1) := by decide +kernel
theorem dL_acts_1043 : decode cL_acts 1043 = .ok (.iload 18, 2) := by decide +kernel
theorem dL_acts_1045 : decode cL_acts 1045 = .ok (.iconst 1, 1) := by decide +kernel
theorem dL_acts_1046 : decode cL_acts 1046 = .ok (.iadd, 1) := by decide +kernel
theorem dL_acts_1047 : decode cL_acts 1047 = .ok (.iaload, 1) := by decide +kernel
theorem dL_acts_1048 : decode cL_acts 1048 = .ok (.aload_n 2, 1) := by decide +kernel
theorem dL_acts_1049 : decode cL_acts 1049 = .ok (.iload 18, 2) := by decide +kernel
theorem dL_acts_1051 : decode cL_acts 1051 = .ok (.iconst 2, 1) := by decide +kernel
theorem dL_acts_1052 : decode cL_acts 1052 = .ok (.iadd, 1) := by decide +kernel
theorem dL_acts_1053 : decode cL_acts 1053 = .ok (.iaload, 1) := by decide +kernel
theorem dL_acts_1054 : decode cL_acts 1054 = .ok (.aload_n 2, 1) := by decide +kernel
theorem dL_acts_1055 : decode cL_acts 1055 = .ok (.iload 18, 2) := by decide +kernel
theorem dL_acts_1057 : decode cL_acts 1057 = .ok (.iconst 3, 1) := by decide +kernel
theorem dL_acts_1058 : decode cL_acts 1058 = .ok (.iadd, 1) := by decide +kernel
theorem dL_acts_1059 : decode cL_acts 1059 = .ok (.iaload, 1) := by decide +kernel
theorem dL_acts_1060 : decode cL_acts 1060 = .ok (.aload_n 2, 1) := by decide +kernel
theorem dL_acts_1061 : decode cL_acts 1061 = .ok (.iload 18, 2) := by decide +kernel
theorem dL_acts_1063 : decode cL_acts 1063 = .ok (.iconst 4, 1) := by decide +kernel
theorem dL_acts_1064 : decode cL_acts 1064 = .ok (.iadd, 1) := by decide +kernel
theorem dL_acts_1065 : decode cL_acts 1065 = .ok (.iaload, 1) := by decide +kernel
theorem dL_acts_1066 : decode cL_acts 1066 = .ok (.invokestatic 60, 3) := by decide +kernel
theorem dL_acts_1069 : decode cL_acts 1069 = .ok (.aload_n 1, 1) := by decide +kernel
theorem dL_acts_1070 : decode cL_acts 1070 = .ok (.iconst 5, 1) := by decide +kernel
theorem dL_acts_1071 : decode cL_acts 1071 = .ok (.iaload, 1) := by decide +kernel
theorem dL_acts_1072 : decode cL_acts 1072 = .ok (.iconst 1, 1) := by decide +kernel
theorem dL_acts_1073 : decode cL_acts 1073 = .ok (.isub, 1) := by decide +kernel
theorem dL_acts_1074 : decode cL_acts 1074 = .ok (.if_icmp .ne 7, 3) := by decide +kernel
theorem dL_acts_1077 : decode cL_acts 1077 = .ok (.iconst 1, 1) := by decide +kernel
theorem dL_acts_1078 : decode cL_acts 1078 = .ok (.goto 4, 3) := by decide +kernel
theorem dL_acts_1081 : decode cL_acts 1081 = .ok (.iconst 0, 1) := by decide +kernel
theorem dL_acts_1082 : decode cL_acts 1082 = .ok (.ireturn, 1) := by decide +kernel
theorem dL_adds_0 : decode cL_adds 0 = .ok (.aload_n 0, 1) := by decide +kernel
theorem dL_adds_1 : decode cL_adds 1 = .ok (.iload_n 1, 1) := by decide +kernel
theorem dL_adds_2 : decode cL_adds 2 = .ok (.iload_n 2, 1) := by decide +kernel
theorem dL_adds_3 : decode cL_adds 3 = .ok (.iload_n 3, 1) := by decide +kernel
theorem dL_adds_4 : decode cL_adds 4 = .ok (.iload 4, 2) := by decide +kernel
theorem dL_adds_6 : decode cL_adds 6 = .ok (.iload 5, 2) := by decide +kernel
theorem dL_adds_8 : decode cL_adds 8 = .ok (.invokevirtual 65, 3) := by decide +kernel
theorem dL_adds_11 : decode cL_adds 11 = .ok (.ireturn, 1) := by decide +kernel
theorem dL_adds_12 : decode cL_adds 12 = .ok (.astore 6, 2) := by decide +kernel
theorem dL_adds_14 : decode cL_adds 14 = .ok (.ldc 28, 2) := by decide +kernel
theorem dL_adds_16 : decode cL_adds 16 = .ok (.ireturn, 1) := by decide +kernel
theorem dL_adds_17 : decode cL_adds 17 = .ok (.astore 6, 2) := by decide +kernel
theorem dL_adds_19 : decode cL_adds 19 = .ok (.ldc 64, 2) := by decide +kernel
theorem dL_adds_21 : decode cL_adds 21 = .ok (.ireturn, 1) := by decide +kernel
theorem dL_adds_22 : decode cL_adds 22 = .ok (.astore 6, 2) := by decide +kernel
theorem dL_adds_24 : decode cL_adds 24 = .ok (.ldc 35, 2) := by decide +kernel
theorem dL_adds_26 : decode cL_adds 26 = .ok (.ireturn, 1) := by decide +kernel
theorem dL_draws_0 : decode cL_draws 0 = .ok (.aload_n 0, 1) := by decide +kernel
theorem dL_draws_1 : decode cL_draws 1 = .ok (.iload_n 1, 1) := by decide +kernel
theorem dL_draws_2 : decode cL_draws 2 = .ok (.iload_n 2, 1) := by decide +kernel
theorem dL_draws_3 : decode cL_draws 3 = .ok (.iload_n 3, 1) := by decide +kernel
theorem dL_draws_4 : decode cL_draws 4 = .ok (.invokevirtual 77, 3) := by decide +kernel
theorem dL_draws_7 : decode cL_draws 7 = .ok (.ireturn, 1) := by decide +kernel
theorem dL_draws_8 : decode cL_draws 8 = .ok (.astore 4, 2) := by decide +kernel
theorem dL_draws_10 : decode cL_draws 10 = .ok (.ldc 28, 2) := by decide +kernel
theorem dL_draws_12 : decode cL_draws 12 = .ok (.ireturn, 1) := by decide +kernel
theorem dL_draws_13 : decode cL_draws 13 = .ok (.astore 4, 2) := by decide +kernel
theorem dL_draws_15 : decode cL_draws 15 = .ok (.ldc 64, 2) := by decide +kernel
theorem dL_draws_17 : decode cL_draws 17 = .ok (.ireturn, 1) := by decide +kernel
theorem dL_leaks_0 : decode cL_leaks 0 = .ok (.aload_n 0, 1) := by decide +kernel
theorem dL_leaks_1 : decode cL_leaks 1 = .ok (.iload_n 1, 1) := by decide +kernel
theorem dL_leaks_2 : decode cL_leaks 2 = .ok (.iload_n 2, 1) := by decide +kernel
theorem dL_leaks_3 : decode cL_leaks 3 = .ok (.invokevirtual 81, 3) := by decide +kernel
theorem dL_leaks_6 : decode cL_leaks 6 = .ok (.ireturn, 1) := by decide +kernel
theorem dL_leaks_7 : decode cL_leaks 7 = .ok (.astore_n 3, 1) := by decide +kernel
theorem dL_leaks_8 : decode cL_leaks 8 = .ok (.ldc 28, 2) := by decide +kernel
theorem dL_leaks_10 : decode cL_leaks 10 = .ok (.ireturn, 1) := by decide +kernel
theorem dL_leaks_11 : decode cL_leaks 11 = .ok (.astore_n 3, 1) := by decide +kernel
theorem dL_leaks_12 : decode cL_leaks 12 = .ok (.ldc 64, 2) := by decide +kernel
theorem dL_leaks_14 : decode cL_leaks 14 = .ok (.ireturn, 1) := by decide +kernel
theorem dL_warms_0 : decode cL_warms 0 = .ok (.aload_n 0, 1) := by decide +kernel
theorem dL_warms_1 : decode cL_warms 1 = .ok (.iload_n 1, 1) := by decide +kernel
theorem dL_warms_2 : decode cL_warms 2 = .ok (.iload_n 2, 1) := by decide +kernel
theorem dL_warms_3 : decode cL_warms 3 = .ok (.invokevirtual 84, 3) := by decide +kernel
theorem dL_warms_6 : decode cL_warms 6 = .ok (.ireturn, 1) := by decide +kernel
theorem dL_warms_7 : decode cL_warms 7 = .ok (.astore_n 3, 1) := by decide +kernel
theorem dL_warms_8 : decode cL_warms 8 = .ok (.ldc 64, 2) := by decide +kernel
theorem dL_warms_10 : decode cL_warms 10 = .ok (.ireturn, 1) := by decide +kernel
theorem dL_boilers_0 : decode cL_boilers 0 = .ok (.aload_n 0, 1) := by decide +kernel
theorem dL_boilers_1 : decode cL_boilers 1 = .ok (.iload_n 1, 1) := by decide +kernel
theorem dL_boilers_2 : decode cL_boilers 2 = .ok (.iload_n 2, 1) := by decide +kernel
theorem dL_boilers_3 : decode cL_boilers 3 = .ok (.iload_n 3, 1) := by decide +kernel
theorem dL_boilers_4 : decode cL_boilers 4 = .ok (.invokevirtual 87, 3) := by decide +kernel
theorem dL_boilers_7 : decode cL_boilers 7 = .ok (.ireturn, 1) := by decide +kernel
theorem dL_boilers_8 : decode cL_boilers 8 = .ok (.astore 4, 2) := by decide +kernel
theorem dL_boilers_10 : decode cL_boilers 10 = .ok (.ldc 64, 2) := by decide +kernel
theorem dL_boilers_12 : decode cL_boilers 12 = .ok (.ireturn, 1) := by decide +kernel
theorem dL_boilers_13 : decode cL_boilers 13 = .ok (.astore 4, 2) := by decide +kernel
theorem dL_boilers_15 : decode cL_boilers 15 = .ok (.ldc 35, 2) := by decide +kernel
theorem dL_boilers_17 : decode cL_boilers 17 = .ok (.ireturn, 1) := by decide +kernel
theorem dL_costsOf_0 : decode cL_costsOf 0 = .ok (.aload_n 0, 1) := by decide +kernel
theorem dL_costsOf_1 : decode cL_costsOf 1 = .ok (.iload_n 1, 1) := by decide +kernel
theorem dL_costsOf_2 : decode cL_costsOf 2 = .ok (.iload_n 2, 1) := by decide +kernel
theorem dL_costsOf_3 : decode cL_costsOf 3 = .ok (.invokevirtual 90, 3) := by decide +kernel
theorem dL_costsOf_6 : decode cL_costsOf 6 = .ok (.ireturn, 1) := by decide +kernel
theorem dL_costsOf_7 : decode cL_costsOf 7 = .ok (.astore_n 3, 1) := by decide +kernel
theorem dL_costsOf_8 : decode cL_costsOf 8 = .ok (.ldc 28, 2) := by decide +kernel
theorem dL_costsOf_10 : decode cL_costsOf 10 = .ok (.ireturn, 1) := by decide +kernel
theorem dL_costsOf_11 : decode cL_costsOf 11 = .ok (.astore_n 3, 1) := by decide +kernel
theorem dL_costsOf_12 : decode cL_costsOf 12 = .ok (.ldc 64, 2) := by decide +kernel
theorem dL_costsOf_14 : decode cL_costsOf 14 = .ok (.ireturn, 1) := by decide +kernel
theorem dL_tariffs_0 : decode cL_tariffs 0 = .ok (.aload_n 0, 1) := by decide +kernel
theorem dL_tariffs_1 : decode cL_tariffs 1 = .ok (.iload_n 1, 1) := by decide +kernel
theorem dL_tariffs_2 : decode cL_tariffs 2 = .ok (.iload_n 2, 1) := by decide +kernel
theorem dL_tariffs_3 : decode cL_tariffs 3 = .ok (.iload_n 3, 1) := by decide +kernel
theorem dL_tariffs_4 : decode cL_tariffs 4 = .ok (.invokevirtual 93, 3) := by decide +kernel
theorem dL_tariffs_7 : decode cL_tariffs 7 = .ok (.ireturn, 1) := by decide +kernel
theorem dL_tariffs_8 : decode cL_tariffs 8 = .ok (.astore 4, 2) := by decide +kernel
theorem dL_tariffs_10 : decode cL_tariffs 10 = .ok (.ldc 64, 2) := by decide +kernel
theorem dL_tariffs_12 : decode cL_tariffs 12 = .ok (.ireturn, 1) := by decide +kernel
theorem dL_passes_0 : decode cL_passes 0 = .ok (.aload_n 0, 1) := by decide +kernel
theorem dL_passes_1 : decode cL_passes 1 = .ok (.iload_n 1, 1) := by decide +kernel
theorem dL_passes_2 : decode cL_passes 2 = .ok (.invokevirtual 96, 3) := by decide +kernel
theorem dL_passes_5 : decode cL_passes 5 = .ok (.ireturn, 1) := by decide +kernel
theorem dL_passes_6 : decode cL_passes 6 = .ok (.astore_n 2, 1) := by decide +kernel
theorem dL_passes_7 : decode cL_passes 7 = .ok (.ldc 64, 2) := by decide +kernel
theorem dL_passes_9 : decode cL_passes 9 = .ok (.ireturn, 1) := by decide +kernel
theorem dL_passes_10 : decode cL_passes 10 = .ok (.astore_n 2, 1) := by decide +kernel
theorem dL_passes_11 : decode cL_passes 11 = .ok (.ldc 35, 2) := by decide +kernel
theorem dL_passes_13 : decode cL_passes 13 = .ok (.ireturn, 1) := by decide +kernel
theorem dL_meters_0 : decode cL_meters 0 = .ok (.aload_n 0, 1) := by decide +kernel
theorem dL_meters_1 : decode cL_meters 1 = .ok (.iload_n 1, 1) := by decide +kernel
theorem dL_meters_2 : decode cL_meters 2 = .ok (.iload_n 2, 1) := by decide +kernel
theorem dL_meters_3 : decode cL_meters 3 = .ok (.invokevirtual 100, 3) := by decide +kernel
theorem dL_meters_6 : decode cL_meters 6 = .ok (.ireturn, 1) := by decide +kernel
theorem dL_meters_7 : decode cL_meters 7 = .ok (.astore_n 3, 1) := by decide +kernel
theorem dL_meters_8 : decode cL_meters 8 = .ok (.ldc 28, 2) := by decide +kernel
theorem dL_meters_10 : decode cL_meters 10 = .ok (.ireturn, 1) := by decide +kernel
theorem dL_nodeOf_0 : decode cL_nodeOf 0 = .ok (.aload_n 0, 1) := by decide +kernel
theorem dL_nodeOf_1 : decode cL_nodeOf 1 = .ok (.iload_n 1, 1) := by decide +kernel
theorem dL_nodeOf_2 : decode cL_nodeOf 2 = .ok (.iload_n 2, 1) := by decide +kernel
theorem dL_nodeOf_3 : decode cL_nodeOf 3 = .ok (.invokevirtual 104, 3) := by decide +kernel
theorem dL_nodeOf_6 : decode cL_nodeOf 6 = .ok (.ireturn, 1) := by decide +kernel
theorem dL_nodeOf_7 : decode cL_nodeOf 7 = .ok (.astore_n 3, 1) := by decide +kernel
theorem dL_nodeOf_8 : decode cL_nodeOf 8 = .ok (.ldc 28, 2) := by decide +kernel
theorem dL_nodeOf_10 : decode cL_nodeOf 10 = .ok (.ireturn, 1) := by decide +kernel
theorem dL_nodeOf_11 : decode cL_nodeOf 11 = .ok (.astore_n 3, 1) := by decide +kernel
theorem dL_nodeOf_12 : decode cL_nodeOf 12 = .ok (.ldc 64, 2) := by decide +kernel
theorem dL_nodeOf_14 : decode cL_nodeOf 14 = .ok (.ireturn, 1) := by decide +kernel
theorem dL_heatOf_0 : decode cL_heatOf 0 = .ok (.aload_n 0, 1) := by decide +kernel
theorem dL_heatOf_1 : decode cL_heatOf 1 = .ok (.iload_n 1, 1) := by decide +kernel
theorem dL_heatOf_2 : decode cL_heatOf 2 = .ok (.iload_n 2, 1) := by decide +kernel
theorem dL_heatOf_3 : decode cL_heatOf 3 = .ok (.invokevirtual 107, 3) := by decide +kernel
theorem dL_heatOf_6 : decode cL_heatOf 6 = .ok (.ireturn, 1) := by decide +kernel
theorem dL_heatOf_7 : decode cL_heatOf 7 = .ok (.astore_n 3, 1) := by decide +kernel
theorem dL_heatOf_8 : decode cL_heatOf 8 = .ok (.ldc 28, 2) := by decide +kernel
theorem dL_heatOf_10 : decode cL_heatOf 10 = .ok (.ireturn, 1) := by decide +kernel
theorem dL_heatOf_11 : decode cL_heatOf 11 = .ok (.astore_n 3, 1) := by decide +kernel
theorem dL_heatOf_12 : decode cL_heatOf 12 = .ok (.ldc 64, 2) := by decide +kernel
theorem dL_heatOf_14 : decode cL_heatOf 14 = .ok (.ireturn, 1) := by decide +kernel
theorem dL_valueOf_0 : decode cL_valueOf 0 = .ok (.aload_n 0, 1) := by decide +kernel
theorem dL_valueOf_1 : decode cL_valueOf 1 = .ok (.iload_n 1, 1) := by decide +kernel
theorem dL_valueOf_2 : decode cL_valueOf 2 = .ok (.invokevirtual 110, 3) := by decide +kernel
theorem dL_valueOf_5 : decode cL_valueOf 5 = .ok (.ireturn, 1) := by decide +kernel
theorem dL_valueOf_6 : decode cL_valueOf 6 = .ok (.astore_n 2, 1) := by decide +kernel
theorem dL_valueOf_7 : decode cL_valueOf 7 = .ok (.ldc 64, 2) := by decide +kernel
theorem dL_valueOf_9 : decode cL_valueOf 9 = .ok (.ireturn, 1) := by decide +kernel
theorem dL_sumOf_0 : decode cL_sumOf 0 = .ok (.aload_n 0, 1) := by decide +kernel
theorem dL_sumOf_1 : decode cL_sumOf 1 = .ok (.iload_n 1, 1) := by decide +kernel
theorem dL_sumOf_2 : decode cL_sumOf 2 = .ok (.invokevirtual 113, 3) := by decide +kernel
theorem dL_sumOf_5 : decode cL_sumOf 5 = .ok (.ireturn, 1) := by decide +kernel
theorem dL_sumOf_6 : decode cL_sumOf 6 = .ok (.astore_n 2, 1) := by decide +kernel
theorem dL_sumOf_7 : decode cL_sumOf 7 = .ok (.ldc 64, 2) := by decide +kernel
theorem dL_sumOf_9 : decode cL_sumOf 9 = .ok (.ireturn, 1) := by decide +kernel
theorem dL_boilerOf_0 : decode cL_boilerOf 0 = .ok (.aload_n 0, 1) := by decide +kernel
theorem dL_boilerOf_1 : decode cL_boilerOf 1 = .ok (.iload_n 1, 1) := by decide +kernel
theorem dL_boilerOf_2 : decode cL_boilerOf 2 = .ok (.iload_n 2, 1) := by decide +kernel
theorem dL_boilerOf_3 : decode cL_boilerOf 3 = .ok (.invokevirtual 116, 3) := by decide +kernel
theorem dL_boilerOf_6 : decode cL_boilerOf 6 = .ok (.ireturn, 1) := by decide +kernel
theorem dL_boilerOf_7 : decode cL_boilerOf 7 = .ok (.astore_n 3, 1) := by decide +kernel
theorem dL_boilerOf_8 : decode cL_boilerOf 8 = .ok (.ldc 28, 2) := by decide +kernel
theorem dL_boilerOf_10 : decode cL_boilerOf 10 = .ok (.ireturn, 1) := by decide +kernel
theorem dL_boilerOf_11 : decode cL_boilerOf 11 = .ok (.astore_n 3, 1) := by decide +kernel
theorem dL_boilerOf_12 : decode cL_boilerOf 12 = .ok (.ldc 64, 2) := by decide +kernel
theorem dL_boilerOf_14 : decode cL_boilerOf 14 = .ok (.ireturn, 1) := by decide +kernel
theorem dL_isSo_0 : decode cL_isSo 0 = .ok (.aload_n 1, 1) := by decide +kernel
theorem dL_isSo_1 : decode cL_isSo 1 = .ok (.aload_n 2, 1) := by decide +kernel
theorem dL_isSo_2 : decode cL_isSo 2 = .ok (.aload_n 3, 1) := by decide +kernel
theorem dL_isSo_3 : decode cL_isSo 3 = .ok (.aload 4, 2) := by decide +kernel
theorem dL_isSo_5 : decode cL_isSo 5 = .ok (.invokestatic 48, 3) := by decide +kernel
theorem dL_isSo_8 : decode cL_isSo 8 = .ok (.iconst 0, 1) := by decide +kernel
theorem dL_isSo_9 : decode cL_isSo 9 = .ok (.istore 5, 2) := by decide +kernel
theorem dL_isSo_11 : decode cL_isSo 11 = .ok (.iconst 0, 1) := by decide +kernel
theorem dL_isSo_12 : decode cL_isSo 12 = .ok (.istore 6, 2) := by decide +kernel
theorem dL_isSo_14 : decode cL_isSo 14 = .ok (.iconst 3, 1) := by decide +kernel
theorem dL_isSo_15 : decode cL_isSo 15 = .ok (.newarray .int, 2) := by decide +kernel
theorem dL_isSo_17 : decode cL_isSo 17 = .ok (.astore 7, 2) := by decide +kernel
theorem dL_isSo_19 : decode cL_isSo 19 = .ok (.aload_n 0, 1) := by decide +kernel
theorem dL_isSo_20 : decode cL_isSo 20 = .ok (.bipush 7, 2) := by decide +kernel
theorem dL_isSo_22 : decode cL_isSo 22 = .ok (.invokestatic 119, 3) := by decide +kernel
theorem dL_isSo_25 : decode cL_isSo 25 = .ok (.aload 4, 2) := by decide +kernel
theorem dL_isSo_27 : decode cL_isSo 27 = .ok (.bipush 38, 2) := by decide +kernel
theorem dL_isSo_29 : decode cL_isSo 29 = .ok (.iaload, 1) := by decide +kernel
theorem dL_isSo_30 : decode cL_isSo 30 = .ok (.if_icmp .ne 75, 3) := by decide +kernel
theorem dL_isSo_33 : decode cL_isSo 33 = .ok (.aload_n 0, 1) := by decide +kernel
theorem dL_isSo_34 : decode cL_isSo 34 = .ok (.bipush 8, 2) := by decide +kernel
theorem dL_isSo_36 : decode cL_isSo 36 = .ok (.invokestatic 119, 3) := by decide +kernel
theorem dL_isSo_39 : decode cL_isSo 39 = .ok (.aload 4, 2) := by decide +kernel
theorem dL_isSo_41 : decode cL_isSo 41 = .ok (.bipush 36, 2) := by decide +kernel
theorem dL_isSo_43 : decode cL_isSo 43 = .ok (.iaload, 1) := by decide +kernel
theorem dL_isSo_44 : decode cL_isSo 44 = .ok (.if_icmp .ne 61, 3) := by decide +kernel
theorem dL_isSo_47 : decode cL_isSo 47 = .ok (.aload_n 0, 1) := by decide +kernel
theorem dL_isSo_48 : decode cL_isSo 48 = .ok (.bipush 9, 2) := by decide +kernel
theorem dL_isSo_50 : decode cL_isSo 50 = .ok (.invokestatic 119, 3) := by decide +kernel
theorem dL_isSo_53 : decode cL_isSo 53 = .ok (.aload 4, 2) := by decide +kernel
theorem dL_isSo_55 : decode cL_isSo 55 = .ok (.bipush 37, 2) := by decide +kernel
theorem dL_isSo_57 : decode cL_isSo 57 = .ok (.iaload, 1) := by decide +kernel
theorem dL_isSo_58 : decode cL_isSo 58 = .ok (.if_icmp .ne 47, 3) := by decide +kernel
theorem dL_isSo_61 : decode cL_isSo 61 = .ok (.aload_n 0, 1) := by decide +kernel
theorem dL_isSo_62 : decode cL_isSo 62 = .ok (.bipush 10, 2) := by decide +kernel
theorem dL_isSo_64 : decode cL_isSo 64 = .ok (.invokestatic 119, 3) := by decide +kernel
theorem dL_isSo_67 : decode cL_isSo 67 = .ok (.aload_n 1, 1) := by decide +kernel
theorem dL_isSo_68 : decode cL_isSo 68 = .ok (.bipush 7, 2) := by decide +kernel
theorem dL_isSo_70 : decode cL_isSo 70 = .ok (.iaload, 1) := by decide +kernel
theorem dL_isSo_71 : decode cL_isSo 71 = .ok (.if_icmp .ne 34, 3) := by decide +kernel
theorem dL_isSo_74 : decode cL_isSo 74 = .ok (.aload_n 0, 1) := by decide +kernel
theorem dL_isSo_75 : decode cL_isSo 75 = .ok (.bipush 11, 2) := by decide +kernel
theorem dL_isSo_77 : decode cL_isSo 77 = .ok (.invokestatic 119, 3) := by decide +kernel
theorem dL_isSo_80 : decode cL_isSo 80 = .ok (.aload_n 1, 1) := by decide +kernel
theorem dL_isSo_81 : decode cL_isSo 81 = .ok (.bipush 8, 2) := by decide +kernel
theorem dL_isSo_83 : decode cL_isSo 83 = .ok (.iaload, 1) := by decide +kernel
theorem dL_isSo_84 : decode cL_isSo 84 = .ok (.if_icmp .ne 21, 3) := by decide +kernel
theorem dL_isSo_87 : decode cL_isSo 87 = .ok (.aload_n 0, 1) := by decide +kernel
theorem dL_isSo_88 : decode cL_isSo 88 = .ok (.bipush 13, 2) := by decide +kernel
theorem dL_isSo_90 : decode cL_isSo 90 = .ok (.invokestatic 119, 3) := by decide +kernel
theorem dL_isSo_93 : decode cL_isSo 93 = .ok (.aload 4, 2) := by decide +kernel
theorem dL_isSo_95 : decode cL_isSo 95 = .ok (.bipush 24, 2) := by decide +kernel
theorem dL_isSo_97 : decode cL_isSo 97 = .ok (.iaload, 1) := by decide +kernel
theorem dL_isSo_98 : decode cL_isSo 98 = .ok (.if_icmp .ne 7, 3) := by decide +kernel
theorem dL_isSo_101 : decode cL_isSo 101 = .ok (.iconst 1, 1) := by decide +kernel
theorem dL_isSo_102 : decode cL_isSo 102 = .ok (.goto 4, 3) := by decide +kernel
theorem dL_isSo_105 : decode cL_isSo 105 = .ok (.iconst 0, 1) := by decide +kernel
theorem dL_isSo_106 : decode cL_isSo 106 = .ok (.istore 8, 2) := by decide +kernel
theorem dL_isSo_108 : decode cL_isSo 108 = .ok (.iconst 0, 1) := by decide +kernel
theorem dL_isSo_109 : decode cL_isSo 109 = .ok (.istore 9, 2) := by decide +kernel
theorem dL_isSo_111 : decode cL_isSo 111 = .ok (.iload 9, 2) := by decide +kernel
theorem dL_isSo_113 : decode cL_isSo 113 = .ok (.bipush 7, 2) := by decide +kernel
theorem dL_isSo_115 : decode cL_isSo 115 = .ok (.if_icmp .ge 34, 3) := by decide +kernel
theorem dL_isSo_118 : decode cL_isSo 118 = .ok (.iload 8, 2) := by decide +kernel
theorem dL_isSo_120 : decode cL_isSo 120 = .ok (.ifCond .eq 20, 3) := by decide +kernel
theorem dL_isSo_123 : decode cL_isSo 123 = .ok (.aload_n 0, 1) := by decide +kernel
theorem dL_isSo_124 : decode cL_isSo 124 = .ok (.iload 9, 2) := by decide +kernel
theorem dL_isSo_126 : decode cL_isSo 126 = .ok (.invokestatic 119, 3) := by decide +kernel
theorem dL_isSo_129 : decode cL_isSo 129 = .ok (.aload_n 1, 1) := by decide +kernel
theorem dL_isSo_130 : decode cL_isSo 130 = .ok (.iload 9, 2) := by decide +kernel
theorem dL_isSo_132 : decode cL_isSo 132 = .ok (.iaload, 1) := by decide +kernel
theorem dL_isSo_133 : decode cL_isSo 133 = .ok (.if_icmp .ne 7, 3) := by decide +kernel
theorem dL_isSo_136 : decode cL_isSo 136 = .ok (.iconst 1, 1) := by decide +kernel
theorem dL_isSo_137 : decode cL_isSo 137 = .ok (.goto 4, 3) := by decide +kernel
theorem dL_isSo_140 : decode cL_isSo 140 = .ok (.iconst 0, 1) := by decide +kernel
theorem dL_isSo_141 : decode cL_isSo 141 = .ok (.istore 8, 2) := by decide +kernel
theorem dL_isSo_143 : decode cL_isSo 143 = .ok (.iinc 9 1, 3) := by decide +kernel
theorem dL_isSo_146 : decode cL_isSo 146 = .ok (.goto (-35), 3) := by decide +kernel
theorem dL_isSo_149 : decode cL_isSo 149 = .ok (.iconst 0, 1) := by decide +kernel
theorem dL_isSo_150 : decode cL_isSo 150 = .ok (.istore 9, 2) := by decide +kernel
theorem dL_isSo_152 : decode cL_isSo 152 = .ok (.iload 9, 2) := by decide +kernel
theorem dL_isSo_154 : decode cL_isSo 154 = .ok (.aload_n 1, 1) := by decide +kernel
theorem dL_isSo_155 : decode cL_isSo 155 = .ok (.iconst 5, 1) := by decide +kernel
theorem dL_isSo_156 : decode cL_isSo 156 = .ok (.iaload, 1) := by decide +kernel
theorem dL_isSo_157 : decode cL_isSo 157 = .ok (.if_icmp .ge 548, 3) := by decide +kernel
theorem dL_isSo_160 : decode cL_isSo 160 = .ok (.iload 8, 2) := by decide +kernel
theorem dL_isSo_162 : decode cL_isSo 162 = .ok (.ifCond .eq 543, 3) := by decide +kernel
theorem dL_isSo_165 : decode cL_isSo 165 = .ok (.iconst 0, 1) := by decide +kernel
theorem dL_isSo_166 : decode cL_isSo 166 = .ok (.istore 10, 2) := by decide +kernel
theorem dL_isSo_168 : decode cL_isSo 168 = .ok (.iconst 0, 1) := by decide +kernel
theorem dL_isSo_169 : decode cL_isSo 169 = .ok (.istore 11, 2) := by decide +kernel
theorem dL_isSo_171 : decode cL_isSo 171 = .ok (.iconst 0, 1) := by decide +kernel
theorem dL_isSo_172 : decode cL_isSo 172 = .ok (.istore 12, 2) := by decide +kernel
theorem dL_isSo_174 : decode cL_isSo 174 = .ok (.iload 12, 2) := by decide +kernel
theorem dL_isSo_176 : decode cL_isSo 176 = .ok (.aload_n 1, 1) := by decide +kernel
theorem dL_isSo_177 : decode cL_isSo 177 = .ok (.iconst 5, 1) := by decide +kernel
theorem dL_isSo_178 : decode cL_isSo 178 = .ok (.iaload, 1) := by decide +kernel
theorem dL_isSo_179 : decode cL_isSo 179 = .ok (.if_icmp .ge 57, 3) := by decide +kernel
theorem dL_isSo_182 : decode cL_isSo 182 = .ok (.iload 10, 2) := by decide +kernel
theorem dL_isSo_184 : decode cL_isSo 184 = .ok (.iload 12, 2) := by decide +kernel
theorem dL_isSo_186 : decode cL_isSo 186 = .ok (.ifCond .le 19, 3) := by decide +kernel
theorem dL_isSo_189 : decode cL_isSo 189 = .ok (.aload_n 2, 1) := by decide +kernel
theorem dL_isSo_190 : decode cL_isSo 190 = .ok (.bipush 8, 2) := by decide +kernel
theorem dL_isSo_192 : decode cL_isSo 192 = .ok (.iload 12, 2) := by decide +kernel
theorem dL_isSo_194 : decode cL_isSo 194 = .ok (.imul, 1) := by decide +kernel
theorem dL_isSo_195 : decode cL_isSo 195 = .ok (.iaload, 1) := by decide +kernel
theorem dL_isSo_196 : decode cL_isSo 196 = .ok (.iload 9, 2) := by decide +kernel
theorem dL_isSo_198 : decode cL_isSo 198 = .ok (.if_icmp .ne 7, 3) := by decide +kernel
theorem dL_isSo_201 : decode cL_isSo 201 = .ok (.iconst 1, 1) := by decide +kernel
theorem dL_isSo_202 : decode cL_isSo 202 = .ok (.goto 4, 3) := by decide +kernel
theorem dL_isSo_205 : decode cL_isSo 205 = .ok (.iconst 0, 1) := by decide +kernel
theorem dL_isSo_206 : decode cL_isSo 206 = .ok (.iadd, 1) := by decide +kernel
theorem dL_isSo_207 : decode cL_isSo 207 = .ok (.istore 10, 2) := by decide +kernel
theorem dL_isSo_209 : decode cL_isSo 209 = .ok (.iload 11, 2) := by decide +kernel
theorem dL_isSo_211 : decode cL_isSo 211 = .ok (.aload_n 2, 1) := by decide +kernel
theorem dL_isSo_212 : decode cL_isSo 212 = .ok (.iload 12, 2) := by decide +kernel
theorem dL_isSo_214 : decode cL_isSo 214 = .ok (.iload 9, 2) := by decide +kernel
theorem dL_isSo_216 : decode cL_isSo 216 = .ok (.invokestatic 9, 3) := by decide +kernel
theorem dL_isSo_219 : decode cL_isSo 219 = .ok (.ifCond .eq 7, 3) := by decide +kernel
theorem dL_isSo_222 : decode cL_isSo 222 = .ok (.iconst 1, 1) := by decide +kernel
theorem dL_isSo_223 : decode cL_isSo 223 = .ok (.goto 4, 3) := by decide +kernel
theorem dL_isSo_226 : decode cL_isSo 226 = .ok (.iconst 0, 1) := by decide +kernel
theorem dL_isSo_227 : decode cL_isSo 227 = .ok (.iadd, 1) := by decide +kernel
theorem dL_isSo_228 : decode cL_isSo 228 = .ok (.istore 11, 2) := by decide +kernel
theorem dL_isSo_230 : decode cL_isSo 230 = .ok (.iinc 12 1, 3) := by decide +kernel
theorem dL_isSo_233 : decode cL_isSo 233 = .ok (.goto (-59), 3) := by decide +kernel
theorem dL_isSo_236 : decode cL_isSo 236 = .ok (.aload_n 0, 1) := by decide +kernel
theorem dL_isSo_237 : decode cL_isSo 237 = .ok (.iload 9, 2) := by decide +kernel
theorem dL_isSo_239 : decode cL_isSo 239 = .ok (.iconst 0, 1) := by decide +kernel
theorem dL_isSo_240 : decode cL_isSo 240 = .ok (.invokestatic 122, 3) := by decide +kernel
theorem dL_isSo_243 : decode cL_isSo 243 = .ok (.iload 9, 2) := by decide +kernel
theorem dL_isSo_245 : decode cL_isSo 245 = .ok (.ifCond .ne 7, 3) := by decide +kernel
theorem dL_isSo_248 : decode cL_isSo 248 = .ok (.iconst (-1), 1) := by decide +kernel
theorem dL_isSo_249 : decode cL_isSo 249 = .ok (.goto 10, 3) := by decide +kernel
theorem dL_isSo_252 : decode cL_isSo 252 = .ok (.aload_n 2, 1) := by decide +kernel
theorem dL_isSo_253 : decode cL_isSo 253 = .ok (.bipush 8, 2) := by decide +kernel
theorem dL_isSo_255 : decode cL_isSo 255 = .ok (.iload 9, 2) := by decide +kernel
theorem dL_isSo_257 : decode cL_isSo 257 = .ok (.imul, 1) := by decide +kernel
theorem dL_isSo_258 : decode cL_isSo 258 = .ok (.iaload, 1) := by decide +kernel
theorem dL_isSo_259 : decode cL_isSo 259 = .ok (.if_icmp .ne 117, 3) := by decide +kernel
theorem dL_isSo_262 : decode cL_isSo 262 = .ok (.aload_n 0, 1) := by decide +kernel
theorem dL_isSo_263 : decode cL_isSo 263 = .ok (.iload 9, 2) := by decide +kernel
theorem dL_isSo_265 : decode cL_isSo 265 = .ok (.bipush 6, 2) := by decide +kernel
theorem dL_isSo_267 : decode cL_isSo 267 = .ok (.invokestatic 122, 3) := by decide +kernel
theorem dL_isSo_270 : decode cL_isSo 270 = .ok (.aload 4, 2) := by decide +kernel
theorem dL_isSo_272 : decode cL_isSo 272 = .ok (.iload 9, 2) := by decide +kernel
theorem dL_isSo_274 : decode cL_isSo 274 = .ok (.iaload, 1) := by decide +kernel
theorem dL_isSo_275 : decode cL_isSo 275 = .ok (.if_icmp .ne 101, 3) := by decide +kernel
theorem dL_isSo_278 : decode cL_isSo 278 = .ok (.aload_n 0, 1) := by decide +kernel
theorem dL_isSo_279 : decode cL_isSo 279 = .ok (.iload 9, 2) := by decide +kernel
theorem dL_isSo_281 : decode cL_isSo 281 = .ok (.bipush 7, 2) := by decide +kernel
theorem dL_isSo_283 : decode cL_isSo 283 = .ok (.invokestatic 122, 3) := by decide +kernel
theorem dL_isSo_286 : decode cL_isSo 286 = .ok (.aload 4, 2) := by decide +kernel
theorem dL_isSo_288 : decode cL_isSo 288 = .ok (.bipush 8, 2) := by decide +kernel
theorem dL_isSo_290 : decode cL_isSo 290 = .ok (.iload 9, 2) := by decide +kernel
theorem dL_isSo_292 : decode cL_isSo 292 = .ok (.iadd, 1) := by decide +kernel
theorem dL_isSo_293 : decode cL_isSo 293 = .ok (.iaload, 1) := by decide +kernel
theorem dL_isSo_294 : decode cL_isSo 294 = .ok (.if_icmp .ne 82, 3) := by decide +kernel
theorem dL_isSo_297 : decode cL_isSo 297 = .ok (.aload_n 0, 1) := by decide +kernel
theorem dL_isSo_298 : decode cL_isSo 298 = .ok (.iload 9, 2) := by decide +kernel
theorem dL_isSo_300 : decode cL_isSo 300 = .ok (.bipush 8, 2) := by decide +kernel
theorem dL_isSo_302 : decode cL_isSo 302 = .ok (.invokestatic 122, 3) := by decide +kernel
theorem dL_isSo_305 : decode cL_isSo 305 = .ok (.iload 9, 2) := by decide +kernel
theorem dL_isSo_307 : decode cL_isSo 307 = .ok (.ifCond .ne 7, 3) := by decide +kernel
theorem dL_isSo_310 : decode cL_isSo 310 = .ok (.iconst (-1), 1) := by decide +kernel
theorem dL_isSo_311 : decode cL_isSo 311 = .ok (.goto 11, 3) := by decide +kernel
theorem dL_isSo_314 : decode cL_isSo 314 = .ok (.aload 4, 2) := by decide +kernel
theorem dL_isSo_316 : decode cL_isSo 316 = .ok (.bipush 16, 2) := by decide +kernel
theorem dL_isSo_318 : decode cL_isSo 318 = .ok (.iload 9, 2) := by decide +kernel
theorem dL_isSo_320 : decode cL_isSo 320 = .ok (.iadd, 1) := by decide +kernel
theorem dL_isSo_321 : decode cL_isSo 321 = .ok (.iaload, 1) := by decide +kernel
theorem dL_isSo_322 : decode cL_isSo 322 = .ok (.if_icmp .ne 54, 3) := by decide +kernel
theorem dL_isSo_325 : decode cL_isSo 325 = .ok (.aload_n 0, 1) := by decide +kernel
theorem dL_isSo_326 : decode cL_isSo 326 = .ok (.iload 9, 2) := by decide +kernel
theorem dL_isSo_328 : decode cL_isSo 328 = .ok (.bipush 9, 2) := by decide +kernel
theorem dL_isSo_330 : decode cL_isSo 330 = .ok (.invokestatic 122, 3) := by decide +kernel
theorem dL_isSo_333 : decode cL_isSo 333 = .ok (.iload 10, 2) := by decide +kernel
theorem dL_isSo_335 : decode cL_isSo 335 = .ok (.if_icmp .ne 41, 3) := by decide +kernel
theorem dL_isSo_338 : decode cL_isSo 338 = .ok (.aload_n 0, 1) := by decide +kernel
theorem dL_isSo_339 : decode cL_isSo 339 = .ok (.iload 9, 2) := by decide +kernel
theorem dL_isSo_341 : decode cL_isSo 341 = .ok (.bipush 10, 2) := by decide +kernel
theorem dL_isSo_343 : decode cL_isSo 343 = .ok (.invokestatic 122, 3) := by decide +kernel
theorem dL_isSo_346 : decode cL_isSo 346 = .ok (.iload 11, 2) := by decide +kernel
theorem dL_isSo_348 : decode cL_isSo 348 = .ok (.if_icmp .ne 28, 3) := by decide +kernel
theorem dL_isSo_351 : decode cL_isSo 351 = .ok (.aload_n 0, 1) := by decide +kernel
theorem dL_isSo_352 : decode cL_isSo 352 = .ok (.iload 9, 2) := by decide +kernel
theorem dL_isSo_354 : decode cL_isSo 354 = .ok (.bipush 11, 2) := by decide +kernel
theorem dL_isSo_356 : decode cL_isSo 356 = .ok (.invokestatic 122, 3) := by decide +kernel
theorem dL_isSo_359 : decode cL_isSo 359 = .ok (.aload_n 2, 1) := by decide +kernel
theorem dL_isSo_360 : decode cL_isSo 360 = .ok (.bipush 8, 2) := by decide +kernel
theorem dL_isSo_362 : decode cL_isSo 362 = .ok (.iload 9, 2) := by decide +kernel
theorem dL_isSo_364 : decode cL_isSo 364 = .ok (.imul, 1) := by decide +kernel
theorem dL_isSo_365 : decode cL_isSo 365 = .ok (.bipush 7, 2) := by decide +kernel
theorem dL_isSo_367 : decode cL_isSo 367 = .ok (.iadd, 1) := by decide +kernel
theorem dL_isSo_368 : decode cL_isSo 368 = .ok (.iaload, 1) := by decide +kernel
theorem dL_isSo_369 : decode cL_isSo 369 = .ok (.if_icmp .ne 7, 3) := by decide +kernel
theorem dL_isSo_372 : decode cL_isSo 372 = .ok (.iconst 1, 1) := by decide +kernel
theorem dL_isSo_373 : decode cL_isSo 373 = .ok (.goto 4, 3) := by decide +kernel
theorem dL_isSo_376 : decode cL_isSo 376 = .ok (.iconst 0, 1) := by decide +kernel
theorem dL_isSo_377 : decode cL_isSo 377 = .ok (.istore 8, 2) := by decide +kernel
theorem dL_isSo_379 : decode cL_isSo 379 = .ok (.iconst 1, 1) := by decide +kernel
theorem dL_isSo_380 : decode cL_isSo 380 = .ok (.istore 12, 2) := by decide +kernel
theorem dL_isSo_382 : decode cL_isSo 382 = .ok (.iload 12, 2) := by decide +kernel
theorem dL_isSo_384 : decode cL_isSo 384 = .ok (.bipush 6, 2) := by decide +kernel
theorem dL_isSo_386 : decode cL_isSo 386 = .ok (.if_icmp .ge 42, 3) := by decide +kernel
theorem dL_isSo_389 : decode cL_isSo 389 = .ok (.iload 8, 2) := by decide +kernel
theorem dL_isSo_391 : decode cL_isSo 391 = .ok (.ifCond .eq 28, 3) := by decide +kernel
theorem dL_isSo_394 : decode cL_isSo 394 = .ok (.aload_n 0, 1) := by decide +kernel
theorem dL_isSo_395 : decode cL_isSo 395 = .ok (.iload 9, 2) := by decide +kernel
theorem dL_isSo_397 : decode cL_isSo 397 = .ok (.iload 12, 2) := by decide +kernel
theorem dL_isSo_399 : decode cL_isSo 399 = .ok (.invokestatic 122, 3) := by decide +kernel
theorem dL_isSo_402 : decode cL_isSo 402 = .ok (.aload_n 2, 1) := by decide +kernel
theorem dL_isSo_403 : decode cL_isSo 403 = .ok (.bipush 8, 2) := by decide +kernel
theorem dL_isSo_405 : decode cL_isSo 405 = .ok (.iload 9, 2) := by decide +kernel
theorem dL_isSo_407 : decode cL_isSo 407 = .ok (.imul, 1) := by decide +kernel
theorem dL_isSo_408 : decode cL_isSo 408 = .ok (.iload 12, 2) := by decide +kernel
theorem dL_isSo_410 : decode cL_isSo 410 = .ok (.iadd, 1) := by decide +kernel
theorem dL_isSo_411 : decode cL_isSo 411 = .ok (.iaload, 1) := by decide +kernel
theorem dL_isSo_412 : decode cL_isSo 412 = .ok (.if_icmp .ne 7, 3) := by decide +kernel
theorem dL_isSo_415 : decode cL_isSo 415 = .ok (.iconst 1, 1) := by decide +kernel
theorem dL_isSo_416 : decode cL_isSo 416 = .ok (.goto 4, 3) := by decide +kernel
theorem dL_isSo_419 : decode cL_isSo 419 = .ok (.iconst 0, 1) := by decide +kernel
theorem dL_isSo_420 : decode cL_isSo 420 = .ok (.istore 8, 2) := by decide +kernel
theorem dL_isSo_422 : decode cL_isSo 422 = .ok (.iinc 12 1, 3) := by decide +kernel
theorem dL_isSo_425 : decode cL_isSo 425 = .ok (.goto (-43), 3) := by decide +kernel
theorem dL_isSo_428 : decode cL_isSo 428 = .ok (.iload 9, 2) := by decide +kernel
theorem dL_isSo_430 : decode cL_isSo 430 = .ok (.ifCond .le 269, 3) := by decide +kernel
theorem dL_isSo_433 : decode cL_isSo 433 = .ok (.aload 4, 2) := by decide +kernel
theorem dL_isSo_435 : decode cL_isSo 435 = .ok (.bipush 8, 2) := by decide +kernel
theorem dL_isSo_437 : decode cL_isSo 437 = .ok (.aload_n 2, 1) := by decide +kernel
theorem dL_isSo_438 : decode cL_isSo 438 = .ok (.bipush 8, 2) := by decide +kernel
theorem dL_isSo_440 : decode cL_isSo 440 = .ok (.iload 9, 2) := by decide +kernel
theorem dL_isSo_442 : decode cL_isSo 442 = .ok (.imul, 1) := by decide +kernel
theorem dL_isSo_443 : decode cL_isSo 443 = .ok (.iaload, 1) := by decide +kernel
theorem dL_isSo_444 : decode cL_isSo 444 = .ok (.iadd, 1) := by decide +kernel
theorem dL_isSo_445 : decode cL_isSo 445 = .ok (.iaload, 1) := by decide +kernel
theorem dL_isSo_446 : decode cL_isSo 446 = .ok (.istore 12, 2) := by decide +kernel
theorem dL_isSo_448 : decode cL_isSo 448 = .ok (.aload_n 2, 1) := by decide +kernel
theorem dL_isSo_449 : decode cL_isSo 449 = .ok (.bipush 8, 2) := by decide +kernel
theorem dL_isSo_451 : decode cL_isSo 451 = .ok (.iload 9, 2) := by decide +kernel
theorem dL_isSo_453 : decode cL_isSo 453 = .ok (.imul, 1) := by decide +kernel
theorem dL_isSo_454 : decode cL_isSo 454 = .ok (.iconst 3, 1) := by decide +kernel
theorem dL_isSo_455 : decode cL_isSo 455 = .ok (.iadd, 1) := by decide +kernel
theorem dL_isSo_456 : decode cL_isSo 456 = .ok (.iaload, 1) := by decide +kernel
theorem dL_isSo_457 : decode cL_isSo 457 = .ok (.aload 4, 2) := by decide +kernel
theorem dL_isSo_459 : decode cL_isSo 459 = .ok (.bipush 8, 2) := by decide +kernel
theorem dL_isSo_461 : decode cL_isSo 461 = .ok (.iload 9, 2) := by decide +kernel
theorem dL_isSo_463 : decode cL_isSo 463 = .ok (.iadd, 1) := by decide +kernel
theorem dL_isSo_464 : decode cL_isSo 464 = .ok (.iaload, 1) := by decide +kernel
theorem dL_isSo_465 : decode cL_isSo 465 = .ok (.aload 4, 2) := by decide +kernel
theorem dL_isSo_467 : decode cL_isSo 467 = .ok (.bipush 16, 2) := by decide +kernel
theorem dL_isSo_469 : decode cL_isSo 469 = .ok (.iload 9, 2) := by decide +kernel
theorem dL_isSo_471 : decode cL_isSo 471 = .ok (.iadd, 1) := by decide +kernel
theorem dL_isSo_472 : decode cL_isSo 472 = .ok (.iaload, 1) := by decide +kernel
theorem dL_isSo_473 : decode cL_isSo 473 = .ok (.isub, 1) := by decide +kernel
theorem dL_isSo_474 : decode cL_isSo 474 = .ok (.imul, 1) := by decide +kernel
theorem dL_isSo_475 : decode cL_isSo 475 = .ok (.istore 13, 2) := by decide +kernel
theorem dL_isSo_477 : decode cL_isSo 477 = .ok (.iload 8, 2) := by decide +kernel
theorem dL_isSo_479 : decode cL_isSo 479 = .ok (.ifCond .eq 129, 3) := by decide +kernel
theorem dL_isSo_482 : decode cL_isSo 482 = .ok (.aload_n 0, 1) := by decide +kernel
theorem dL_isSo_483 : decode cL_isSo 483 = .ok (.iload 9, 2) := by decide +kernel
theorem dL_isSo_485 : decode cL_isSo 485 = .ok (.iconst 0, 1) := by decide +kernel
theorem dL_isSo_486 : decode cL_isSo 486 = .ok (.invokestatic 125, 3) := by decide +kernel
theorem dL_isSo_489 : decode cL_isSo 489 = .ok (.iload 13, 2) := by decide +kernel
theorem dL_isSo_491 : decode cL_isSo 491 = .ok (.if_icmp .ne 117, 3) := by decide +kernel
theorem dL_isSo_494 : decode cL_isSo 494 = .ok (.aload_n 0, 1) := by decide +kernel
theorem dL_isSo_495 : decode cL_isSo 495 = .ok (.iload 9, 2) := by decide +kernel
theorem dL_isSo_497 : decode cL_isSo 497 = .ok (.iconst 1, 1) := by decide +kernel
theorem dL_isSo_498 : decode cL_isSo 498 = .ok (.invokestatic 125, 3) := by decide +kernel
theorem dL_isSo_501 : decode cL_isSo 501 = .ok (.aload 4, 2) := by decide +kernel
theorem dL_isSo_503 : decode cL_isSo 503 = .ok (.iload 9, 2) := by decide +kernel
theorem dL_isSo_505 : decode cL_isSo 505 = .ok (.iaload, 1) := by decide +kernel
theorem dL_isSo_506 : decode cL_isSo 506 = .ok (.iload 12, 2) := by decide +kernel
theorem dL_isSo_508 : decode cL_isSo 508 = .ok (.aload 4, 2) := by decide +kernel
theorem dL_isSo_510 : decode cL_isSo 510 = .ok (.bipush 8, 2) := by decide +kernel
theorem dL_isSo_512 : decode cL_isSo 512 = .ok (.iload 9, 2) := by decide +kernel
theorem dL_isSo_514 : decode cL_isSo 514 = .ok (.iadd, 1) := by decide +kernel
theorem dL_isSo_515 : decode cL_isSo 515 = .ok (.iaload, 1) := by decide +kernel
theorem dL_isSo_516 : decode cL_isSo 516 = .ok (.isub, 1) := by decide +kernel
theorem dL_isSo_517 : decode cL_isSo 517 = .ok (.imul, 1) := by decide +kernel
theorem dL_isSo_518 : decode cL_isSo 518 = .ok (.if_icmp .ne 90, 3) := by decide +kernel
theorem dL_isSo_521 : decode cL_isSo 521 = .ok (.aload_n 0, 1) := by decide +kernel
theorem dL_isSo_522 : decode cL_isSo 522 = .ok (.iload 9, 2) := by decide +kernel
theorem dL_isSo_524 : decode cL_isSo 524 = .ok (.iconst 2, 1) := by decide +kernel
theorem dL_isSo_525 : decode cL_isSo 525 = .ok (.invokestatic 125, 3) := by decide +kernel
theorem dL_isSo_528 : decode cL_isSo 528 = .ok (.aload_n 2, 1) := by decide +kernel
theorem dL_isSo_529 : decode cL_isSo 529 = .ok (.bipush 8, 2) := by decide +kernel
theorem dL_isSo_531 : decode cL_isSo 531 = .ok (.iload 9, 2) := by decide +kernel
theorem dL_isSo_533 : decode cL_isSo 533 = .ok (.imul, 1) := by decide +kernel
theorem dL_isSo_534 : decode cL_isSo 534 = .ok (.iconst 5, 1) := by decide +kernel
theorem dL_isSo_535 : decode cL_isSo 535 = .ok (.iadd, 1) := by decide +kernel
theorem dL_isSo_536 : decode cL_isSo 536 = .ok (.iaload, 1) := by decide +kernel
theorem dL_isSo_537 : decode cL_isSo 537 = .ok (.aload 4, 2) := by decide +kernel
theorem dL_isSo_539 : decode cL_isSo 539 = .ok (.bipush 8, 2) := by decide +kernel
theorem dL_isSo_541 : decode cL_isSo 541 = .ok (.iload 9, 2) := by decide +kernel
theorem dL_isSo_543 : decode cL_isSo 543 = .ok (.iadd, 1) := by decide +kernel
theorem dL_isSo_544 : decode cL_isSo 544 = .ok (.iaload, 1) := by decide +kernel
theorem dL_isSo_545 : decode cL_isSo 545 = .ok (.imul, 1) := by decide +kernel
theorem dL_isSo_546 : decode cL_isSo 546 = .ok (.if_icmp .ne 62, 3) := by decide +kernel
theorem dL_isSo_549 : decode cL_isSo 549 = .ok (.aload_n 0, 1) := by decide +kernel
theorem dL_isSo_550 : decode cL_isSo 550 = .ok (.iload 9, 2) := by decide +kernel
theorem dL_isSo_552 : decode cL_isSo 552 = .ok (.iconst 3, 1) := by decide +kernel
theorem dL_isSo_553 : decode cL_isSo 553 = .ok (.invokestatic 125, 3) := by decide +kernel
theorem dL_isSo_556 : decode cL_isSo 556 = .ok (.aload 4, 2) := by decide +kernel
theorem dL_isSo_558 : decode cL_isSo 558 = .ok (.bipush 24, 2) := by decide +kernel
theorem dL_isSo_560 : decode cL_isSo 560 = .ok (.iload 9, 2) := by decide +kernel
theorem dL_isSo_562 : decode cL_isSo 562 = .ok (.iadd, 1) := by decide +kernel
theorem dL_isSo_563 : decode cL_isSo 563 = .ok (.iaload, 1) := by decide +kernel
theorem dL_isSo_564 : decode cL_isSo 564 = .ok (.if_icmp .ne 44, 3) := by decide +kernel
theorem dL_isSo_567 : decode cL_isSo 567 = .ok (.aload_n 0, 1) := by decide +kernel
theorem dL_isSo_568 : decode cL_isSo 568 = .ok (.iload 9, 2) := by decide +kernel
theorem dL_isSo_570 : decode cL_isSo 570 = .ok (.iconst 4, 1) := by decide +kernel
theorem dL_isSo_571 : decode cL_isSo 571 = .ok (.invokestatic 125, 3) := by decide +kernel
theorem dL_isSo_574 : decode cL_isSo 574 = .ok (.aload 4, 2) := by decide +kernel
theorem dL_isSo_576 : decode cL_isSo 576 = .ok (.iload 9, 2) := by decide +kernel
theorem dL_isSo_578 : decode cL_isSo 578 = .ok (.iaload, 1) := by decide +kernel
theorem dL_isSo_579 : decode cL_isSo 579 = .ok (.iload 12, 2) := by decide +kernel
theorem dL_isSo_581 : decode cL_isSo 581 = .ok (.imul, 1) := by decide +kernel
theorem dL_isSo_582 : decode cL_isSo 582 = .ok (.if_icmp .ne 26, 3) := by decide +kernel
theorem dL_isSo_585 : decode cL_isSo 585 = .ok (.aload_n 0, 1) := by decide +kernel
theorem dL_isSo_586 : decode cL_isSo 586 = .ok (.iload 9, 2) := by decide +kernel
theorem dL_isSo_588 : decode cL_isSo 588 = .ok (.iconst 5, 1) := by decide +kernel
theorem dL_isSo_589 : decode cL_isSo 589 = .ok (.invokestatic 125, 3) := by decide +kernel
theorem dL_isSo_592 : decode cL_isSo 592 = .ok (.aload_n 1, 1) := by decide +kernel
theorem dL_isSo_593 : decode cL_isSo 593 = .ok (.aload_n 2, 1) := by decide +kernel
theorem dL_isSo_594 : decode cL_isSo 594 = .ok (.aload 4, 2) := by decide +kernel
theorem dL_isSo_596 : decode cL_isSo 596 = .ok (.iload 9, 2) := by decide +kernel
theorem dL_isSo_598 : decode cL_isSo 598 = .ok (.invokestatic 52, 3) := by decide +kernel
theorem dL_isSo_601 : decode cL_isSo 601 = .ok (.if_icmp .ne 7, 3) := by decide +kernel
theorem dL_isSo_604 : decode cL_isSo 604 = .ok (.iconst 1, 1) := by decide +kernel
theorem dL_isSo_605 : decode cL_isSo 605 = .ok (.goto 4, 3) := by decide +kernel
theorem dL_isSo_608 : decode cL_isSo 608 = .ok (.iconst 0, 1) := by decide +kernel
theorem dL_isSo_609 : decode cL_isSo 609 = .ok (.istore 8, 2) := by decide +kernel
theorem dL_isSo_611 : decode cL_isSo 611 = .ok (.iload 5, 2) := by decide +kernel
theorem dL_isSo_613 : decode cL_isSo 613 = .ok (.aload_n 2, 1) := by decide +kernel
theorem dL_isSo_614 : decode cL_isSo 614 = .ok (.bipush 8, 2) := by decide +kernel
theorem dL_isSo_616 : decode cL_isSo 616 = .ok (.iload 9, 2) := by decide +kernel
theorem dL_isSo_618 : decode cL_isSo 618 = .ok (.imul, 1) := by decide +kernel
theorem dL_isSo_619 : decode cL_isSo 619 = .ok (.bipush 6, 2) := by decide +kernel
theorem dL_isSo_621 : decode cL_isSo 621 = .ok (.iadd, 1) := by decide +kernel
theorem dL_isSo_622 : decode cL_isSo 622 = .ok (.iaload, 1) := by decide +kernel
theorem dL_isSo_623 : decode cL_isSo 623 = .ok (.iadd, 1) := by decide +kernel
theorem dL_isSo_624 : decode cL_isSo 624 = .ok (.istore 5, 2) := by decide +kernel
theorem dL_isSo_626 : decode cL_isSo 626 = .ok (.iload 6, 2) := by decide +kernel
theorem dL_isSo_628 : decode cL_isSo 628 = .ok (.aload_n 2, 1) := by decide +kernel
theorem dL_isSo_629 : decode cL_isSo 629 = .ok (.bipush 8, 2) := by decide +kernel
theorem dL_isSo_631 : decode cL_isSo 631 = .ok (.iload 9, 2) := by decide +kernel
theorem dL_isSo_633 : decode cL_isSo 633 = .ok (.imul, 1) := by decide +kernel
theorem dL_isSo_634 : decode cL_isSo 634 = .ok (.bipush 7, 2) := by decide +kernel
theorem dL_isSo_636 : decode cL_isSo 636 = .ok (.iadd, 1) := by decide +kernel
theorem dL_isSo_637 : decode cL_isSo 637 = .ok (.iaload, 1) := by decide +kernel
theorem dL_isSo_638 : decode cL_isSo 638 = .ok (.iadd, 1) := by decide +kernel
theorem dL_isSo_639 : decode cL_isSo 639 = .ok (.istore 6, 2) := by decide +kernel
theorem dL_isSo_641 : decode cL_isSo 641 = .ok (.aload 7, 2) := by decide +kernel
theorem dL_isSo_643 : decode cL_isSo 643 = .ok (.iconst 0, 1) := by decide +kernel
theorem dL_isSo_644 : decode cL_isSo 644 = .ok (.dup2, 1) := by decide +kernel
theorem dL_isSo_645 : decode cL_isSo 645 = .ok (.iaload, 1) := by decide +kernel
theorem dL_isSo_646 : decode cL_isSo 646 = .ok (.iload 13, 2) := by decide +kernel
theorem dL_isSo_648 : decode cL_isSo 648 = .ok (.iadd, 1) := by decide +kernel
theorem dL_isSo_649 : decode cL_isSo 649 = .ok (.iastore, 1) := by decide +kernel
theorem dL_isSo_650 : decode cL_isSo 650 = .ok (.aload 7, 2) := by decide +kernel
theorem dL_isSo_652 : decode cL_isSo 652 = .ok (.iconst 1, 1) := by decide +kernel
theorem dL_isSo_653 : decode cL_isSo 653 = .ok (.dup2, 1) := by decide +kernel
theorem dL_isSo_654 : decode cL_isSo 654 = .ok (.iaload, 1) := by decide +kernel
theorem dL_isSo_655 : decode cL_isSo 655 = .ok (.aload 4, 2) := by decide +kernel
theorem dL_isSo_657 : decode cL_isSo 657 = .ok (.iload 9, 2) := by decide +kernel
theorem dL_isSo_659 : decode cL_isSo 659 = .ok (.iaload, 1) := by decide +kernel
theorem dL_isSo_660 : decode cL_isSo 660 = .ok (.iload 12, 2) := by decide +kernel
theorem dL_isSo_662 : decode cL_isSo 662 = .ok (.aload 4, 2) := by decide +kernel
theorem dL_isSo_664 : decode cL_isSo 664 = .ok (.bipush 8, 2) := by decide +kernel
theorem dL_isSo_666 : decode cL_isSo 666 = .ok (.iload 9, 2) := by decide +kernel
theorem dL_isSo_668 : decode cL_isSo 668 = .ok (.iadd, 1) := by decide +kernel
theorem dL_isSo_669 : decode cL_isSo 669 = .ok (.iaload, 1) := by decide +kernel
theorem dL_isSo_670 : decode cL_isSo 670 = .ok (.isub, 1) := by decide +kernel
theorem dL_isSo_671 : decode cL_isSo 671 = .ok (.imul, 1) := by decide +kernel
theorem dL_isSo_672 : decode cL_isSo 672 = .ok (.iadd, 1) := by decide +kernel
theorem dL_isSo_673 : decode cL_isSo 673 = .ok (.iastore, 1) := by decide +kernel
theorem dL_isSo_674 : decode cL_isSo 674 = .ok (.aload 7, 2) := by decide +kernel
theorem dL_isSo_676 : decode cL_isSo 676 = .ok (.iconst 2, 1) := by decide +kernel
theorem dL_isSo_677 : decode cL_isSo 677 = .ok (.dup2, 1) := by decide +kernel
theorem dL_isSo_678 : decode cL_isSo 678 = .ok (.iaload, 1) := by decide +kernel
theorem dL_isSo_679 : decode cL_isSo 679 = .ok (.aload_n 2, 1) := by decide +kernel
theorem dL_isSo_680 : decode cL_isSo 680 = .ok (.bipush 8, 2) := by decide +kernel
theorem dL_isSo_682 : decode cL_isSo 682 = .ok (.iload 9, 2) := by decide +kernel
theorem dL_isSo_684 : decode cL_isSo 684 = .ok (.imul, 1) := by decide +kernel
theorem dL_isSo_685 : decode cL_isSo 685 = .ok (.iconst 5, 1) := by decide +kernel
theorem dL_isSo_686 : decode cL_isSo 686 = .ok (.iadd, 1) := by decide +kernel
theorem dL_isSo_687 : decode cL_isSo 687 = .ok (.iaload, 1) := by decide +kernel
theorem dL_isSo_688 : decode cL_isSo 688 = .ok (.aload 4, 2) := by decide +kernel
theorem dL_isSo_690 : decode cL_isSo 690 = .ok (.bipush 8, 2) := by decide +kernel
theorem dL_isSo_692 : decode cL_isSo 692 = .ok (.iload 9, 2) := by decide +kernel
theorem dL_isSo_694 : decode cL_isSo 694 = .ok (.iadd, 1) := by decide +kernel
theorem dL_isSo_695 : decode cL_isSo 695 = .ok (.iaload, 1) := by decide +kernel
theorem dL_isSo_696 : decode cL_isSo 696 = .ok (.imul, 1) := by decide +kernel
theorem dL_isSo_697 : decode cL_isSo 697 = .ok (.iadd, 1) := by decide +kernel
theorem dL_isSo_698 : decode cL_isSo 698 = .ok (.iastore, 1) := by decide +kernel
theorem dL_isSo_699 : decode cL_isSo 699 = .ok (.iinc 9 1, 3) := by decide +kernel
theorem dL_isSo_702 : decode cL_isSo 702 = .ok (.goto (-550), 3) := by decide +kernel
theorem dL_isSo_705 : decode cL_isSo 705 = .ok (.iconst 0, 1) := by decide +kernel
theorem dL_isSo_706 : decode cL_isSo 706 = .ok (.istore 9, 2) := by decide +kernel
theorem dL_isSo_708 : decode cL_isSo 708 = .ok (.iload 9, 2) := by decide +kernel
theorem dL_isSo_710 : decode cL_isSo 710 = .ok (.aload_n 1, 1) := by decide +kernel
theorem dL_isSo_711 : decode cL_isSo 711 = .ok (.bipush 6, 2) := by decide +kernel
theorem dL_isSo_713 : decode cL_isSo 713 = .ok (.iaload, 1) := by decide +kernel
theorem dL_isSo_714 : decode cL_isSo 714 = .ok (.if_icmp .ge 163, 3) := by decide +kernel
theorem dL_isSo_717 : decode cL_isSo 717 = .ok (.iload 8, 2) := by decide +kernel
theorem dL_isSo_719 : decode cL_isSo 719 = .ok (.ifCond .eq 158, 3) := by decide +kernel
theorem dL_isSo_722 : decode cL_isSo 722 = .ok (.iconst 0, 1) := by decide +kernel
theorem dL_isSo_723 : decode cL_isSo 723 = .ok (.istore 10, 2) := by decide +kernel
theorem dL_isSo_725 : decode cL_isSo 725 = .ok (.iconst 0, 1) := by decide +kernel
theorem dL_isSo_726 : decode cL_isSo 726 = .ok (.istore 11, 2) := by decide +kernel
theorem dL_isSo_728 : decode cL_isSo 728 = .ok (.iload 11, 2) := by decide +kernel
theorem dL_isSo_730 : decode cL_isSo 730 = .ok (.aload_n 1, 1) := by decide +kernel
theorem dL_isSo_731 : decode cL_isSo 731 = .ok (.bipush 6, 2) := by decide +kernel
theorem dL_isSo_733 : decode cL_isSo 733 = .ok (.iaload, 1) := by decide +kernel
theorem dL_isSo_734 : decode cL_isSo 734 = .ok (.if_icmp .ge 48, 3) := by decide +kernel
theorem dL_isSo_737 : decode cL_isSo 737 = .ok (.iload 10, 2) := by decide +kernel
theorem dL_isSo_739 : decode cL_isSo 739 = .ok (.iconst 4, 1) := by decide +kernel
theorem dL_isSo_740 : decode cL_isSo 740 = .ok (.aload_n 3, 1) := by decide +kernel
theorem dL_isSo_741 : decode cL_isSo 741 = .ok (.iconst 3, 1) := by decide +kernel
theorem dL_isSo_742 : decode cL_isSo 742 = .ok (.iload 11, 2) := by decide +kernel
theorem dL_isSo_744 : decode cL_isSo 744 = .ok (.imul, 1) := by decide +kernel
theorem dL_isSo_745 : decode cL_isSo 745 = .ok (.iconst 2, 1) := by decide +kernel
theorem dL_isSo_746 : decode cL_isSo 746 = .ok (.iadd, 1) := by decide +kernel
theorem dL_isSo_747 : decode cL_isSo 747 = .ok (.iaload, 1) := by decide +kernel
theorem dL_isSo_748 : decode cL_isSo 748 = .ok (.imul, 1) := by decide +kernel
theorem dL_isSo_749 : decode cL_isSo 749 = .ok (.iload 11, 2) := by decide +kernel
theorem dL_isSo_751 : decode cL_isSo 751 = .ok (.iadd, 1) := by decide +kernel
theorem dL_isSo_752 : decode cL_isSo 752 = .ok (.iconst 4, 1) := by decide +kernel
theorem dL_isSo_753 : decode cL_isSo 753 = .ok (.aload_n 3, 1) := by decide +kernel
theorem dL_isSo_754 : decode cL_isSo 754 = .ok (.iconst 3, 1) := by decide +kernel
theorem dL_isSo_755 : decode cL_isSo 755 = .ok (.iload 9, 2) := by decide +kernel
theorem dL_isSo_757 : decode cL_isSo 757 = .ok (.imul, 1) := by decide +kernel
theorem dL_isSo_758 : decode cL_isSo 758 = .ok (.iconst 2, 1) := by decide +kernel
theorem dL_isSo_759 : decode cL_isSo 759 = .ok (.iadd, 1) := by decide +kernel
theorem dL_isSo_760 : decode cL_isSo 760 = .ok (.iaload, 1) := by decide +kernel
theorem dL_isSo_761 : decode cL_isSo 761 = .ok (.imul, 1) := by decide +kernel
theorem dL_isSo_762 : decode cL_isSo 762 = .ok (.iload 9, 2) := by decide +kernel
theorem dL_isSo_764 : decode cL_isSo 764 = .ok (.iadd, 1) := by decide +kernel
theorem dL_isSo_765 : decode cL_isSo 765 = .ok (.if_icmp .ge 7, 3) := by decide +kernel
theorem dL_isSo_768 : decode cL_isSo 768 = .ok (.iconst 1, 1) := by decide +kernel
theorem dL_isSo_769 : decode cL_isSo 769 = .ok (.goto 4, 3) := by decide +kernel
theorem dL_isSo_772 : decode cL_isSo 772 = .ok (.iconst 0, 1) := by decide +kernel
theorem dL_isSo_773 : decode cL_isSo 773 = .ok (.iadd, 1) := by decide +kernel
theorem dL_isSo_774 : decode cL_isSo 774 = .ok (.istore 10, 2) := by decide +kernel
theorem dL_isSo_776 : decode cL_isSo 776 = .ok (.iinc 11 1, 3) := by decide +kernel
theorem dL_isSo_779 : decode cL_isSo 779 = .ok (.goto (-51), 3) := by decide +kernel
theorem dL_isSo_782 : decode cL_isSo 782 = .ok (.aload_n 0, 1) := by decide +kernel
theorem dL_isSo_783 : decode cL_isSo 783 = .ok (.iload 9, 2) := by decide +kernel
theorem dL_isSo_785 : decode cL_isSo 785 = .ok (.iconst 0, 1) := by decide +kernel
theorem dL_isSo_786 : decode cL_isSo 786 = .ok (.invokestatic 128, 3) := by decide +kernel
theorem dL_isSo_789 : decode cL_isSo 789 = .ok (.aload_n 3, 1) := by decide +kernel
theorem dL_isSo_790 : decode cL_isSo 790 = .ok (.iconst 3, 1) := by decide +kernel
theorem dL_isSo_791 : decode cL_isSo 791 = .ok (.iload 9, 2) := by decide +kernel
theorem dL_isSo_793 : decode cL_isSo 793 = .ok (.imul, 1) := by decide +kernel
theorem dL_isSo_794 : decode cL_isSo 794 = .ok (.iaload, 1) := by decide +kernel
theorem dL_isSo_795 : decode cL_isSo 795 = .ok (.if_icmp .ne 73, 3) := by decide +kernel
theorem dL_isSo_798 : decode cL_isSo 798 = .ok (.aload_n 0, 1) := by decide +kernel
theorem dL_isSo_799 : decode cL_isSo 799 = .ok (.iload 9, 2) := by decide +kernel
theorem dL_isSo_801 : decode cL_isSo 801 = .ok (.iconst 1, 1) := by decide +kernel
theorem dL_isSo_802 : decode cL_isSo 802 = .ok (.invokestatic 128, 3) := by decide +kernel
theorem dL_isSo_805 : decode cL_isSo 805 = .ok (.aload_n 3, 1) := by decide +kernel
theorem dL_isSo_806 : decode cL_isSo 806 = .ok (.iconst 3, 1) := by decide +kernel
theorem dL_isSo_807 : decode cL_isSo 807 = .ok (.iload 9, 2) := by decide +kernel
theorem dL_isSo_809 : decode cL_isSo 809 = .ok (.imul, 1) := by decide +kernel
theorem dL_isSo_810 : decode cL_isSo 810 = .ok (.iconst 1, 1) := by decide +kernel
theorem dL_isSo_811 : decode cL_isSo 811 = .ok (.iadd, 1) := by decide +kernel
theorem dL_isSo_812 : decode cL_isSo 812 = .ok (.iaload, 1) := by decide +kernel
theorem dL_isSo_813 : decode cL_isSo 813 = .ok (.if_icmp .ne 55, 3) := by decide +kernel
theorem dL_isSo_816 : decode cL_isSo 816 = .ok (.aload_n 0, 1) := by decide +kernel
theorem dL_isSo_817 : decode cL_isSo 817 = .ok (.iload 9, 2) := by decide +kernel
theorem dL_isSo_819 : decode cL_isSo 819 = .ok (.iconst 2, 1) := by decide +kernel
theorem dL_isSo_820 : decode cL_isSo 820 = .ok (.invokestatic 128, 3) := by decide +kernel
theorem dL_isSo_823 : decode cL_isSo 823 = .ok (.aload_n 3, 1) := by decide +kernel
theorem dL_isSo_824 : decode cL_isSo 824 = .ok (.iconst 3, 1) := by decide +kernel
theorem dL_isSo_825 : decode cL_isSo 825 = .ok (.iload 9, 2) := by decide +kernel
theorem dL_isSo_827 : decode cL_isSo 827 = .ok (.imul, 1) := by decide +kernel
theorem dL_isSo_828 : decode cL_isSo 828 = .ok (.iconst 2, 1) := by decide +kernel
theorem dL_isSo_829 : decode cL_isSo 829 = .ok (.iadd, 1) := by decide +kernel
theorem dL_isSo_830 : decode cL_isSo 830 = .ok (.iaload, 1) := by decide +kernel
theorem dL_isSo_831 : decode cL_isSo 831 = .ok (.if_icmp .ne 37, 3) := by decide +kernel
theorem dL_isSo_834 : decode cL_isSo 834 = .ok (.aload_n 0, 1) := by decide +kernel
theorem dL_isSo_835 : decode cL_isSo 835 = .ok (.iload 9, 2) := by decide +kernel
theorem dL_isSo_837 : decode cL_isSo 837 = .ok (.iconst 3, 1) := by decide +kernel
theorem dL_isSo_838 : decode cL_isSo 838 = .ok (.invokestatic 128, 3) := by decide +kernel
theorem dL_isSo_841 : decode cL_isSo 841 = .ok (.aload 4, 2) := by decide +kernel
theorem dL_isSo_843 : decode cL_isSo 843 = .ok (.bipush 32, 2) := by decide +kernel
theorem dL_isSo_845 : decode cL_isSo 845 = .ok (.iload 9, 2) := by decide +kernel
theorem dL_isSo_847 : decode cL_isSo 847 = .ok (.iadd, 1) := by decide +kernel
theorem dL_isSo_848 : decode cL_isSo 848 = .ok (.iaload, 1) := by decide +kernel
theorem dL_isSo_849 : decode cL_isSo 849 = .ok (.if_icmp .ne 19, 3) := by decide +kernel
theorem dL_isSo_852 : decode cL_isSo 852 = .ok (.aload_n 0, 1) := by decide +kernel
theorem dL_isSo_853 : decode cL_isSo 853 = .ok (.iload 9, 2) := by decide +kernel
theorem dL_isSo_855 : decode cL_isSo 855 = .ok (.iconst 4, 1) := by decide +kernel
theorem dL_isSo_856 : decode cL_isSo 856 = .ok (.invokestatic 128, 3) := by decide +kernel
theorem dL_isSo_859 : decode cL_isSo 859 = .ok (.iload 10, 2) := by decide +kernel
theorem dL_isSo_861 : decode cL_isSo 861 = .ok (.if_icmp .ne 7, 3) := by decide +kernel
theorem dL_isSo_864 : decode cL_isSo 864 = .ok (.iconst 1, 1) := by decide +kernel
theorem dL_isSo_865 : decode cL_isSo 865 = .ok (.goto 4, 3) := by decide +kernel
theorem dL_isSo_868 : decode cL_isSo 868 = .ok (.iconst 0, 1) := by decide +kernel
theorem dL_isSo_869 : decode cL_isSo 869 = .ok (.istore 8, 2) := by decide +kernel
theorem dL_isSo_871 : decode cL_isSo 871 = .ok (.iinc 9 1, 3) := by decide +kernel
theorem dL_isSo_874 : decode cL_isSo 874 = .ok (.goto (-166), 3) := by decide +kernel
theorem dL_isSo_877 : decode cL_isSo 877 = .ok (.iload 8, 2) := by decide +kernel
theorem dL_isSo_879 : decode cL_isSo 879 = .ok (.ifCond .eq 157, 3) := by decide +kernel
theorem dL_isSo_882 : decode cL_isSo 882 = .ok (.aload_n 0, 1) := by decide +kernel
theorem dL_isSo_883 : decode cL_isSo 883 = .ok (.bipush 12, 2) := by decide +kernel
theorem dL_isSo_885 : decode cL_isSo 885 = .ok (.invokestatic 119, 3) := by decide +kernel
theorem dL_isSo_888 : decode cL_isSo 888 = .ok (.iload 6, 2) := by decide +kernel
theorem dL_isSo_890 : decode cL_isSo 890 = .ok (.if_icmp .ne 146, 3) := by decide +kernel
theorem dL_isSo_893 : decode cL_isSo 893 = .ok (.aload_n 0, 1) := by decide +kernel
theorem dL_isSo_894 : decode cL_isSo 894 = .ok (.bipush 14, 2) := by decide +kernel
theorem dL_isSo_896 : decode cL_isSo 896 = .ok (.invokestatic 119, 3) := by decide +kernel
theorem dL_isSo_899 : decode cL_isSo 899 = .ok (.iload 5, 2) := by decide +kernel
theorem dL_isSo_901 : decode cL_isSo 901 = .ok (.if_icmp .ne 135, 3) := by decide +kernel
theorem dL_isSo_904 : decode cL_isSo 904 = .ok (.aload_n 0, 1) := by decide +kernel
theorem dL_isSo_905 : decode cL_isSo 905 = .ok (.iconst 0, 1) := by decide +kernel
theorem dL_isSo_906 : decode cL_isSo 906 = .ok (.invokestatic 131, 3) := by decide +kernel
theorem dL_isSo_909 : decode cL_isSo 909 = .ok (.aload 7, 2) := by decide +kernel
theorem dL_isSo_911 : decode cL_isSo 911 = .ok (.iconst 0, 1) := by decide +kernel
theorem dL_isSo_912 : decode cL_isSo 912 = .ok (.iaload, 1) := by decide +kernel
theorem dL_isSo_913 : decode cL_isSo 913 = .ok (.if_icmp .ne 123, 3) := by decide +kernel
theorem dL_isSo_916 : decode cL_isSo 916 = .ok (.aload_n 0, 1) := by decide +kernel
theorem dL_isSo_917 : decode cL_isSo 917 = .ok (.iconst 1, 1) := by decide +kernel
theorem dL_isSo_918 : decode cL_isSo 918 = .ok (.invokestatic 131, 3) := by decide +kernel
theorem dL_isSo_921 : decode cL_isSo 921 = .ok (.aload 7, 2) := by decide +kernel
theorem dL_isSo_923 : decode cL_isSo 923 = .ok (.iconst 1, 1) := by decide +kernel
theorem dL_isSo_924 : decode cL_isSo 924 = .ok (.iaload, 1) := by decide +kernel
theorem dL_isSo_925 : decode cL_isSo 925 = .ok (.if_icmp .ne 111, 3) := by decide +kernel
theorem dL_isSo_928 : decode cL_isSo 928 = .ok (.aload_n 0, 1) := by decide +kernel
theorem dL_isSo_929 : decode cL_isSo 929 = .ok (.iconst 2, 1) := by decide +kernel
theorem dL_isSo_930 : decode cL_isSo 930 = .ok (.invokestatic 131, 3) := by decide +kernel
theorem dL_isSo_933 : decode cL_isSo 933 = .ok (.aload 7, 2) := by decide +kernel
theorem dL_isSo_935 : decode cL_isSo 935 = .ok (.iconst 2, 1) := by decide +kernel
theorem dL_isSo_936 : decode cL_isSo 936 = .ok (.iaload, 1) := by decide +kernel
theorem dL_isSo_937 : decode cL_isSo 937 = .ok (.if_icmp .ne 99, 3) := by decide +kernel
theorem dL_isSo_940 : decode cL_isSo 940 = .ok (.aload 4, 2) := by decide +kernel
theorem dL_isSo_942 : decode cL_isSo 942 = .ok (.iconst 0, 1) := by decide +kernel
theorem dL_isSo_943 : decode cL_isSo 943 = .ok (.iaload, 1) := by decide +kernel
theorem dL_isSo_944 : decode cL_isSo 944 = .ok (.aload_n 1, 1) := by decide +kernel
theorem dL_isSo_945 : decode cL_isSo 945 = .ok (.iconst 0, 1) := by decide +kernel
theorem dL_isSo_946 : decode cL_isSo 946 = .ok (.iaload, 1) := by decide +kernel
theorem dL_isSo_947 : decode cL_isSo 947 = .ok (.imul, 1) := by decide +kernel
theorem dL_isSo_948 : decode cL_isSo 948 = .ok (.aload 7, 2) := by decide +kernel
theorem dL_isSo_950 : decode cL_isSo 950 = .ok (.iconst 0, 1) := by decide +kernel
theorem dL_isSo_951 : decode cL_isSo 951 = .ok (.iaload, 1) := by decide +kernel
theorem dL_isSo_952 : decode cL_isSo 952 = .ok (.aload 7, 2) := by decide +kernel
theorem dL_isSo_954 : decode cL_isSo 954 = .ok (.iconst 1, 1) := by decide +kernel
theorem dL_isSo_955 : decode cL_isSo 955 = .ok (.iaload, 1) := by decide +kernel
theorem dL_isSo_956 : decode cL_isSo 956 = .ok (.iadd, 1) := by decide +kernel
theorem dL_isSo_957 : decode cL_isSo 957 = .ok (.aload 7, 2) := by decide +kernel
theorem dL_isSo_959 : decode cL_isSo 959 = .ok (.iconst 2, 1) := by decide +kernel
theorem dL_isSo_960 : decode cL_isSo 960 = .ok (.iaload, 1) := by decide +kernel
theorem dL_isSo_961 : decode cL_isSo 961 = .ok (.iadd, 1) := by decide +kernel
theorem dL_isSo_962 : decode cL_isSo 962 = .ok (.aload 4, 2) := by decide +kernel
theorem dL_isSo_964 : decode cL_isSo 964 = .ok (.bipush 24, 2) := by decide +kernel
theorem dL_isSo_966 : decode cL_isSo 966 = .ok (.iaload, 1) := by decide +kernel
theorem dL_isSo_967 : decode cL_isSo 967 = .ok (.iadd, 1) := by decide +kernel
theorem dL_isSo_968 : decode cL_isSo 968 = .ok (.if_icmp .ne 68, 3) := by decide +kernel
theorem dL_isSo_971 : decode cL_isSo 971 = .ok (.aload_n 0, 1) := by decide +kernel
theorem dL_isSo_972 : decode cL_isSo 972 = .ok (.invokevirtual 134, 3) := by decide +kernel
theorem dL_isSo_975 : decode cL_isSo 975 = .ok (.aload 4, 2) := by decide +kernel
theorem dL_isSo_977 : decode cL_isSo 977 = .ok (.iconst 0, 1) := by decide +kernel
theorem dL_isSo_978 : decode cL_isSo 978 = .ok (.iaload, 1) := by decide +kernel
theorem dL_isSo_979 : decode cL_isSo 979 = .ok (.ifCond .ne 7, 3) := by decide +kernel
theorem dL_isSo_982 : decode cL_isSo 982 = .ok (.dconst 0, 1) := by decide +kernel
theorem dL_isSo_983 : decode cL_isSo 983 = .ok (.goto 18, 3) := by decide +kernel
theorem dL_isSo_986 : decode cL_isSo 986 = .ok (.aload 7, 2) := by decide +kernel
theorem dL_isSo_988 : decode cL_isSo 988 = .ok (.iconst 0, 1) := by decide +kernel
theorem dL_isSo_989 : decode cL_isSo 989 = .ok (.iaload, 1) := by decide +kernel
theorem dL_isSo_990 : decode cL_isSo 990 = .ok (.i2d, 1) := by decide +kernel
theorem dL_isSo_991 : decode cL_isSo 991 = .ok (.aload 4, 2) := by decide +kernel
theorem dL_isSo_993 : decode cL_isSo 993 = .ok (.iconst 0, 1) := by decide +kernel
theorem dL_isSo_994 : decode cL_isSo 994 = .ok (.iaload, 1) := by decide +kernel
theorem dL_isSo_995 : decode cL_isSo 995 = .ok (.aload_n 1, 1) := by decide +kernel
theorem dL_isSo_996 : decode cL_isSo 996 = .ok (.iconst 0, 1) := by decide +kernel
theorem dL_isSo_997 : decode cL_isSo 997 = .ok (.iaload, 1) := by decide +kernel
theorem dL_isSo_998 : decode cL_isSo 998 = .ok (.imul, 1) := by decide +kernel
theorem dL_isSo_999 : decode cL_isSo 999 = .ok (.i2d, 1) := by decide +kernel
theorem dL_isSo_1000 : decode cL_isSo 1000 = .ok (.ddiv, 1) := by decide +kernel
theorem dL_isSo_1001 : decode cL_isSo 1001 = .ok (.dcmp .l, 1) := by decide +kernel
theorem dL_isSo_1002 : decode cL_isSo 1002 = .ok (.ifCond .ne 34, 3) := by decide +kernel
theorem dL_isSo_1005 : decode cL_isSo 1005 = .ok (.aload_n 0, 1) := by decide +kernel
theorem dL_isSo_1006 : decode cL_isSo 1006 = .ok (.aload_n 1, 1) := by decide +kernel
theorem dL_isSo_1007 : decode cL_isSo 1007 = .ok (.iconst 5, 1) := by decide +kernel
theorem dL_isSo_1008 : decode cL_isSo 1008 = .ok (.iaload, 1) := by decide +kernel
theorem dL_isSo_1009 : decode cL_isSo 1009 = .ok (.iconst 0, 1) := by decide +kernel
theorem dL_isSo_1010 : decode cL_isSo 1010 = .ok (.invokestatic 122, 3) := by decide +kernel
theorem dL_isSo_1013 : decode cL_isSo 1013 = .ok (.ldc 28, 2) := by decide +kernel
theorem dL_isSo_1015 : decode cL_isSo 1015 = .ok (.if_icmp .ne 21, 3) := by decide +kernel
theorem dL_isSo_1018 : decode cL_isSo 1018 = .ok (.aload_n 0, 1) := by decide +kernel
theorem dL_isSo_1019 : decode cL_isSo 1019 = .ok (.aload_n 1, 1) := by decide +kernel
theorem dL_isSo_1020 : decode cL_isSo 1020 = .ok (.bipush 6, 2) := by decide +kernel
theorem dL_isSo_1022 : decode cL_isSo 1022 = .ok (.iaload, 1) := by decide +kernel
theorem dL_isSo_1023 : decode cL_isSo 1023 = .ok (.iconst 0, 1) := by decide +kernel
theorem dL_isSo_1024 : decode cL_isSo 1024 = .ok (.invokestatic 128, 3) := by decide +kernel
theorem dL_isSo_1027 : decode cL_isSo 1027 = .ok (.ldc 28, 2) := by decide +kernel
theorem dL_isSo_1029 : decode cL_isSo 1029 = .ok (.if_icmp .ne 7, 3) := by decide +kernel
theorem dL_isSo_1032 : decode cL_isSo 1032 = .ok (.iconst 1, 1) := by decide +kernel
theorem dL_isSo_1033 : decode cL_isSo 1033 = .ok (.goto 4, 3) := by decide +kernel
theorem dL_isSo_1036 : decode cL_isSo 1036 = .ok (.iconst 0, 1) := by decide +kernel
theorem dL_isSo_1037 : decode cL_isSo 1037 = .ok (.ireturn, 1) := by decide +kernel
theorem dL_law_0 : decode cL_law 0 = .ok (.new 66, 3) := by decide +kernel
theorem dL_law_3 : decode cL_law 3 = .ok (.dup, 1) := by decide +kernel
theorem dL_law_4 : decode cL_law 4 = .ok (.invokespecial 138, 3) := by decide +kernel
theorem dL_law_7 : decode cL_law 7 = .ok (.astore_n 1, 1) := by decide +kernel
theorem dL_law_8 : decode cL_law 8 = .ok (.bipush 9, 2) := by decide +kernel
theorem dL_law_10 : decode cL_law 10 = .ok (.newarray .int, 2) := by decide +kernel
theorem dL_law_12 : decode cL_law 12 = .ok (.astore_n 2, 1) := by decide +kernel
theorem dL_law_13 : decode cL_law 13 = .ok (.bipush 64, 2) := by decide +kernel
theorem dL_law_15 : decode cL_law 15 = .ok (.newarray .int, 2) := by decide +kernel
theorem dL_law_17 : decode cL_law 17 = .ok (.astore_n 3, 1) := by decide +kernel
theorem dL_law_18 : decode cL_law 18 = .ok (.bipush 12, 2) := by decide +kernel
theorem dL_law_20 : decode cL_law 20 = .ok (.newarray .int, 2) := by decide +kernel
theorem dL_law_22 : decode cL_law 22 = .ok (.astore 4, 2) := by decide +kernel
theorem dL_law_24 : decode cL_law 24 = .ok (.bipush 39, 2) := by decide +kernel
theorem dL_law_26 : decode cL_law 26 = .ok (.newarray .int, 2) := by decide +kernel
theorem dL_law_28 : decode cL_law 28 = .ok (.astore 5, 2) := by decide +kernel
theorem dL_law_30 : decode cL_law 30 = .ok (.aload_n 2, 1) := by decide +kernel
theorem dL_law_31 : decode cL_law 31 = .ok (.invokestatic 139, 3) := by decide +kernel
theorem dL_law_34 : decode cL_law 34 = .ok (.aload_n 1, 1) := by decide +kernel
theorem dL_law_35 : decode cL_law 35 = .ok (.aload_n 2, 1) := by decide +kernel
theorem dL_law_36 : decode cL_law 36 = .ok (.aload_n 3, 1) := by decide +kernel
theorem dL_law_37 : decode cL_law 37 = .ok (.aload 4, 2) := by decide +kernel
theorem dL_law_39 : decode cL_law 39 = .ok (.aload 5, 2) := by decide +kernel
theorem dL_law_41 : decode cL_law 41 = .ok (.invokestatic 143, 3) := by decide +kernel
theorem dL_law_44 : decode cL_law 44 = .ok (.istore 6, 2) := by decide +kernel
theorem dL_law_46 : decode cL_law 46 = .ok (.bipush 10, 2) := by decide +kernel
theorem dL_law_48 : decode cL_law 48 = .ok (.aload_n 0, 1) := by decide +kernel
theorem dL_law_49 : decode cL_law 49 = .ok (.iconst 0, 1) := by decide +kernel
theorem dL_law_50 : decode cL_law 50 = .ok (.invokestatic 147, 3) := by decide +kernel
theorem dL_law_53 : decode cL_law 53 = .ok (.bipush 60, 2) := by decide +kernel
theorem dL_law_55 : decode cL_law 55 = .ok (.invokestatic 16, 3) := by decide +kernel
theorem dL_law_58 : decode cL_law 58 = .ok (.iadd, 1) := by decide +kernel
theorem dL_law_59 : decode cL_law 59 = .ok (.istore 7, 2) := by decide +kernel
theorem dL_law_61 : decode cL_law 61 = .ok (.iconst 0, 1) := by decide +kernel
theorem dL_law_62 : decode cL_law 62 = .ok (.istore 8, 2) := by decide +kernel
theorem dL_law_64 : decode cL_law 64 = .ok (.iload 8, 2) := by decide +kernel
theorem dL_law_66 : decode cL_law 66 = .ok (.iload 7, 2) := by decide +kernel
theorem dL_law_68 : decode cL_law 68 = .ok (.if_icmp .ge 62, 3) := by decide +kernel
theorem dL_law_71 : decode cL_law 71 = .ok (.iload 6, 2) := by decide +kernel
theorem dL_law_73 : decode cL_law 73 = .ok (.ifCond .eq 57, 3) := by decide +kernel
theorem dL_law_76 : decode cL_law 76 = .ok (.aload_n 1, 1) := by decide +kernel
theorem dL_law_77 : decode cL_law 77 = .ok (.aload_n 2, 1) := by decide +kernel
theorem dL_law_78 : decode cL_law 78 = .ok (.aload_n 3, 1) := by decide +kernel
theorem dL_law_79 : decode cL_law 79 = .ok (.aload 4, 2) := by decide +kernel
theorem dL_law_81 : decode cL_law 81 = .ok (.aload 5, 2) := by decide +kernel
theorem dL_law_83 : decode cL_law 83 = .ok (.aload_n 0, 1) := by decide +kernel
theorem dL_law_84 : decode cL_law 84 = .ok (.iconst 1, 1) := by decide +kernel
theorem dL_law_85 : decode cL_law 85 = .ok (.iload 8, 2) := by decide +kernel
theorem dL_law_87 : decode cL_law 87 = .ok (.iadd, 1) := by decide +kernel
theorem dL_law_88 : decode cL_law 88 = .ok (.invokestatic 147, 3) := by decide +kernel
theorem dL_law_91 : decode cL_law 91 = .ok (.sipush 7919, 3) := by decide +kernel
theorem dL_law_94 : decode cL_law 94 = .ok (.iload 8, 2) := by decide +kernel
theorem dL_law_96 : decode cL_law 96 = .ok (.imul, 1) := by decide +kernel
theorem dL_law_97 : decode cL_law 97 = .ok (.ixor, 1) := by decide +kernel
theorem dL_law_98 : decode cL_law 98 = .ok (.invokestatic 151, 3) := by decide +kernel
theorem dL_law_101 : decode cL_law 101 = .ok (.ifCond .eq 20, 3) := by decide +kernel
theorem dL_law_104 : decode cL_law 104 = .ok (.aload_n 1, 1) := by decide +kernel
theorem dL_law_105 : decode cL_law 105 = .ok (.aload_n 2, 1) := by decide +kernel
theorem dL_law_106 : decode cL_law 106 = .ok (.aload_n 3, 1) := by decide +kernel
theorem dL_law_107 : decode cL_law 107 = .ok (.aload 4, 2) := by decide +kernel
theorem dL_law_109 : decode cL_law 109 = .ok (.aload 5, 2) := by decide +kernel
theorem dL_law_111 : decode cL_law 111 = .ok (.invokestatic 143, 3) := by decide +kernel
theorem dL_law_114 : decode cL_law 114 = .ok (.ifCond .eq 7, 3) := by decide +kernel
theorem dL_law_117 : decode cL_law 117 = .ok (.iconst 1, 1) := by decide +kernel
theorem dL_law_118 : decode cL_law 118 = .ok (.goto 4, 3) := by decide +kernel
theorem dL_law_121 : decode cL_law 121 = .ok (.iconst 0, 1) := by decide +kernel
theorem dL_law_122 : decode cL_law 122 = .ok (.istore 6, 2) := by decide +kernel
theorem dL_law_124 : decode cL_law 124 = .ok (.iinc 8 1, 3) := by decide +kernel
theorem dL_law_127 : decode cL_law 127 = .ok (.goto (-63), 3) := by decide +kernel
theorem dL_law_130 : decode cL_law 130 = .ok (.iload 6, 2) := by decide +kernel
theorem dL_law_132 : decode cL_law 132 = .ok (.ifCond .eq 39, 3) := by decide +kernel
theorem dL_law_135 : decode cL_law 135 = .ok (.aload_n 1, 1) := by decide +kernel
theorem dL_law_136 : decode cL_law 136 = .ok (.iconst 0, 1) := by decide +kernel
theorem dL_law_137 : decode cL_law 137 = .ok (.iconst 0, 1) := by decide +kernel
theorem dL_law_138 : decode cL_law 138 = .ok (.invokestatic 125, 3) := by decide +kernel
theorem dL_law_141 : decode cL_law 141 = .ok (.ldc 28, 2) := by decide +kernel
theorem dL_law_143 : decode cL_law 143 = .ok (.if_icmp .ne 28, 3) := by decide +kernel
theorem dL_law_146 : decode cL_law 146 = .ok (.aload_n 1, 1) := by decide +kernel
theorem dL_law_147 : decode cL_law 147 = .ok (.bipush 15, 2) := by decide +kernel
theorem dL_law_149 : decode cL_law 149 = .ok (.invokestatic 119, 3) := by decide +kernel
theorem dL_law_152 : decode cL_law 152 = .ok (.ldc 64, 2) := by decide +kernel
theorem dL_law_154 : decode cL_law 154 = .ok (.if_icmp .ne 17, 3) := by decide +kernel
theorem dL_law_157 : decode cL_law 157 = .ok (.aload_n 1, 1) := by decide +kernel
theorem dL_law_158 : decode cL_law 158 = .ok (.iconst 3, 1) := by decide +kernel
theorem dL_law_159 : decode cL_law 159 = .ok (.invokestatic 131, 3) := by decide +kernel
theorem dL_law_162 : decode cL_law 162 = .ok (.ldc 64, 2) := by decide +kernel
theorem dL_law_164 : decode cL_law 164 = .ok (.if_icmp .ne 7, 3) := by decide +kernel
theorem dL_law_167 : decode cL_law 167 = .ok (.iconst 1, 1) := by decide +kernel
theorem dL_law_168 : decode cL_law 168 = .ok (.goto 4, 3) := by decide +kernel
theorem dL_law_171 : decode cL_law 171 = .ok (.iconst 0, 1) := by decide +kernel
theorem dL_law_172 : decode cL_law 172 = .ok (.ireturn, 1) := by decide +kernel
