/-! decode rows of the law (by program, gend4.py) -/
theorem d_law_923 : decode code 923 = .ok (.iaload, 1) := by decide +kernel
theorem d_law_924 : decode code 924 = .ok (.aload_n 0, 1) := by decide +kernel
theorem d_law_925 : decode code 925 = .ok (.iload 4, 2) := by decide +kernel
theorem d_law_927 : decode code 927 = .ok (.iconst 2, 1) := by decide +kernel
theorem d_law_928 : decode code 928 = .ok (.iadd, 1) := by decide +kernel
theorem d_law_929 : decode code 929 = .ok (.iaload, 1) := by decide +kernel
theorem d_law_930 : decode code 930 = .ok (.invokevirtual 116, 3) := by decide +kernel
theorem d_law_933 : decode code 933 = .ok (.if_icmp .eq 293, 3) := by decide +kernel
theorem d_law_936 : decode code 936 = .ok (.iconst 0, 1) := by decide +kernel
theorem d_law_937 : decode code 937 = .ok (.ireturn, 1) := by decide +kernel
theorem d_law_938 : decode code 938 = .ok (.aload_n 1, 1) := by decide +kernel
theorem d_law_939 : decode code 939 = .ok (.aload_n 0, 1) := by decide +kernel
theorem d_law_940 : decode code 940 = .ok (.iload 4, 2) := by decide +kernel
theorem d_law_942 : decode code 942 = .ok (.iconst 1, 1) := by decide +kernel
theorem d_law_943 : decode code 943 = .ok (.iadd, 1) := by decide +kernel
theorem d_law_944 : decode code 944 = .ok (.iaload, 1) := by decide +kernel
theorem d_law_945 : decode code 945 = .ok (.invokevirtual 117, 3) := by decide +kernel
theorem d_law_948 : decode code 948 = .ok (.aload_n 2, 1) := by decide +kernel
theorem d_law_949 : decode code 949 = .ok (.aload_n 0, 1) := by decide +kernel
theorem d_law_950 : decode code 950 = .ok (.iload 4, 2) := by decide +kernel
theorem d_law_952 : decode code 952 = .ok (.iconst 1, 1) := by decide +kernel
theorem d_law_953 : decode code 953 = .ok (.iadd, 1) := by decide +kernel
theorem d_law_954 : decode code 954 = .ok (.iaload, 1) := by decide +kernel
theorem d_law_955 : decode code 955 = .ok (.invokevirtual 120, 3) := by decide +kernel
theorem d_law_958 : decode code 958 = .ok (.if_icmp .eq 268, 3) := by decide +kernel
theorem d_law_961 : decode code 961 = .ok (.iconst 0, 1) := by decide +kernel
theorem d_law_962 : decode code 962 = .ok (.ireturn, 1) := by decide +kernel
theorem d_law_963 : decode code 963 = .ok (.aload_n 1, 1) := by decide +kernel
theorem d_law_964 : decode code 964 = .ok (.aload_n 0, 1) := by decide +kernel
theorem d_law_965 : decode code 965 = .ok (.iload 4, 2) := by decide +kernel
theorem d_law_967 : decode code 967 = .ok (.iconst 1, 1) := by decide +kernel
theorem d_law_968 : decode code 968 = .ok (.iadd, 1) := by decide +kernel
theorem d_law_969 : decode code 969 = .ok (.iaload, 1) := by decide +kernel
theorem d_law_970 : decode code 970 = .ok (.invokevirtual 121, 3) := by decide +kernel
theorem d_law_973 : decode code 973 = .ok (.aload_n 2, 1) := by decide +kernel
theorem d_law_974 : decode code 974 = .ok (.aload_n 0, 1) := by decide +kernel
theorem d_law_975 : decode code 975 = .ok (.iload 4, 2) := by decide +kernel
theorem d_law_977 : decode code 977 = .ok (.iconst 1, 1) := by decide +kernel
theorem d_law_978 : decode code 978 = .ok (.iadd, 1) := by decide +kernel
theorem d_law_979 : decode code 979 = .ok (.iaload, 1) := by decide +kernel
theorem d_law_980 : decode code 980 = .ok (.invokevirtual 124, 3) := by decide +kernel
theorem d_law_983 : decode code 983 = .ok (.if_icmp .eq 243, 3) := by decide +kernel
theorem d_law_986 : decode code 986 = .ok (.iconst 0, 1) := by decide +kernel
theorem d_law_987 : decode code 987 = .ok (.ireturn, 1) := by decide +kernel
theorem d_law_988 : decode code 988 = .ok (.aload_n 1, 1) := by decide +kernel
theorem d_law_989 : decode code 989 = .ok (.aload_n 0, 1) := by decide +kernel
theorem d_law_990 : decode code 990 = .ok (.iload 4, 2) := by decide +kernel
theorem d_law_992 : decode code 992 = .ok (.iconst 1, 1) := by decide +kernel
theorem d_law_993 : decode code 993 = .ok (.iadd, 1) := by decide +kernel
theorem d_law_994 : decode code 994 = .ok (.iaload, 1) := by decide +kernel
theorem d_law_995 : decode code 995 = .ok (.aload_n 0, 1) := by decide +kernel
theorem d_law_996 : decode code 996 = .ok (.iload 4, 2) := by decide +kernel
theorem d_law_998 : decode code 998 = .ok (.iconst 2, 1) := by decide +kernel
theorem d_law_999 : decode code 999 = .ok (.iadd, 1) := by decide +kernel
theorem d_law_1000 : decode code 1000 = .ok (.iaload, 1) := by decide +kernel
theorem d_law_1001 : decode code 1001 = .ok (.invokevirtual 125, 3) := by decide +kernel
theorem d_law_1004 : decode code 1004 = .ok (.aload_n 2, 1) := by decide +kernel
theorem d_law_1005 : decode code 1005 = .ok (.aload_n 0, 1) := by decide +kernel
theorem d_law_1006 : decode code 1006 = .ok (.iload 4, 2) := by decide +kernel
theorem d_law_1008 : decode code 1008 = .ok (.iconst 1, 1) := by decide +kernel
theorem d_law_1009 : decode code 1009 = .ok (.iadd, 1) := by decide +kernel
theorem d_law_1010 : decode code 1010 = .ok (.iaload, 1) := by decide +kernel
theorem d_law_1011 : decode code 1011 = .ok (.aload_n 0, 1) := by decide +kernel
theorem d_law_1012 : decode code 1012 = .ok (.iload 4, 2) := by decide +kernel
theorem d_law_1014 : decode code 1014 = .ok (.iconst 2, 1) := by decide +kernel
theorem d_law_1015 : decode code 1015 = .ok (.iadd, 1) := by decide +kernel
theorem d_law_1016 : decode code 1016 = .ok (.iaload, 1) := by decide +kernel
theorem d_law_1017 : decode code 1017 = .ok (.invokevirtual 128, 3) := by decide +kernel
theorem d_law_1020 : decode code 1020 = .ok (.if_icmp .eq 206, 3) := by decide +kernel
theorem d_law_1023 : decode code 1023 = .ok (.iconst 0, 1) := by decide +kernel
theorem d_law_1024 : decode code 1024 = .ok (.ireturn, 1) := by decide +kernel
theorem d_law_1025 : decode code 1025 = .ok (.aload_n 1, 1) := by decide +kernel
theorem d_law_1026 : decode code 1026 = .ok (.aload_n 0, 1) := by decide +kernel
theorem d_law_1027 : decode code 1027 = .ok (.iload 4, 2) := by decide +kernel
theorem d_law_1029 : decode code 1029 = .ok (.iconst 1, 1) := by decide +kernel
theorem d_law_1030 : decode code 1030 = .ok (.iadd, 1) := by decide +kernel
theorem d_law_1031 : decode code 1031 = .ok (.iaload, 1) := by decide +kernel
theorem d_law_1032 : decode code 1032 = .ok (.aload_n 0, 1) := by decide +kernel
theorem d_law_1033 : decode code 1033 = .ok (.iload 4, 2) := by decide +kernel
theorem d_law_1035 : decode code 1035 = .ok (.iconst 2, 1) := by decide +kernel
theorem d_law_1036 : decode code 1036 = .ok (.iadd, 1) := by decide +kernel
theorem d_law_1037 : decode code 1037 = .ok (.iaload, 1) := by decide +kernel
theorem d_law_1038 : decode code 1038 = .ok (.invokevirtual 129, 3) := by decide +kernel
theorem d_law_1041 : decode code 1041 = .ok (.aload_n 2, 1) := by decide +kernel
theorem d_law_1042 : decode code 1042 = .ok (.aload_n 0, 1) := by decide +kernel
theorem d_law_1043 : decode code 1043 = .ok (.iload 4, 2) := by decide +kernel
theorem d_law_1045 : decode code 1045 = .ok (.iconst 1, 1) := by decide +kernel
theorem d_law_1046 : decode code 1046 = .ok (.iadd, 1) := by decide +kernel
theorem d_law_1047 : decode code 1047 = .ok (.iaload, 1) := by decide +kernel
theorem d_law_1048 : decode code 1048 = .ok (.aload_n 0, 1) := by decide +kernel
theorem d_law_1049 : decode code 1049 = .ok (.iload 4, 2) := by decide +kernel
theorem d_law_1051 : decode code 1051 = .ok (.iconst 2, 1) := by decide +kernel
theorem d_law_1052 : decode code 1052 = .ok (.iadd, 1) := by decide +kernel
theorem d_law_1053 : decode code 1053 = .ok (.iaload, 1) := by decide +kernel
theorem d_law_1054 : decode code 1054 = .ok (.invokevirtual 132, 3) := by decide +kernel
theorem d_law_1057 : decode code 1057 = .ok (.if_icmp .eq 169, 3) := by decide +kernel
theorem d_law_1060 : decode code 1060 = .ok (.iconst 0, 1) := by decide +kernel
theorem d_law_1061 : decode code 1061 = .ok (.ireturn, 1) := by decide +kernel
theorem d_law_1062 : decode code 1062 = .ok (.aload_n 1, 1) := by decide +kernel
theorem d_law_1063 : decode code 1063 = .ok (.aload_n 0, 1) := by decide +kernel
theorem d_law_1064 : decode code 1064 = .ok (.iload 4, 2) := by decide +kernel
theorem d_law_1066 : decode code 1066 = .ok (.iconst 1, 1) := by decide +kernel
theorem d_law_1067 : decode code 1067 = .ok (.iadd, 1) := by decide +kernel
theorem d_law_1068 : decode code 1068 = .ok (.iaload, 1) := by decide +kernel
theorem d_law_1069 : decode code 1069 = .ok (.aload_n 0, 1) := by decide +kernel
theorem d_law_1070 : decode code 1070 = .ok (.iload 4, 2) := by decide +kernel
theorem d_law_1072 : decode code 1072 = .ok (.iconst 2, 1) := by decide +kernel
theorem d_law_1073 : decode code 1073 = .ok (.iadd, 1) := by decide +kernel
theorem d_law_1074 : decode code 1074 = .ok (.iaload, 1) := by decide +kernel
theorem d_law_1075 : decode code 1075 = .ok (.invokevirtual 133, 3) := by decide +kernel
