theorem dL_law_848 : decode cL_law 848 = .ok (.invokevirtual 102, 3) := by decide +kernel
theorem dL_law_851 : decode cL_law 851 = .ok (.aload_n 2, 1) := by decide +kernel
theorem dL_law_852 : decode cL_law 852 = .ok (.aload_n 0, 1) := by decide +kernel
theorem dL_law_853 : decode cL_law 853 = .ok (.iload_n 3, 1) := by decide +kernel
theorem dL_law_854 : decode cL_law 854 = .ok (.iconst 1, 1) := by decide +kernel
theorem dL_law_855 : decode cL_law 855 = .ok (.iadd, 1) := by decide +kernel
theorem dL_law_856 : decode cL_law 856 = .ok (.iaload, 1) := by decide +kernel
theorem dL_law_857 : decode cL_law 857 = .ok (.aload_n 0, 1) := by decide +kernel
theorem dL_law_858 : decode cL_law 858 = .ok (.iload_n 3, 1) := by decide +kernel
theorem dL_law_859 : decode cL_law 859 = .ok (.iconst 2, 1) := by decide +kernel
theorem dL_law_860 : decode cL_law 860 = .ok (.iadd, 1) := by decide +kernel
theorem dL_law_861 : decode cL_law 861 = .ok (.iaload, 1) := by decide +kernel
theorem dL_law_862 : decode cL_law 862 = .ok (.invokevirtual 105, 3) := by decide +kernel
theorem dL_law_865 : decode cL_law 865 = .ok (.if_icmp .eq 614, 3) := by decide +kernel
theorem dL_law_868 : decode cL_law 868 = .ok (.iconst 0, 1) := by decide +kernel
theorem dL_law_869 : decode cL_law 869 = .ok (.ireturn, 1) := by decide +kernel
theorem dL_law_870 : decode cL_law 870 = .ok (.aload_n 1, 1) := by decide +kernel
theorem dL_law_871 : decode cL_law 871 = .ok (.aload_n 0, 1) := by decide +kernel
theorem dL_law_872 : decode cL_law 872 = .ok (.iload_n 3, 1) := by decide +kernel
theorem dL_law_873 : decode cL_law 873 = .ok (.iconst 1, 1) := by decide +kernel
theorem dL_law_874 : decode cL_law 874 = .ok (.iadd, 1) := by decide +kernel
theorem dL_law_875 : decode cL_law 875 = .ok (.iaload, 1) := by decide +kernel
theorem dL_law_876 : decode cL_law 876 = .ok (.aload_n 0, 1) := by decide +kernel
theorem dL_law_877 : decode cL_law 877 = .ok (.iload_n 3, 1) := by decide +kernel
theorem dL_law_878 : decode cL_law 878 = .ok (.iconst 2, 1) := by decide +kernel
theorem dL_law_879 : decode cL_law 879 = .ok (.iadd, 1) := by decide +kernel
theorem dL_law_880 : decode cL_law 880 = .ok (.iaload, 1) := by decide +kernel
theorem dL_law_881 : decode cL_law 881 = .ok (.invokevirtual 106, 3) := by decide +kernel
theorem dL_law_884 : decode cL_law 884 = .ok (.aload_n 2, 1) := by decide +kernel
theorem dL_law_885 : decode cL_law 885 = .ok (.aload_n 0, 1) := by decide +kernel
theorem dL_law_886 : decode cL_law 886 = .ok (.iload_n 3, 1) := by decide +kernel
theorem dL_law_887 : decode cL_law 887 = .ok (.iconst 1, 1) := by decide +kernel
theorem dL_law_888 : decode cL_law 888 = .ok (.iadd, 1) := by decide +kernel
theorem dL_law_889 : decode cL_law 889 = .ok (.iaload, 1) := by decide +kernel
theorem dL_law_890 : decode cL_law 890 = .ok (.aload_n 0, 1) := by decide +kernel
theorem dL_law_891 : decode cL_law 891 = .ok (.iload_n 3, 1) := by decide +kernel
theorem dL_law_892 : decode cL_law 892 = .ok (.iconst 2, 1) := by decide +kernel
theorem dL_law_893 : decode cL_law 893 = .ok (.iadd, 1) := by decide +kernel
theorem dL_law_894 : decode cL_law 894 = .ok (.iaload, 1) := by decide +kernel
theorem dL_law_895 : decode cL_law 895 = .ok (.invokevirtual 109, 3) := by decide +kernel
theorem dL_law_898 : decode cL_law 898 = .ok (.if_icmp .eq 581, 3) := by decide +kernel
theorem dL_law_901 : decode cL_law 901 = .ok (.iconst 0, 1) := by decide +kernel
theorem dL_law_902 : decode cL_law 902 = .ok (.ireturn, 1) := by decide +kernel
theorem dL_law_903 : decode cL_law 903 = .ok (.aload_n 1, 1) := by decide +kernel
theorem dL_law_904 : decode cL_law 904 = .ok (.aload_n 0, 1) := by decide +kernel
theorem dL_law_905 : decode cL_law 905 = .ok (.iload_n 3, 1) := by decide +kernel
theorem dL_law_906 : decode cL_law 906 = .ok (.iconst 1, 1) := by decide +kernel
theorem dL_law_907 : decode cL_law 907 = .ok (.iadd, 1) := by decide +kernel
theorem dL_law_908 : decode cL_law 908 = .ok (.iaload, 1) := by decide +kernel
theorem dL_law_909 : decode cL_law 909 = .ok (.aload_n 0, 1) := by decide +kernel
theorem dL_law_910 : decode cL_law 910 = .ok (.iload_n 3, 1) := by decide +kernel
theorem dL_law_911 : decode cL_law 911 = .ok (.iconst 2, 1) := by decide +kernel
theorem dL_law_912 : decode cL_law 912 = .ok (.iadd, 1) := by decide +kernel
theorem dL_law_913 : decode cL_law 913 = .ok (.iaload, 1) := by decide +kernel
theorem dL_law_914 : decode cL_law 914 = .ok (.invokevirtual 110, 3) := by decide +kernel
theorem dL_law_917 : decode cL_law 917 = .ok (.aload_n 2, 1) := by decide +kernel
theorem dL_law_918 : decode cL_law 918 = .ok (.aload_n 0, 1) := by decide +kernel
theorem dL_law_919 : decode cL_law 919 = .ok (.iload_n 3, 1) := by decide +kernel
theorem dL_law_920 : decode cL_law 920 = .ok (.iconst 1, 1) := by decide +kernel
theorem dL_law_921 : decode cL_law 921 = .ok (.iadd, 1) := by decide +kernel
theorem dL_law_922 : decode cL_law 922 = .ok (.iaload, 1) := by decide +kernel
theorem dL_law_923 : decode cL_law 923 = .ok (.aload_n 0, 1) := by decide +kernel
theorem dL_law_924 : decode cL_law 924 = .ok (.iload_n 3, 1) := by decide +kernel
theorem dL_law_925 : decode cL_law 925 = .ok (.iconst 2, 1) := by decide +kernel
theorem dL_law_926 : decode cL_law 926 = .ok (.iadd, 1) := by decide +kernel
theorem dL_law_927 : decode cL_law 927 = .ok (.iaload, 1) := by decide +kernel
theorem dL_law_928 : decode cL_law 928 = .ok (.invokevirtual 113, 3) := by decide +kernel
theorem dL_law_931 : decode cL_law 931 = .ok (.if_icmp .eq 548, 3) := by decide +kernel
theorem dL_law_934 : decode cL_law 934 = .ok (.iconst 0, 1) := by decide +kernel
theorem dL_law_935 : decode cL_law 935 = .ok (.ireturn, 1) := by decide +kernel
theorem dL_law_936 : decode cL_law 936 = .ok (.aload_n 1, 1) := by decide +kernel
theorem dL_law_937 : decode cL_law 937 = .ok (.aload_n 0, 1) := by decide +kernel
theorem dL_law_938 : decode cL_law 938 = .ok (.iload_n 3, 1) := by decide +kernel
theorem dL_law_939 : decode cL_law 939 = .ok (.iconst 1, 1) := by decide +kernel
theorem dL_law_940 : decode cL_law 940 = .ok (.iadd, 1) := by decide +kernel
theorem dL_law_941 : decode cL_law 941 = .ok (.iaload, 1) := by decide +kernel
theorem dL_law_942 : decode cL_law 942 = .ok (.aload_n 0, 1) := by decide +kernel
theorem dL_law_943 : decode cL_law 943 = .ok (.iload_n 3, 1) := by decide +kernel
theorem dL_law_944 : decode cL_law 944 = .ok (.iconst 2, 1) := by decide +kernel
theorem dL_law_945 : decode cL_law 945 = .ok (.iadd, 1) := by decide +kernel
theorem dL_law_946 : decode cL_law 946 = .ok (.iaload, 1) := by decide +kernel
theorem dL_law_947 : decode cL_law 947 = .ok (.invokevirtual 114, 3) := by decide +kernel
theorem dL_law_950 : decode cL_law 950 = .ok (.aload_n 2, 1) := by decide +kernel
theorem dL_law_951 : decode cL_law 951 = .ok (.aload_n 0, 1) := by decide +kernel
theorem dL_law_952 : decode cL_law 952 = .ok (.iload_n 3, 1) := by decide +kernel
theorem dL_law_953 : decode cL_law 953 = .ok (.iconst 1, 1) := by decide +kernel
theorem dL_law_954 : decode cL_law 954 = .ok (.iadd, 1) := by decide +kernel
theorem dL_law_955 : decode cL_law 955 = .ok (.iaload, 1) := by decide +kernel
theorem dL_law_956 : decode cL_law 956 = .ok (.aload_n 0, 1) := by decide +kernel
theorem dL_law_957 : decode cL_law 957 = .ok (.iload_n 3, 1) := by decide +kernel
theorem dL_law_958 : decode cL_law 958 = .ok (.iconst 2, 1) := by decide +kernel
theorem dL_law_959 : decode cL_law 959 = .ok (.iadd, 1) := by decide +kernel
theorem dL_law_960 : decode cL_law 960 = .ok (.iaload, 1) := by decide +kernel
theorem dL_law_961 : decode cL_law 961 = .ok (.invokevirtual 117, 3) := by decide +kernel
theorem dL_law_964 : decode cL_law 964 = .ok (.if_icmp .eq 515, 3) := by decide +kernel
theorem dL_law_967 : decode cL_law 967 = .ok (.iconst 0, 1) := by decide +kernel
theorem dL_law_968 : decode cL_law 968 = .ok (.ireturn, 1) := by decide +kernel
theorem dL_law_969 : decode cL_law 969 = .ok (.aload_n 1, 1) := by decide +kernel
theorem dL_law_970 : decode cL_law 970 = .ok (.invokevirtual 118, 3) := by decide +kernel
theorem dL_law_973 : decode cL_law 973 = .ok (.aload_n 2, 1) := by decide +kernel
theorem dL_law_974 : decode cL_law 974 = .ok (.invokevirtual 121, 3) := by decide +kernel
theorem dL_law_977 : decode cL_law 977 = .ok (.if_icmp .eq 502, 3) := by decide +kernel
theorem dL_law_980 : decode cL_law 980 = .ok (.iconst 0, 1) := by decide +kernel
theorem dL_law_981 : decode cL_law 981 = .ok (.ireturn, 1) := by decide +kernel
theorem dL_law_982 : decode cL_law 982 = .ok (.aload_n 1, 1) := by decide +kernel
theorem dL_law_983 : decode cL_law 983 = .ok (.aload_n 0, 1) := by decide +kernel
theorem dL_law_984 : decode cL_law 984 = .ok (.iload_n 3, 1) := by decide +kernel
theorem dL_law_985 : decode cL_law 985 = .ok (.iconst 1, 1) := by decide +kernel
theorem dL_law_986 : decode cL_law 986 = .ok (.iadd, 1) := by decide +kernel
theorem dL_law_987 : decode cL_law 987 = .ok (.iaload, 1) := by decide +kernel
theorem dL_law_988 : decode cL_law 988 = .ok (.aload_n 0, 1) := by decide +kernel
theorem dL_law_989 : decode cL_law 989 = .ok (.iload_n 3, 1) := by decide +kernel
theorem dL_law_990 : decode cL_law 990 = .ok (.iconst 2, 1) := by decide +kernel
theorem dL_law_991 : decode cL_law 991 = .ok (.iadd, 1) := by decide +kernel
theorem dL_law_992 : decode cL_law 992 = .ok (.iaload, 1) := by decide +kernel
theorem dL_law_993 : decode cL_law 993 = .ok (.invokevirtual 122, 3) := by decide +kernel
theorem dL_law_996 : decode cL_law 996 = .ok (.aload_n 2, 1) := by decide +kernel
theorem dL_law_997 : decode cL_law 997 = .ok (.aload_n 0, 1) := by decide +kernel
theorem dL_law_998 : decode cL_law 998 = .ok (.iload_n 3, 1) := by decide +kernel
theorem dL_law_999 : decode cL_law 999 = .ok (.iconst 1, 1) := by decide +kernel
theorem dL_law_1000 : decode cL_law 1000 = .ok (.iadd, 1) := by decide +kernel
theorem dL_law_1001 : decode cL_law 1001 = .ok (.iaload, 1) := by decide +kernel
theorem dL_law_1002 : decode cL_law 1002 = .ok (.aload_n 0, 1) := by decide +kernel
theorem dL_law_1003 : decode cL_law 1003 = .ok (.iload_n 3, 1) := by decide +kernel
theorem dL_law_1004 : decode cL_law 1004 = .ok (.iconst 2, 1) := by decide +kernel
theorem dL_law_1005 : decode cL_law 1005 = .ok (.iadd, 1) := by decide +kernel
theorem dL_law_1006 : decode cL_law 1006 = .ok (.iaload, 1) := by decide +kernel
theorem dL_law_1007 : decode cL_law 1007 = .ok (.invokevirtual 125, 3) := by decide +kernel
theorem dL_law_1010 : decode cL_law 1010 = .ok (.if_icmp .eq 469, 3) := by decide +kernel
theorem dL_law_1013 : decode cL_law 1013 = .ok (.iconst 0, 1) := by decide +kernel
theorem dL_law_1014 : decode cL_law 1014 = .ok (.ireturn, 1) := by decide +kernel
theorem dL_law_1015 : decode cL_law 1015 = .ok (.aload_n 1, 1) := by decide +kernel
theorem dL_law_1016 : decode cL_law 1016 = .ok (.aload_n 0, 1) := by decide +kernel
theorem dL_law_1017 : decode cL_law 1017 = .ok (.iload_n 3, 1) := by decide +kernel
theorem dL_law_1018 : decode cL_law 1018 = .ok (.iconst 1, 1) := by decide +kernel
theorem dL_law_1019 : decode cL_law 1019 = .ok (.iadd, 1) := by decide +kernel
theorem dL_law_1020 : decode cL_law 1020 = .ok (.iaload, 1) := by decide +kernel
theorem dL_law_1021 : decode cL_law 1021 = .ok (.aload_n 0, 1) := by decide +kernel
theorem dL_law_1022 : decode cL_law 1022 = .ok (.iload_n 3, 1) := by decide +kernel
theorem dL_law_1023 : decode cL_law 1023 = .ok (.iconst 2, 1) := by decide +kernel
theorem dL_law_1024 : decode cL_law 1024 = .ok (.iadd, 1) := by decide +kernel
theorem dL_law_1025 : decode cL_law 1025 = .ok (.iaload, 1) := by decide +kernel
theorem dL_law_1026 : decode cL_law 1026 = .ok (.invokevirtual 126, 3) := by decide +kernel
theorem dL_law_1029 : decode cL_law 1029 = .ok (.aload_n 2, 1) := by decide +kernel
theorem dL_law_1030 : decode cL_law 1030 = .ok (.aload_n 0, 1) := by decide +kernel
theorem dL_law_1031 : decode cL_law 1031 = .ok (.iload_n 3, 1) := by decide +kernel
theorem dL_law_1032 : decode cL_law 1032 = .ok (.iconst 1, 1) := by decide +kernel
theorem dL_law_1033 : decode cL_law 1033 = .ok (.iadd, 1) := by decide +kernel
theorem dL_law_1034 : decode cL_law 1034 = .ok (.iaload, 1) := by decide +kernel
theorem dL_law_1035 : decode cL_law 1035 = .ok (.aload_n 0, 1) := by decide +kernel
theorem dL_law_1036 : decode cL_law 1036 = .ok (.iload_n 3, 1) := by decide +kernel
theorem dL_law_1037 : decode cL_law 1037 = .ok (.iconst 2, 1) := by decide +kernel
theorem dL_law_1038 : decode cL_law 1038 = .ok (.iadd, 1) := by decide +kernel
theorem dL_law_1039 : decode cL_law 1039 = .ok (.iaload, 1) := by decide +kernel
theorem dL_law_1040 : decode cL_law 1040 = .ok (.invokevirtual 129, 3) := by decide +kernel
theorem dL_law_1043 : decode cL_law 1043 = .ok (.if_icmp .eq 436, 3) := by decide +kernel
theorem dL_law_1046 : decode cL_law 1046 = .ok (.iconst 0, 1) := by decide +kernel
theorem dL_law_1047 : decode cL_law 1047 = .ok (.ireturn, 1) := by decide +kernel
theorem dL_law_1048 : decode cL_law 1048 = .ok (.aload_n 1, 1) := by decide +kernel
theorem dL_law_1049 : decode cL_law 1049 = .ok (.aload_n 0, 1) := by decide +kernel
theorem dL_law_1050 : decode cL_law 1050 = .ok (.iload_n 3, 1) := by decide +kernel
theorem dL_law_1051 : decode cL_law 1051 = .ok (.iconst 1, 1) := by decide +kernel
theorem dL_law_1052 : decode cL_law 1052 = .ok (.iadd, 1) := by decide +kernel
theorem dL_law_1053 : decode cL_law 1053 = .ok (.iaload, 1) := by decide +kernel
theorem dL_law_1054 : decode cL_law 1054 = .ok (.aload_n 0, 1) := by decide +kernel
theorem dL_law_1055 : decode cL_law 1055 = .ok (.iload_n 3, 1) := by decide +kernel
theorem dL_law_1056 : decode cL_law 1056 = .ok (.iconst 2, 1) := by decide +kernel
theorem dL_law_1057 : decode cL_law 1057 = .ok (.iadd, 1) := by decide +kernel
theorem dL_law_1058 : decode cL_law 1058 = .ok (.iaload, 1) := by decide +kernel
theorem dL_law_1059 : decode cL_law 1059 = .ok (.invokevirtual 130, 3) := by decide +kernel
theorem dL_law_1062 : decode cL_law 1062 = .ok (.aload_n 2, 1) := by decide +kernel
theorem dL_law_1063 : decode cL_law 1063 = .ok (.aload_n 0, 1) := by decide +kernel
theorem dL_law_1064 : decode cL_law 1064 = .ok (.iload_n 3, 1) := by decide +kernel
theorem dL_law_1065 : decode cL_law 1065 = .ok (.iconst 1, 1) := by decide +kernel
theorem dL_law_1066 : decode cL_law 1066 = .ok (.iadd, 1) := by decide +kernel
theorem dL_law_1067 : decode cL_law 1067 = .ok (.iaload, 1) := by decide +kernel
theorem dL_law_1068 : decode cL_law 1068 = .ok (.aload_n 0, 1) := by decide +kernel
theorem dL_law_1069 : decode cL_law 1069 = .ok (.iload_n 3, 1) := by decide +kernel
theorem dL_law_1070 : decode cL_law 1070 = .ok (.iconst 2, 1) := by decide +kernel
theorem dL_law_1071 : decode cL_law 1071 = .ok (.iadd, 1) := by decide +kernel
theorem dL_law_1072 : decode cL_law 1072 = .ok (.iaload, 1) := by decide +kernel
theorem dL_law_1073 : decode cL_law 1073 = .ok (.invokevirtual 133, 3) := by decide +kernel
theorem dL_law_1076 : decode cL_law 1076 = .ok (.if_icmp .eq 403, 3) := by decide +kernel
theorem dL_law_1079 : decode cL_law 1079 = .ok (.iconst 0, 1) := by decide +kernel
theorem dL_law_1080 : decode cL_law 1080 = .ok (.ireturn, 1) := by decide +kernel
theorem dL_law_1081 : decode cL_law 1081 = .ok (.aload_n 1, 1) := by decide +kernel
theorem dL_law_1082 : decode cL_law 1082 = .ok (.aload_n 0, 1) := by decide +kernel
theorem dL_law_1083 : decode cL_law 1083 = .ok (.iload_n 3, 1) := by decide +kernel
theorem dL_law_1084 : decode cL_law 1084 = .ok (.iconst 1, 1) := by decide +kernel
theorem dL_law_1085 : decode cL_law 1085 = .ok (.iadd, 1) := by decide +kernel
theorem dL_law_1086 : decode cL_law 1086 = .ok (.iaload, 1) := by decide +kernel
theorem dL_law_1087 : decode cL_law 1087 = .ok (.invokevirtual 134, 3) := by decide +kernel
theorem dL_law_1090 : decode cL_law 1090 = .ok (.aload_n 2, 1) := by decide +kernel
theorem dL_law_1091 : decode cL_law 1091 = .ok (.aload_n 0, 1) := by decide +kernel
theorem dL_law_1092 : decode cL_law 1092 = .ok (.iload_n 3, 1) := by decide +kernel
theorem dL_law_1093 : decode cL_law 1093 = .ok (.iconst 1, 1) := by decide +kernel
theorem dL_law_1094 : decode cL_law 1094 = .ok (.iadd, 1) := by decide +kernel
theorem dL_law_1095 : decode cL_law 1095 = .ok (.iaload, 1) := by decide +kernel
theorem dL_law_1096 : decode cL_law 1096 = .ok (.invokevirtual 137, 3) := by decide +kernel
theorem dL_law_1099 : decode cL_law 1099 = .ok (.if_icmp .eq 380, 3) := by decide +kernel
theorem dL_law_1102 : decode cL_law 1102 = .ok (.iconst 0, 1) := by decide +kernel
theorem dL_law_1103 : decode cL_law 1103 = .ok (.ireturn, 1) := by decide +kernel
theorem dL_law_1104 : decode cL_law 1104 = .ok (.aload_n 1, 1) := by decide +kernel
theorem dL_law_1105 : decode cL_law 1105 = .ok (.aload_n 0, 1) := by decide +kernel
theorem dL_law_1106 : decode cL_law 1106 = .ok (.iload_n 3, 1) := by decide +kernel
theorem dL_law_1107 : decode cL_law 1107 = .ok (.iconst 1, 1) := by decide +kernel
theorem dL_law_1108 : decode cL_law 1108 = .ok (.iadd, 1) := by decide +kernel
theorem dL_law_1109 : decode cL_law 1109 = .ok (.iaload, 1) := by decide +kernel
theorem dL_law_1110 : decode cL_law 1110 = .ok (.invokevirtual 138, 3) := by decide +kernel
theorem dL_law_1113 : decode cL_law 1113 = .ok (.aload_n 2, 1) := by decide +kernel
theorem dL_law_1114 : decode cL_law 1114 = .ok (.aload_n 0, 1) := by decide +kernel
theorem dL_law_1115 : decode cL_law 1115 = .ok (.iload_n 3, 1) := by decide +kernel
theorem dL_law_1116 : decode cL_law 1116 = .ok (.iconst 1, 1) := by decide +kernel
theorem dL_law_1117 : decode cL_law 1117 = .ok (.iadd, 1) := by decide +kernel
theorem dL_law_1118 : decode cL_law 1118 = .ok (.iaload, 1) := by decide +kernel
theorem dL_law_1119 : decode cL_law 1119 = .ok (.invokevirtual 141, 3) := by decide +kernel
theorem dL_law_1122 : decode cL_law 1122 = .ok (.if_icmp .eq 357, 3) := by decide +kernel
theorem dL_law_1125 : decode cL_law 1125 = .ok (.iconst 0, 1) := by decide +kernel
theorem dL_law_1126 : decode cL_law 1126 = .ok (.ireturn, 1) := by decide +kernel
theorem dL_law_1127 : decode cL_law 1127 = .ok (.aload_n 1, 1) := by decide +kernel
theorem dL_law_1128 : decode cL_law 1128 = .ok (.aload_n 0, 1) := by decide +kernel
theorem dL_law_1129 : decode cL_law 1129 = .ok (.iload_n 3, 1) := by decide +kernel
theorem dL_law_1130 : decode cL_law 1130 = .ok (.iconst 1, 1) := by decide +kernel
theorem dL_law_1131 : decode cL_law 1131 = .ok (.iadd, 1) := by decide +kernel
theorem dL_law_1132 : decode cL_law 1132 = .ok (.iaload, 1) := by decide +kernel
theorem dL_law_1133 : decode cL_law 1133 = .ok (.aload_n 0, 1) := by decide +kernel
theorem dL_law_1134 : decode cL_law 1134 = .ok (.iload_n 3, 1) := by decide +kernel
theorem dL_law_1135 : decode cL_law 1135 = .ok (.iconst 2, 1) := by decide +kernel
theorem dL_law_1136 : decode cL_law 1136 = .ok (.iadd, 1) := by decide +kernel
theorem dL_law_1137 : decode cL_law 1137 = .ok (.iaload, 1) := by decide +kernel
theorem dL_law_1138 : decode cL_law 1138 = .ok (.aload_n 0, 1) := by decide +kernel
theorem dL_law_1139 : decode cL_law 1139 = .ok (.iload_n 3, 1) := by decide +kernel
theorem dL_law_1140 : decode cL_law 1140 = .ok (.iconst 3, 1) := by decide +kernel
theorem dL_law_1141 : decode cL_law 1141 = .ok (.iadd, 1) := by decide +kernel
theorem dL_law_1142 : decode cL_law 1142 = .ok (.iaload, 1) := by decide +kernel
theorem dL_law_1143 : decode cL_law 1143 = .ok (.aload_n 0, 1) := by decide +kernel
theorem dL_law_1144 : decode cL_law 1144 = .ok (.iload_n 3, 1) := by decide +kernel
theorem dL_law_1145 : decode cL_law 1145 = .ok (.iconst 4, 1) := by decide +kernel
theorem dL_law_1146 : decode cL_law 1146 = .ok (.iadd, 1) := by decide +kernel
theorem dL_law_1147 : decode cL_law 1147 = .ok (.iaload, 1) := by decide +kernel
theorem dL_law_1148 : decode cL_law 1148 = .ok (.invokevirtual 142, 3) := by decide +kernel
theorem dL_law_1151 : decode cL_law 1151 = .ok (.aload_n 2, 1) := by decide +kernel
theorem dL_law_1152 : decode cL_law 1152 = .ok (.aload_n 0, 1) := by decide +kernel
theorem dL_law_1153 : decode cL_law 1153 = .ok (.iload_n 3, 1) := by decide +kernel
theorem dL_law_1154 : decode cL_law 1154 = .ok (.iconst 1, 1) := by decide +kernel
theorem dL_law_1155 : decode cL_law 1155 = .ok (.iadd, 1) := by decide +kernel
theorem dL_law_1156 : decode cL_law 1156 = .ok (.iaload, 1) := by decide +kernel
theorem dL_law_1157 : decode cL_law 1157 = .ok (.aload_n 0, 1) := by decide +kernel
theorem dL_law_1158 : decode cL_law 1158 = .ok (.iload_n 3, 1) := by decide +kernel
theorem dL_law_1159 : decode cL_law 1159 = .ok (.iconst 2, 1) := by decide +kernel
theorem dL_law_1160 : decode cL_law 1160 = .ok (.iadd, 1) := by decide +kernel
theorem dL_law_1161 : decode cL_law 1161 = .ok (.iaload, 1) := by decide +kernel
theorem dL_law_1162 : decode cL_law 1162 = .ok (.aload_n 0, 1) := by decide +kernel
theorem dL_law_1163 : decode cL_law 1163 = .ok (.iload_n 3, 1) := by decide +kernel
theorem dL_law_1164 : decode cL_law 1164 = .ok (.iconst 3, 1) := by decide +kernel
theorem dL_law_1165 : decode cL_law 1165 = .ok (.iadd, 1) := by decide +kernel
theorem dL_law_1166 : decode cL_law 1166 = .ok (.iaload, 1) := by decide +kernel
theorem dL_law_1167 : decode cL_law 1167 = .ok (.aload_n 0, 1) := by decide +kernel
theorem dL_law_1168 : decode cL_law 1168 = .ok (.iload_n 3, 1) := by decide +kernel
theorem dL_law_1169 : decode cL_law 1169 = .ok (.iconst 4, 1) := by decide +kernel
theorem dL_law_1170 : decode cL_law 1170 = .ok (.iadd, 1) := by decide +kernel
theorem dL_law_1171 : decode cL_law 1171 = .ok (.iaload, 1) := by decide +kernel
theorem dL_law_1172 : decode cL_law 1172 = .ok (.invokevirtual 146, 3) := by decide +kernel
theorem dL_law_1175 : decode cL_law 1175 = .ok (.if_icmp .eq 304, 3) := by decide +kernel
theorem dL_law_1178 : decode cL_law 1178 = .ok (.iconst 0, 1) := by decide +kernel
theorem dL_law_1179 : decode cL_law 1179 = .ok (.ireturn, 1) := by decide +kernel
theorem dL_law_1180 : decode cL_law 1180 = .ok (.aload_n 1, 1) := by decide +kernel
theorem dL_law_1181 : decode cL_law 1181 = .ok (.aload_n 0, 1) := by decide +kernel
theorem dL_law_1182 : decode cL_law 1182 = .ok (.iload_n 3, 1) := by decide +kernel
theorem dL_law_1183 : decode cL_law 1183 = .ok (.iconst 1, 1) := by decide +kernel
theorem dL_law_1184 : decode cL_law 1184 = .ok (.iadd, 1) := by decide +kernel
theorem dL_law_1185 : decode cL_law 1185 = .ok (.iaload, 1) := by decide +kernel
theorem dL_law_1186 : decode cL_law 1186 = .ok (.aload_n 0, 1) := by decide +kernel
theorem dL_law_1187 : decode cL_law 1187 = .ok (.iload_n 3, 1) := by decide +kernel
theorem dL_law_1188 : decode cL_law 1188 = .ok (.iconst 2, 1) := by decide +kernel
theorem dL_law_1189 : decode cL_law 1189 = .ok (.iadd, 1) := by decide +kernel
theorem dL_law_1190 : decode cL_law 1190 = .ok (.iaload, 1) := by decide +kernel
theorem dL_law_1191 : decode cL_law 1191 = .ok (.invokevirtual 147, 3) := by decide +kernel
theorem dL_law_1194 : decode cL_law 1194 = .ok (.aload_n 2, 1) := by decide +kernel
theorem dL_law_1195 : decode cL_law 1195 = .ok (.aload_n 0, 1) := by decide +kernel
theorem dL_law_1196 : decode cL_law 1196 = .ok (.iload_n 3, 1) := by decide +kernel
theorem dL_law_1197 : decode cL_law 1197 = .ok (.iconst 1, 1) := by decide +kernel
theorem dL_law_1198 : decode cL_law 1198 = .ok (.iadd, 1) := by decide +kernel
theorem dL_law_1199 : decode cL_law 1199 = .ok (.iaload, 1) := by decide +kernel
theorem dL_law_1200 : decode cL_law 1200 = .ok (.aload_n 0, 1) := by decide +kernel
theorem dL_law_1201 : decode cL_law 1201 = .ok (.iload_n 3, 1) := by decide +kernel
theorem dL_law_1202 : decode cL_law 1202 = .ok (.iconst 2, 1) := by decide +kernel
theorem dL_law_1203 : decode cL_law 1203 = .ok (.iadd, 1) := by decide +kernel
theorem dL_law_1204 : decode cL_law 1204 = .ok (.iaload, 1) := by decide +kernel
theorem dL_law_1205 : decode cL_law 1205 = .ok (.invokevirtual 150, 3) := by decide +kernel
theorem dL_law_1208 : decode cL_law 1208 = .ok (.if_icmp .eq 271, 3) := by decide +kernel
theorem dL_law_1211 : decode cL_law 1211 = .ok (.iconst 0, 1) := by decide +kernel
theorem dL_law_1212 : decode cL_law 1212 = .ok (.ireturn, 1) := by decide +kernel
theorem dL_law_1213 : decode cL_law 1213 = .ok (.aload_n 1, 1) := by decide +kernel
theorem dL_law_1214 : decode cL_law 1214 = .ok (.aload_n 0, 1) := by decide +kernel
theorem dL_law_1215 : decode cL_law 1215 = .ok (.iload_n 3, 1) := by decide +kernel
theorem dL_law_1216 : decode cL_law 1216 = .ok (.iconst 1, 1) := by decide +kernel
theorem dL_law_1217 : decode cL_law 1217 = .ok (.iadd, 1) := by decide +kernel
theorem dL_law_1218 : decode cL_law 1218 = .ok (.iaload, 1) := by decide +kernel
theorem dL_law_1219 : decode cL_law 1219 = .ok (.aload_n 0, 1) := by decide +kernel
theorem dL_law_1220 : decode cL_law 1220 = .ok (.iload_n 3, 1) := by decide +kernel
theorem dL_law_1221 : decode cL_law 1221 = .ok (.iconst 2, 1) := by decide +kernel
theorem dL_law_1222 : decode cL_law 1222 = .ok (.iadd, 1) := by decide +kernel
theorem dL_law_1223 : decode cL_law 1223 = .ok (.iaload, 1) := by decide +kernel
theorem dL_law_1224 : decode cL_law 1224 = .ok (.invokevirtual 151, 3) := by decide +kernel
theorem dL_law_1227 : decode cL_law 1227 = .ok (.aload_n 2, 1) := by decide +kernel
theorem dL_law_1228 : decode cL_law 1228 = .ok (.aload_n 0, 1) := by decide +kernel
theorem dL_law_1229 : decode cL_law 1229 = .ok (.iload_n 3, 1) := by decide +kernel
theorem dL_law_1230 : decode cL_law 1230 = .ok (.iconst 1, 1) := by decide +kernel
theorem dL_law_1231 : decode cL_law 1231 = .ok (.iadd, 1) := by decide +kernel
theorem dL_law_1232 : decode cL_law 1232 = .ok (.iaload, 1) := by decide +kernel
theorem dL_law_1233 : decode cL_law 1233 = .ok (.aload_n 0, 1) := by decide +kernel
theorem dL_law_1234 : decode cL_law 1234 = .ok (.iload_n 3, 1) := by decide +kernel
theorem dL_law_1235 : decode cL_law 1235 = .ok (.iconst 2, 1) := by decide +kernel
theorem dL_law_1236 : decode cL_law 1236 = .ok (.iadd, 1) := by decide +kernel
theorem dL_law_1237 : decode cL_law 1237 = .ok (.iaload, 1) := by decide +kernel
theorem dL_law_1238 : decode cL_law 1238 = .ok (.invokevirtual 154, 3) := by decide +kernel
theorem dL_law_1241 : decode cL_law 1241 = .ok (.if_icmp .eq 238, 3) := by decide +kernel
theorem dL_law_1244 : decode cL_law 1244 = .ok (.iconst 0, 1) := by decide +kernel
theorem dL_law_1245 : decode cL_law 1245 = .ok (.ireturn, 1) := by decide +kernel
theorem dL_law_1246 : decode cL_law 1246 = .ok (.aload_n 1, 1) := by decide +kernel
theorem dL_law_1247 : decode cL_law 1247 = .ok (.aload_n 0, 1) := by decide +kernel
theorem dL_law_1248 : decode cL_law 1248 = .ok (.iload_n 3, 1) := by decide +kernel
theorem dL_law_1249 : decode cL_law 1249 = .ok (.iconst 1, 1) := by decide +kernel
theorem dL_law_1250 : decode cL_law 1250 = .ok (.iadd, 1) := by decide +kernel
theorem dL_law_1251 : decode cL_law 1251 = .ok (.iaload, 1) := by decide +kernel
theorem dL_law_1252 : decode cL_law 1252 = .ok (.aload_n 0, 1) := by decide +kernel
theorem dL_law_1253 : decode cL_law 1253 = .ok (.iload_n 3, 1) := by decide +kernel
theorem dL_law_1254 : decode cL_law 1254 = .ok (.iconst 2, 1) := by decide +kernel
theorem dL_law_1255 : decode cL_law 1255 = .ok (.iadd, 1) := by decide +kernel
theorem dL_law_1256 : decode cL_law 1256 = .ok (.iaload, 1) := by decide +kernel
theorem dL_law_1257 : decode cL_law 1257 = .ok (.invokevirtual 155, 3) := by decide +kernel
theorem dL_law_1260 : decode cL_law 1260 = .ok (.aload_n 2, 1) := by decide +kernel
theorem dL_law_1261 : decode cL_law 1261 = .ok (.aload_n 0, 1) := by decide +kernel
theorem dL_law_1262 : decode cL_law 1262 = .ok (.iload_n 3, 1) := by decide +kernel
theorem dL_law_1263 : decode cL_law 1263 = .ok (.iconst 1, 1) := by decide +kernel
theorem dL_law_1264 : decode cL_law 1264 = .ok (.iadd, 1) := by decide +kernel
theorem dL_law_1265 : decode cL_law 1265 = .ok (.iaload, 1) := by decide +kernel
theorem dL_law_1266 : decode cL_law 1266 = .ok (.aload_n 0, 1) := by decide +kernel
theorem dL_law_1267 : decode cL_law 1267 = .ok (.iload_n 3, 1) := by decide +kernel
theorem dL_law_1268 : decode cL_law 1268 = .ok (.iconst 2, 1) := by decide +kernel
theorem dL_law_1269 : decode cL_law 1269 = .ok (.iadd, 1) := by decide +kernel
theorem dL_law_1270 : decode cL_law 1270 = .ok (.iaload, 1) := by decide +kernel
theorem dL_law_1271 : decode cL_law 1271 = .ok (.invokevirtual 158, 3) := by decide +kernel
theorem dL_law_1274 : decode cL_law 1274 = .ok (.if_icmp .eq 205, 3) := by decide +kernel
theorem dL_law_1277 : decode cL_law 1277 = .ok (.iconst 0, 1) := by decide +kernel
theorem dL_law_1278 : decode cL_law 1278 = .ok (.ireturn, 1) := by decide +kernel
theorem dL_law_1279 : decode cL_law 1279 = .ok (.aload_n 1, 1) := by decide +kernel
theorem dL_law_1280 : decode cL_law 1280 = .ok (.aload_n 0, 1) := by decide +kernel
theorem dL_law_1281 : decode cL_law 1281 = .ok (.iload_n 3, 1) := by decide +kernel
theorem dL_law_1282 : decode cL_law 1282 = .ok (.iconst 1, 1) := by decide +kernel
theorem dL_law_1283 : decode cL_law 1283 = .ok (.iadd, 1) := by decide +kernel
theorem dL_law_1284 : decode cL_law 1284 = .ok (.iaload, 1) := by decide +kernel
theorem dL_law_1285 : decode cL_law 1285 = .ok (.aload_n 0, 1) := by decide +kernel
theorem dL_law_1286 : decode cL_law 1286 = .ok (.iload_n 3, 1) := by decide +kernel
theorem dL_law_1287 : decode cL_law 1287 = .ok (.iconst 2, 1) := by decide +kernel
theorem dL_law_1288 : decode cL_law 1288 = .ok (.iadd, 1) := by decide +kernel
theorem dL_law_1289 : decode cL_law 1289 = .ok (.iaload, 1) := by decide +kernel
theorem dL_law_1290 : decode cL_law 1290 = .ok (.aload_n 0, 1) := by decide +kernel
theorem dL_law_1291 : decode cL_law 1291 = .ok (.iload_n 3, 1) := by decide +kernel
theorem dL_law_1292 : decode cL_law 1292 = .ok (.iconst 3, 1) := by decide +kernel
theorem dL_law_1293 : decode cL_law 1293 = .ok (.iadd, 1) := by decide +kernel
theorem dL_law_1294 : decode cL_law 1294 = .ok (.iaload, 1) := by decide +kernel
theorem dL_law_1295 : decode cL_law 1295 = .ok (.aload_n 0, 1) := by decide +kernel
theorem dL_law_1296 : decode cL_law 1296 = .ok (.iload_n 3, 1) := by decide +kernel
theorem dL_law_1297 : decode cL_law 1297 = .ok (.iconst 4, 1) := by decide +kernel
theorem dL_law_1298 : decode cL_law 1298 = .ok (.iadd, 1) := by decide +kernel
theorem dL_law_1299 : decode cL_law 1299 = .ok (.iaload, 1) := by decide +kernel
theorem dL_law_1300 : decode cL_law 1300 = .ok (.invokevirtual 159, 3) := by decide +kernel
theorem dL_law_1303 : decode cL_law 1303 = .ok (.aload_n 2, 1) := by decide +kernel
theorem dL_law_1304 : decode cL_law 1304 = .ok (.aload_n 0, 1) := by decide +kernel
theorem dL_law_1305 : decode cL_law 1305 = .ok (.iload_n 3, 1) := by decide +kernel
theorem dL_law_1306 : decode cL_law 1306 = .ok (.iconst 1, 1) := by decide +kernel
theorem dL_law_1307 : decode cL_law 1307 = .ok (.iadd, 1) := by decide +kernel
theorem dL_law_1308 : decode cL_law 1308 = .ok (.iaload, 1) := by decide +kernel
theorem dL_law_1309 : decode cL_law 1309 = .ok (.aload_n 0, 1) := by decide +kernel
theorem dL_law_1310 : decode cL_law 1310 = .ok (.iload_n 3, 1) := by decide +kernel
theorem dL_law_1311 : decode cL_law 1311 = .ok (.iconst 2, 1) := by decide +kernel
theorem dL_law_1312 : decode cL_law 1312 = .ok (.iadd, 1) := by decide +kernel
theorem dL_law_1313 : decode cL_law 1313 = .ok (.iaload, 1) := by decide +kernel
theorem dL_law_1314 : decode cL_law 1314 = .ok (.aload_n 0, 1) := by decide +kernel
theorem dL_law_1315 : decode cL_law 1315 = .ok (.iload_n 3, 1) := by decide +kernel
theorem dL_law_1316 : decode cL_law 1316 = .ok (.iconst 3, 1) := by decide +kernel
theorem dL_law_1317 : decode cL_law 1317 = .ok (.iadd, 1) := by decide +kernel
theorem dL_law_1318 : decode cL_law 1318 = .ok (.iaload, 1) := by decide +kernel
theorem dL_law_1319 : decode cL_law 1319 = .ok (.aload_n 0, 1) := by decide +kernel
theorem dL_law_1320 : decode cL_law 1320 = .ok (.iload_n 3, 1) := by decide +kernel
theorem dL_law_1321 : decode cL_law 1321 = .ok (.iconst 4, 1) := by decide +kernel
theorem dL_law_1322 : decode cL_law 1322 = .ok (.iadd, 1) := by decide +kernel
theorem dL_law_1323 : decode cL_law 1323 = .ok (.iaload, 1) := by decide +kernel
theorem dL_law_1324 : decode cL_law 1324 = .ok (.invokevirtual 162, 3) := by decide +kernel
theorem dL_law_1327 : decode cL_law 1327 = .ok (.if_icmp .eq 152, 3) := by decide +kernel
theorem dL_law_1330 : decode cL_law 1330 = .ok (.iconst 0, 1) := by decide +kernel
theorem dL_law_1331 : decode cL_law 1331 = .ok (.ireturn, 1) := by decide +kernel
theorem dL_law_1332 : decode cL_law 1332 = .ok (.aload_n 1, 1) := by decide +kernel
theorem dL_law_1333 : decode cL_law 1333 = .ok (.aload_n 0, 1) := by decide +kernel
theorem dL_law_1334 : decode cL_law 1334 = .ok (.iload_n 3, 1) := by decide +kernel
theorem dL_law_1335 : decode cL_law 1335 = .ok (.iconst 1, 1) := by decide +kernel
theorem dL_law_1336 : decode cL_law 1336 = .ok (.iadd, 1) := by decide +kernel
theorem dL_law_1337 : decode cL_law 1337 = .ok (.iaload, 1) := by decide +kernel
theorem dL_law_1338 : decode cL_law 1338 = .ok (.aload_n 0, 1) := by decide +kernel
theorem dL_law_1339 : decode cL_law 1339 = .ok (.iload_n 3, 1) := by decide +kernel
theorem dL_law_1340 : decode cL_law 1340 = .ok (.iconst 2, 1) := by decide +kernel
theorem dL_law_1341 : decode cL_law 1341 = .ok (.iadd, 1) := by decide +kernel
theorem dL_law_1342 : decode cL_law 1342 = .ok (.iaload, 1) := by decide +kernel
theorem dL_law_1343 : decode cL_law 1343 = .ok (.invokevirtual 163, 3) := by decide +kernel
theorem dL_law_1346 : decode cL_law 1346 = .ok (.aload_n 2, 1) := by decide +kernel
theorem dL_law_1347 : decode cL_law 1347 = .ok (.aload_n 0, 1) := by decide +kernel
theorem dL_law_1348 : decode cL_law 1348 = .ok (.iload_n 3, 1) := by decide +kernel
theorem dL_law_1349 : decode cL_law 1349 = .ok (.iconst 1, 1) := by decide +kernel
theorem dL_law_1350 : decode cL_law 1350 = .ok (.iadd, 1) := by decide +kernel
theorem dL_law_1351 : decode cL_law 1351 = .ok (.iaload, 1) := by decide +kernel
theorem dL_law_1352 : decode cL_law 1352 = .ok (.aload_n 0, 1) := by decide +kernel
theorem dL_law_1353 : decode cL_law 1353 = .ok (.iload_n 3, 1) := by decide +kernel
theorem dL_law_1354 : decode cL_law 1354 = .ok (.iconst 2, 1) := by decide +kernel
theorem dL_law_1355 : decode cL_law 1355 = .ok (.iadd, 1) := by decide +kernel
theorem dL_law_1356 : decode cL_law 1356 = .ok (.iaload, 1) := by decide +kernel
theorem dL_law_1357 : decode cL_law 1357 = .ok (.invokevirtual 166, 3) := by decide +kernel
theorem dL_law_1360 : decode cL_law 1360 = .ok (.if_icmp .eq 119, 3) := by decide +kernel
theorem dL_law_1363 : decode cL_law 1363 = .ok (.iconst 0, 1) := by decide +kernel
theorem dL_law_1364 : decode cL_law 1364 = .ok (.ireturn, 1) := by decide +kernel
theorem dL_law_1365 : decode cL_law 1365 = .ok (.aload_n 1, 1) := by decide +kernel
theorem dL_law_1366 : decode cL_law 1366 = .ok (.invokevirtual 167, 3) := by decide +kernel
theorem dL_law_1369 : decode cL_law 1369 = .ok (.aload_n 2, 1) := by decide +kernel
theorem dL_law_1370 : decode cL_law 1370 = .ok (.invokevirtual 170, 3) := by decide +kernel
theorem dL_law_1373 : decode cL_law 1373 = .ok (.if_icmp .eq 106, 3) := by decide +kernel
theorem dL_law_1376 : decode cL_law 1376 = .ok (.iconst 0, 1) := by decide +kernel
theorem dL_law_1377 : decode cL_law 1377 = .ok (.ireturn, 1) := by decide +kernel
theorem dL_law_1378 : decode cL_law 1378 = .ok (.aload_n 1, 1) := by decide +kernel
theorem dL_law_1379 : decode cL_law 1379 = .ok (.invokevirtual 171, 3) := by decide +kernel
theorem dL_law_1382 : decode cL_law 1382 = .ok (.aload_n 2, 1) := by decide +kernel
theorem dL_law_1383 : decode cL_law 1383 = .ok (.invokevirtual 175, 3) := by decide +kernel
theorem dL_law_1386 : decode cL_law 1386 = .ok (.lcmp, 1) := by decide +kernel
theorem dL_law_1387 : decode cL_law 1387 = .ok (.ifCond .eq 92, 3) := by decide +kernel
theorem dL_law_1390 : decode cL_law 1390 = .ok (.iconst 0, 1) := by decide +kernel
theorem dL_law_1391 : decode cL_law 1391 = .ok (.ireturn, 1) := by decide +kernel
theorem dL_law_1392 : decode cL_law 1392 = .ok (.aload_n 1, 1) := by decide +kernel
theorem dL_law_1393 : decode cL_law 1393 = .ok (.invokevirtual 176, 3) := by decide +kernel
theorem dL_law_1396 : decode cL_law 1396 = .ok (.aload_n 2, 1) := by decide +kernel
theorem dL_law_1397 : decode cL_law 1397 = .ok (.invokevirtual 179, 3) := by decide +kernel
theorem dL_law_1400 : decode cL_law 1400 = .ok (.lcmp, 1) := by decide +kernel
theorem dL_law_1401 : decode cL_law 1401 = .ok (.ifCond .eq 78, 3) := by decide +kernel
theorem dL_law_1404 : decode cL_law 1404 = .ok (.iconst 0, 1) := by decide +kernel
theorem dL_law_1405 : decode cL_law 1405 = .ok (.ireturn, 1) := by decide +kernel
theorem dL_law_1406 : decode cL_law 1406 = .ok (.aload_n 1, 1) := by decide +kernel
theorem dL_law_1407 : decode cL_law 1407 = .ok (.aload_n 0, 1) := by decide +kernel
theorem dL_law_1408 : decode cL_law 1408 = .ok (.iload_n 3, 1) := by decide +kernel
theorem dL_law_1409 : decode cL_law 1409 = .ok (.iconst 1, 1) := by decide +kernel
theorem dL_law_1410 : decode cL_law 1410 = .ok (.iadd, 1) := by decide +kernel
theorem dL_law_1411 : decode cL_law 1411 = .ok (.iaload, 1) := by decide +kernel
theorem dL_law_1412 : decode cL_law 1412 = .ok (.invokevirtual 180, 3) := by decide +kernel
theorem dL_law_1415 : decode cL_law 1415 = .ok (.aload_n 2, 1) := by decide +kernel
theorem dL_law_1416 : decode cL_law 1416 = .ok (.aload_n 0, 1) := by decide +kernel
theorem dL_law_1417 : decode cL_law 1417 = .ok (.iload_n 3, 1) := by decide +kernel
theorem dL_law_1418 : decode cL_law 1418 = .ok (.iconst 1, 1) := by decide +kernel
theorem dL_law_1419 : decode cL_law 1419 = .ok (.iadd, 1) := by decide +kernel
theorem dL_law_1420 : decode cL_law 1420 = .ok (.iaload, 1) := by decide +kernel
theorem dL_law_1421 : decode cL_law 1421 = .ok (.invokevirtual 183, 3) := by decide +kernel
theorem dL_law_1424 : decode cL_law 1424 = .ok (.if_icmp .eq 55, 3) := by decide +kernel
theorem dL_law_1427 : decode cL_law 1427 = .ok (.iconst 0, 1) := by decide +kernel
theorem dL_law_1428 : decode cL_law 1428 = .ok (.ireturn, 1) := by decide +kernel
theorem dL_law_1429 : decode cL_law 1429 = .ok (.aload_n 1, 1) := by decide +kernel
theorem dL_law_1430 : decode cL_law 1430 = .ok (.invokevirtual 184, 3) := by decide +kernel
theorem dL_law_1433 : decode cL_law 1433 = .ok (.aload_n 2, 1) := by decide +kernel
theorem dL_law_1434 : decode cL_law 1434 = .ok (.invokevirtual 187, 3) := by decide +kernel
theorem dL_law_1437 : decode cL_law 1437 = .ok (.if_icmp .eq 42, 3) := by decide +kernel
theorem dL_law_1440 : decode cL_law 1440 = .ok (.iconst 0, 1) := by decide +kernel
theorem dL_law_1441 : decode cL_law 1441 = .ok (.ireturn, 1) := by decide +kernel
theorem dL_law_1442 : decode cL_law 1442 = .ok (.aload_n 1, 1) := by decide +kernel
theorem dL_law_1443 : decode cL_law 1443 = .ok (.aload_n 0, 1) := by decide +kernel
theorem dL_law_1444 : decode cL_law 1444 = .ok (.iload_n 3, 1) := by decide +kernel
theorem dL_law_1445 : decode cL_law 1445 = .ok (.iconst 1, 1) := by decide +kernel
theorem dL_law_1446 : decode cL_law 1446 = .ok (.iadd, 1) := by decide +kernel
theorem dL_law_1447 : decode cL_law 1447 = .ok (.iaload, 1) := by decide +kernel
theorem dL_law_1448 : decode cL_law 1448 = .ok (.invokevirtual 188, 3) := by decide +kernel
theorem dL_law_1451 : decode cL_law 1451 = .ok (.aload_n 2, 1) := by decide +kernel
theorem dL_law_1452 : decode cL_law 1452 = .ok (.aload_n 0, 1) := by decide +kernel
theorem dL_law_1453 : decode cL_law 1453 = .ok (.iload_n 3, 1) := by decide +kernel
theorem dL_law_1454 : decode cL_law 1454 = .ok (.iconst 1, 1) := by decide +kernel
theorem dL_law_1455 : decode cL_law 1455 = .ok (.iadd, 1) := by decide +kernel
theorem dL_law_1456 : decode cL_law 1456 = .ok (.iaload, 1) := by decide +kernel
theorem dL_law_1457 : decode cL_law 1457 = .ok (.invokevirtual 191, 3) := by decide +kernel
theorem dL_law_1460 : decode cL_law 1460 = .ok (.if_icmp .eq 19, 3) := by decide +kernel
theorem dL_law_1463 : decode cL_law 1463 = .ok (.iconst 0, 1) := by decide +kernel
theorem dL_law_1464 : decode cL_law 1464 = .ok (.ireturn, 1) := by decide +kernel
theorem dL_law_1465 : decode cL_law 1465 = .ok (.aload_n 1, 1) := by decide +kernel
theorem dL_law_1466 : decode cL_law 1466 = .ok (.invokevirtual 192, 3) := by decide +kernel
theorem dL_law_1469 : decode cL_law 1469 = .ok (.aload_n 2, 1) := by decide +kernel
theorem dL_law_1470 : decode cL_law 1470 = .ok (.invokevirtual 195, 3) := by decide +kernel
theorem dL_law_1473 : decode cL_law 1473 = .ok (.lcmp, 1) := by decide +kernel
theorem dL_law_1474 : decode cL_law 1474 = .ok (.ifCond .eq 5, 3) := by decide +kernel
theorem dL_law_1477 : decode cL_law 1477 = .ok (.iconst 0, 1) := by decide +kernel
theorem dL_law_1478 : decode cL_law 1478 = .ok (.ireturn, 1) := by decide +kernel
theorem dL_law_1479 : decode cL_law 1479 = .ok (.iinc 3 6, 3) := by decide +kernel
theorem dL_law_1482 : decode cL_law 1482 = .ok (.goto (-1464), 3) := by decide +kernel
theorem dL_law_1485 : decode cL_law 1485 = .ok (.iconst 1, 1) := by decide +kernel
theorem dL_law_1486 : decode cL_law 1486 = .ok (.ireturn, 1) := by decide +kernel
