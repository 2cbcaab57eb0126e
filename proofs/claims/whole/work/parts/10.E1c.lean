/-! THE LAW 1: its instructions -/
theorem dL_904 : decode code 904 = .ok (.aload_n 0, 1) := by decide +kernel
theorem dL_905 : decode code 905 = .ok (.iload_n 3, 1) := by decide +kernel
theorem dL_906 : decode code 906 = .ok (.iconst 4, 1) := by decide +kernel
theorem dL_907 : decode code 907 = .ok (.iadd, 1) := by decide +kernel
theorem dL_908 : decode code 908 = .ok (.iaload, 1) := by decide +kernel
theorem dL_909 : decode code 909 = .ok (.aload_n 0, 1) := by decide +kernel
theorem dL_910 : decode code 910 = .ok (.iload_n 3, 1) := by decide +kernel
theorem dL_911 : decode code 911 = .ok (.iconst 5, 1) := by decide +kernel
theorem dL_912 : decode code 912 = .ok (.iadd, 1) := by decide +kernel
theorem dL_913 : decode code 913 = .ok (.iaload, 1) := by decide +kernel
theorem dL_914 : decode code 914 = .ok (.invokevirtual 106, 3) := by decide +kernel
theorem dL_917 : decode code 917 = .ok (.if_icmp .eq 315, 3) := by decide +kernel
theorem dL_922 : decode code 922 = .ok (.aload_n 1, 1) := by decide +kernel
theorem dL_923 : decode code 923 = .ok (.aload_n 0, 1) := by decide +kernel
theorem dL_924 : decode code 924 = .ok (.iload_n 3, 1) := by decide +kernel
theorem dL_925 : decode code 925 = .ok (.iconst 1, 1) := by decide +kernel
theorem dL_926 : decode code 926 = .ok (.iadd, 1) := by decide +kernel
theorem dL_927 : decode code 927 = .ok (.iaload, 1) := by decide +kernel
theorem dL_928 : decode code 928 = .ok (.aload_n 0, 1) := by decide +kernel
theorem dL_929 : decode code 929 = .ok (.iload_n 3, 1) := by decide +kernel
theorem dL_930 : decode code 930 = .ok (.iconst 2, 1) := by decide +kernel
theorem dL_931 : decode code 931 = .ok (.iadd, 1) := by decide +kernel
theorem dL_932 : decode code 932 = .ok (.iaload, 1) := by decide +kernel
theorem dL_933 : decode code 933 = .ok (.aload_n 0, 1) := by decide +kernel
theorem dL_934 : decode code 934 = .ok (.iload_n 3, 1) := by decide +kernel
theorem dL_935 : decode code 935 = .ok (.iconst 3, 1) := by decide +kernel
theorem dL_936 : decode code 936 = .ok (.iadd, 1) := by decide +kernel
theorem dL_937 : decode code 937 = .ok (.iaload, 1) := by decide +kernel
theorem dL_938 : decode code 938 = .ok (.invokevirtual 107, 3) := by decide +kernel
theorem dL_941 : decode code 941 = .ok (.aload_n 2, 1) := by decide +kernel
theorem dL_942 : decode code 942 = .ok (.aload_n 0, 1) := by decide +kernel
theorem dL_943 : decode code 943 = .ok (.iload_n 3, 1) := by decide +kernel
theorem dL_944 : decode code 944 = .ok (.iconst 1, 1) := by decide +kernel
theorem dL_945 : decode code 945 = .ok (.iadd, 1) := by decide +kernel
theorem dL_946 : decode code 946 = .ok (.iaload, 1) := by decide +kernel
theorem dL_947 : decode code 947 = .ok (.aload_n 0, 1) := by decide +kernel
theorem dL_948 : decode code 948 = .ok (.iload_n 3, 1) := by decide +kernel
theorem dL_949 : decode code 949 = .ok (.iconst 2, 1) := by decide +kernel
theorem dL_950 : decode code 950 = .ok (.iadd, 1) := by decide +kernel
theorem dL_951 : decode code 951 = .ok (.iaload, 1) := by decide +kernel
theorem dL_952 : decode code 952 = .ok (.aload_n 0, 1) := by decide +kernel
theorem dL_953 : decode code 953 = .ok (.iload_n 3, 1) := by decide +kernel
theorem dL_954 : decode code 954 = .ok (.iconst 3, 1) := by decide +kernel
theorem dL_955 : decode code 955 = .ok (.iadd, 1) := by decide +kernel
theorem dL_956 : decode code 956 = .ok (.iaload, 1) := by decide +kernel
theorem dL_957 : decode code 957 = .ok (.invokevirtual 110, 3) := by decide +kernel
theorem dL_960 : decode code 960 = .ok (.if_icmp .eq 272, 3) := by decide +kernel
theorem dL_965 : decode code 965 = .ok (.aload_n 1, 1) := by decide +kernel
theorem dL_966 : decode code 966 = .ok (.aload_n 0, 1) := by decide +kernel
theorem dL_967 : decode code 967 = .ok (.iload_n 3, 1) := by decide +kernel
theorem dL_968 : decode code 968 = .ok (.iconst 1, 1) := by decide +kernel
theorem dL_969 : decode code 969 = .ok (.iadd, 1) := by decide +kernel
theorem dL_970 : decode code 970 = .ok (.iaload, 1) := by decide +kernel
theorem dL_971 : decode code 971 = .ok (.aload_n 0, 1) := by decide +kernel
theorem dL_972 : decode code 972 = .ok (.iload_n 3, 1) := by decide +kernel
theorem dL_973 : decode code 973 = .ok (.iconst 2, 1) := by decide +kernel
theorem dL_974 : decode code 974 = .ok (.iadd, 1) := by decide +kernel
theorem dL_975 : decode code 975 = .ok (.iaload, 1) := by decide +kernel
theorem dL_976 : decode code 976 = .ok (.aload_n 0, 1) := by decide +kernel
theorem dL_977 : decode code 977 = .ok (.iload_n 3, 1) := by decide +kernel
theorem dL_978 : decode code 978 = .ok (.iconst 3, 1) := by decide +kernel
theorem dL_979 : decode code 979 = .ok (.iadd, 1) := by decide +kernel
theorem dL_980 : decode code 980 = .ok (.iaload, 1) := by decide +kernel
theorem dL_981 : decode code 981 = .ok (.aload_n 0, 1) := by decide +kernel
theorem dL_982 : decode code 982 = .ok (.iload_n 3, 1) := by decide +kernel
theorem dL_983 : decode code 983 = .ok (.iconst 4, 1) := by decide +kernel
theorem dL_984 : decode code 984 = .ok (.iadd, 1) := by decide +kernel
theorem dL_985 : decode code 985 = .ok (.iaload, 1) := by decide +kernel
theorem dL_986 : decode code 986 = .ok (.aload_n 0, 1) := by decide +kernel
theorem dL_987 : decode code 987 = .ok (.iload_n 3, 1) := by decide +kernel
theorem dL_988 : decode code 988 = .ok (.iconst 5, 1) := by decide +kernel
theorem dL_989 : decode code 989 = .ok (.iadd, 1) := by decide +kernel
theorem dL_990 : decode code 990 = .ok (.iaload, 1) := by decide +kernel
theorem dL_991 : decode code 991 = .ok (.aload_n 0, 1) := by decide +kernel
theorem dL_992 : decode code 992 = .ok (.iload_n 3, 1) := by decide +kernel
theorem dL_993 : decode code 993 = .ok (.bipush 6, 2) := by decide +kernel
theorem dL_995 : decode code 995 = .ok (.iadd, 1) := by decide +kernel
theorem dL_996 : decode code 996 = .ok (.iaload, 1) := by decide +kernel
theorem dL_997 : decode code 997 = .ok (.invokevirtual 111, 3) := by decide +kernel
theorem dL_1000 : decode code 1000 = .ok (.aload_n 2, 1) := by decide +kernel
theorem dL_1001 : decode code 1001 = .ok (.aload_n 0, 1) := by decide +kernel
theorem dL_1002 : decode code 1002 = .ok (.iload_n 3, 1) := by decide +kernel
theorem dL_1003 : decode code 1003 = .ok (.iconst 1, 1) := by decide +kernel
theorem dL_1004 : decode code 1004 = .ok (.iadd, 1) := by decide +kernel
theorem dL_1005 : decode code 1005 = .ok (.iaload, 1) := by decide +kernel
theorem dL_1006 : decode code 1006 = .ok (.aload_n 0, 1) := by decide +kernel
theorem dL_1007 : decode code 1007 = .ok (.iload_n 3, 1) := by decide +kernel
theorem dL_1008 : decode code 1008 = .ok (.iconst 2, 1) := by decide +kernel
theorem dL_1009 : decode code 1009 = .ok (.iadd, 1) := by decide +kernel
theorem dL_1010 : decode code 1010 = .ok (.iaload, 1) := by decide +kernel
theorem dL_1011 : decode code 1011 = .ok (.aload_n 0, 1) := by decide +kernel
theorem dL_1012 : decode code 1012 = .ok (.iload_n 3, 1) := by decide +kernel
theorem dL_1013 : decode code 1013 = .ok (.iconst 3, 1) := by decide +kernel
theorem dL_1014 : decode code 1014 = .ok (.iadd, 1) := by decide +kernel
theorem dL_1015 : decode code 1015 = .ok (.iaload, 1) := by decide +kernel
theorem dL_1016 : decode code 1016 = .ok (.aload_n 0, 1) := by decide +kernel
theorem dL_1017 : decode code 1017 = .ok (.iload_n 3, 1) := by decide +kernel
theorem dL_1018 : decode code 1018 = .ok (.iconst 4, 1) := by decide +kernel
theorem dL_1019 : decode code 1019 = .ok (.iadd, 1) := by decide +kernel
theorem dL_1020 : decode code 1020 = .ok (.iaload, 1) := by decide +kernel
theorem dL_1021 : decode code 1021 = .ok (.aload_n 0, 1) := by decide +kernel
theorem dL_1022 : decode code 1022 = .ok (.iload_n 3, 1) := by decide +kernel
theorem dL_1023 : decode code 1023 = .ok (.iconst 5, 1) := by decide +kernel
theorem dL_1024 : decode code 1024 = .ok (.iadd, 1) := by decide +kernel
theorem dL_1025 : decode code 1025 = .ok (.iaload, 1) := by decide +kernel
theorem dL_1026 : decode code 1026 = .ok (.aload_n 0, 1) := by decide +kernel
theorem dL_1027 : decode code 1027 = .ok (.iload_n 3, 1) := by decide +kernel
theorem dL_1028 : decode code 1028 = .ok (.bipush 6, 2) := by decide +kernel
theorem dL_1030 : decode code 1030 = .ok (.iadd, 1) := by decide +kernel
theorem dL_1031 : decode code 1031 = .ok (.iaload, 1) := by decide +kernel
theorem dL_1032 : decode code 1032 = .ok (.invokevirtual 114, 3) := by decide +kernel
theorem dL_1035 : decode code 1035 = .ok (.if_icmp .eq 197, 3) := by decide +kernel
theorem dL_1040 : decode code 1040 = .ok (.aload_n 1, 1) := by decide +kernel
theorem dL_1041 : decode code 1041 = .ok (.aload_n 0, 1) := by decide +kernel
theorem dL_1042 : decode code 1042 = .ok (.iload_n 3, 1) := by decide +kernel
theorem dL_1043 : decode code 1043 = .ok (.iconst 1, 1) := by decide +kernel
theorem dL_1044 : decode code 1044 = .ok (.iadd, 1) := by decide +kernel
theorem dL_1045 : decode code 1045 = .ok (.iaload, 1) := by decide +kernel
theorem dL_1046 : decode code 1046 = .ok (.aload_n 0, 1) := by decide +kernel
theorem dL_1047 : decode code 1047 = .ok (.iload_n 3, 1) := by decide +kernel
theorem dL_1048 : decode code 1048 = .ok (.iconst 2, 1) := by decide +kernel
theorem dL_1049 : decode code 1049 = .ok (.iadd, 1) := by decide +kernel
theorem dL_1050 : decode code 1050 = .ok (.iaload, 1) := by decide +kernel
theorem dL_1051 : decode code 1051 = .ok (.aload_n 0, 1) := by decide +kernel
theorem dL_1052 : decode code 1052 = .ok (.iload_n 3, 1) := by decide +kernel
theorem dL_1053 : decode code 1053 = .ok (.iconst 3, 1) := by decide +kernel
theorem dL_1054 : decode code 1054 = .ok (.iadd, 1) := by decide +kernel
theorem dL_1055 : decode code 1055 = .ok (.iaload, 1) := by decide +kernel
theorem dL_1056 : decode code 1056 = .ok (.aload_n 0, 1) := by decide +kernel
theorem dL_1057 : decode code 1057 = .ok (.iload_n 3, 1) := by decide +kernel
theorem dL_1058 : decode code 1058 = .ok (.iconst 4, 1) := by decide +kernel
theorem dL_1059 : decode code 1059 = .ok (.iadd, 1) := by decide +kernel
theorem dL_1060 : decode code 1060 = .ok (.iaload, 1) := by decide +kernel
theorem dL_1061 : decode code 1061 = .ok (.aload_n 0, 1) := by decide +kernel
theorem dL_1062 : decode code 1062 = .ok (.iload_n 3, 1) := by decide +kernel
theorem dL_1063 : decode code 1063 = .ok (.iconst 5, 1) := by decide +kernel
theorem dL_1064 : decode code 1064 = .ok (.iadd, 1) := by decide +kernel
theorem dL_1065 : decode code 1065 = .ok (.iaload, 1) := by decide +kernel
theorem dL_1066 : decode code 1066 = .ok (.invokevirtual 115, 3) := by decide +kernel
theorem dL_1069 : decode code 1069 = .ok (.aload_n 2, 1) := by decide +kernel
theorem dL_1070 : decode code 1070 = .ok (.aload_n 0, 1) := by decide +kernel
theorem dL_1071 : decode code 1071 = .ok (.iload_n 3, 1) := by decide +kernel
theorem dL_1072 : decode code 1072 = .ok (.iconst 1, 1) := by decide +kernel
theorem dL_1073 : decode code 1073 = .ok (.iadd, 1) := by decide +kernel
theorem dL_1074 : decode code 1074 = .ok (.iaload, 1) := by decide +kernel
theorem dL_1075 : decode code 1075 = .ok (.aload_n 0, 1) := by decide +kernel
theorem dL_1076 : decode code 1076 = .ok (.iload_n 3, 1) := by decide +kernel
theorem dL_1077 : decode code 1077 = .ok (.iconst 2, 1) := by decide +kernel
theorem dL_1078 : decode code 1078 = .ok (.iadd, 1) := by decide +kernel
theorem dL_1079 : decode code 1079 = .ok (.iaload, 1) := by decide +kernel
theorem dL_1080 : decode code 1080 = .ok (.aload_n 0, 1) := by decide +kernel
theorem dL_1081 : decode code 1081 = .ok (.iload_n 3, 1) := by decide +kernel
theorem dL_1082 : decode code 1082 = .ok (.iconst 3, 1) := by decide +kernel
theorem dL_1083 : decode code 1083 = .ok (.iadd, 1) := by decide +kernel
theorem dL_1084 : decode code 1084 = .ok (.iaload, 1) := by decide +kernel
theorem dL_1085 : decode code 1085 = .ok (.aload_n 0, 1) := by decide +kernel
theorem dL_1086 : decode code 1086 = .ok (.iload_n 3, 1) := by decide +kernel
theorem dL_1087 : decode code 1087 = .ok (.iconst 4, 1) := by decide +kernel
theorem dL_1088 : decode code 1088 = .ok (.iadd, 1) := by decide +kernel
theorem dL_1089 : decode code 1089 = .ok (.iaload, 1) := by decide +kernel
theorem dL_1090 : decode code 1090 = .ok (.aload_n 0, 1) := by decide +kernel
theorem dL_1091 : decode code 1091 = .ok (.iload_n 3, 1) := by decide +kernel
theorem dL_1092 : decode code 1092 = .ok (.iconst 5, 1) := by decide +kernel
theorem dL_1093 : decode code 1093 = .ok (.iadd, 1) := by decide +kernel
theorem dL_1094 : decode code 1094 = .ok (.iaload, 1) := by decide +kernel
theorem dL_1095 : decode code 1095 = .ok (.invokevirtual 118, 3) := by decide +kernel
theorem dL_1098 : decode code 1098 = .ok (.if_icmp .eq 134, 3) := by decide +kernel
theorem dL_1103 : decode code 1103 = .ok (.aload_n 1, 1) := by decide +kernel
theorem dL_1104 : decode code 1104 = .ok (.aload_n 0, 1) := by decide +kernel
theorem dL_1105 : decode code 1105 = .ok (.iload_n 3, 1) := by decide +kernel
theorem dL_1106 : decode code 1106 = .ok (.iconst 1, 1) := by decide +kernel
theorem dL_1107 : decode code 1107 = .ok (.iadd, 1) := by decide +kernel
theorem dL_1108 : decode code 1108 = .ok (.iaload, 1) := by decide +kernel
theorem dL_1109 : decode code 1109 = .ok (.aload_n 0, 1) := by decide +kernel
theorem dL_1110 : decode code 1110 = .ok (.iload_n 3, 1) := by decide +kernel
theorem dL_1111 : decode code 1111 = .ok (.iconst 2, 1) := by decide +kernel
theorem dL_1112 : decode code 1112 = .ok (.iadd, 1) := by decide +kernel
theorem dL_1113 : decode code 1113 = .ok (.iaload, 1) := by decide +kernel
theorem dL_1114 : decode code 1114 = .ok (.aload_n 0, 1) := by decide +kernel
theorem dL_1115 : decode code 1115 = .ok (.iload_n 3, 1) := by decide +kernel
theorem dL_1116 : decode code 1116 = .ok (.iconst 3, 1) := by decide +kernel
theorem dL_1117 : decode code 1117 = .ok (.iadd, 1) := by decide +kernel
theorem dL_1118 : decode code 1118 = .ok (.iaload, 1) := by decide +kernel
theorem dL_1119 : decode code 1119 = .ok (.aload_n 0, 1) := by decide +kernel
theorem dL_1120 : decode code 1120 = .ok (.iload_n 3, 1) := by decide +kernel
theorem dL_1121 : decode code 1121 = .ok (.iconst 4, 1) := by decide +kernel
theorem dL_1122 : decode code 1122 = .ok (.iadd, 1) := by decide +kernel
theorem dL_1123 : decode code 1123 = .ok (.iaload, 1) := by decide +kernel
theorem dL_1124 : decode code 1124 = .ok (.aload_n 0, 1) := by decide +kernel
theorem dL_1125 : decode code 1125 = .ok (.iload_n 3, 1) := by decide +kernel
theorem dL_1126 : decode code 1126 = .ok (.iconst 5, 1) := by decide +kernel
theorem dL_1127 : decode code 1127 = .ok (.iadd, 1) := by decide +kernel
theorem dL_1128 : decode code 1128 = .ok (.iaload, 1) := by decide +kernel
theorem dL_1129 : decode code 1129 = .ok (.invokevirtual 119, 3) := by decide +kernel
theorem dL_1132 : decode code 1132 = .ok (.aload_n 2, 1) := by decide +kernel
theorem dL_1133 : decode code 1133 = .ok (.aload_n 0, 1) := by decide +kernel
theorem dL_1134 : decode code 1134 = .ok (.iload_n 3, 1) := by decide +kernel
theorem dL_1135 : decode code 1135 = .ok (.iconst 1, 1) := by decide +kernel
theorem dL_1136 : decode code 1136 = .ok (.iadd, 1) := by decide +kernel
theorem dL_1137 : decode code 1137 = .ok (.iaload, 1) := by decide +kernel
theorem dL_1138 : decode code 1138 = .ok (.aload_n 0, 1) := by decide +kernel
theorem dL_1139 : decode code 1139 = .ok (.iload_n 3, 1) := by decide +kernel
theorem dL_1140 : decode code 1140 = .ok (.iconst 2, 1) := by decide +kernel
theorem dL_1141 : decode code 1141 = .ok (.iadd, 1) := by decide +kernel
theorem dL_1142 : decode code 1142 = .ok (.iaload, 1) := by decide +kernel
theorem dL_1143 : decode code 1143 = .ok (.aload_n 0, 1) := by decide +kernel
theorem dL_1144 : decode code 1144 = .ok (.iload_n 3, 1) := by decide +kernel
theorem dL_1145 : decode code 1145 = .ok (.iconst 3, 1) := by decide +kernel
theorem dL_1146 : decode code 1146 = .ok (.iadd, 1) := by decide +kernel
theorem dL_1147 : decode code 1147 = .ok (.iaload, 1) := by decide +kernel
theorem dL_1148 : decode code 1148 = .ok (.aload_n 0, 1) := by decide +kernel
theorem dL_1149 : decode code 1149 = .ok (.iload_n 3, 1) := by decide +kernel
theorem dL_1150 : decode code 1150 = .ok (.iconst 4, 1) := by decide +kernel
theorem dL_1151 : decode code 1151 = .ok (.iadd, 1) := by decide +kernel
theorem dL_1152 : decode code 1152 = .ok (.iaload, 1) := by decide +kernel
theorem dL_1153 : decode code 1153 = .ok (.aload_n 0, 1) := by decide +kernel
theorem dL_1154 : decode code 1154 = .ok (.iload_n 3, 1) := by decide +kernel
theorem dL_1155 : decode code 1155 = .ok (.iconst 5, 1) := by decide +kernel
theorem dL_1156 : decode code 1156 = .ok (.iadd, 1) := by decide +kernel
theorem dL_1157 : decode code 1157 = .ok (.iaload, 1) := by decide +kernel
theorem dL_1158 : decode code 1158 = .ok (.invokevirtual 122, 3) := by decide +kernel
theorem dL_1161 : decode code 1161 = .ok (.if_icmp .eq 71, 3) := by decide +kernel
theorem dL_1166 : decode code 1166 = .ok (.aload_n 1, 1) := by decide +kernel
theorem dL_1167 : decode code 1167 = .ok (.aload_n 0, 1) := by decide +kernel
theorem dL_1168 : decode code 1168 = .ok (.iload_n 3, 1) := by decide +kernel
theorem dL_1169 : decode code 1169 = .ok (.iconst 1, 1) := by decide +kernel
theorem dL_1170 : decode code 1170 = .ok (.iadd, 1) := by decide +kernel
theorem dL_1171 : decode code 1171 = .ok (.iaload, 1) := by decide +kernel
theorem dL_1172 : decode code 1172 = .ok (.aload_n 0, 1) := by decide +kernel
theorem dL_1173 : decode code 1173 = .ok (.iload_n 3, 1) := by decide +kernel
theorem dL_1174 : decode code 1174 = .ok (.iconst 2, 1) := by decide +kernel
theorem dL_1175 : decode code 1175 = .ok (.iadd, 1) := by decide +kernel
theorem dL_1176 : decode code 1176 = .ok (.iaload, 1) := by decide +kernel
theorem dL_1177 : decode code 1177 = .ok (.aload_n 0, 1) := by decide +kernel
theorem dL_1178 : decode code 1178 = .ok (.iload_n 3, 1) := by decide +kernel
theorem dL_1179 : decode code 1179 = .ok (.iconst 3, 1) := by decide +kernel
theorem dL_1180 : decode code 1180 = .ok (.iadd, 1) := by decide +kernel
theorem dL_1181 : decode code 1181 = .ok (.iaload, 1) := by decide +kernel
theorem dL_1182 : decode code 1182 = .ok (.invokevirtual 123, 3) := by decide +kernel
theorem dL_1185 : decode code 1185 = .ok (.aload_n 2, 1) := by decide +kernel
theorem dL_1186 : decode code 1186 = .ok (.aload_n 0, 1) := by decide +kernel
theorem dL_1187 : decode code 1187 = .ok (.iload_n 3, 1) := by decide +kernel
theorem dL_1188 : decode code 1188 = .ok (.iconst 1, 1) := by decide +kernel
theorem dL_1189 : decode code 1189 = .ok (.iadd, 1) := by decide +kernel
theorem dL_1190 : decode code 1190 = .ok (.iaload, 1) := by decide +kernel
theorem dL_1191 : decode code 1191 = .ok (.aload_n 0, 1) := by decide +kernel
theorem dL_1192 : decode code 1192 = .ok (.iload_n 3, 1) := by decide +kernel
theorem dL_1193 : decode code 1193 = .ok (.iconst 2, 1) := by decide +kernel
theorem dL_1194 : decode code 1194 = .ok (.iadd, 1) := by decide +kernel
theorem dL_1195 : decode code 1195 = .ok (.iaload, 1) := by decide +kernel
theorem dL_1196 : decode code 1196 = .ok (.aload_n 0, 1) := by decide +kernel
theorem dL_1197 : decode code 1197 = .ok (.iload_n 3, 1) := by decide +kernel
theorem dL_1198 : decode code 1198 = .ok (.iconst 3, 1) := by decide +kernel
theorem dL_1199 : decode code 1199 = .ok (.iadd, 1) := by decide +kernel
theorem dL_1200 : decode code 1200 = .ok (.iaload, 1) := by decide +kernel
theorem dL_1201 : decode code 1201 = .ok (.invokevirtual 126, 3) := by decide +kernel
theorem dL_1204 : decode code 1204 = .ok (.if_icmp .eq 28, 3) := by decide +kernel
theorem dL_1209 : decode code 1209 = .ok (.aload_n 1, 1) := by decide +kernel
theorem dL_1210 : decode code 1210 = .ok (.aload_n 0, 1) := by decide +kernel
theorem dL_1211 : decode code 1211 = .ok (.iload_n 3, 1) := by decide +kernel
theorem dL_1212 : decode code 1212 = .ok (.iconst 1, 1) := by decide +kernel
theorem dL_1213 : decode code 1213 = .ok (.iadd, 1) := by decide +kernel
theorem dL_1214 : decode code 1214 = .ok (.iaload, 1) := by decide +kernel
theorem dL_1215 : decode code 1215 = .ok (.invokevirtual 127, 3) := by decide +kernel
theorem dL_1218 : decode code 1218 = .ok (.aload_n 2, 1) := by decide +kernel
theorem dL_1219 : decode code 1219 = .ok (.aload_n 0, 1) := by decide +kernel
theorem dL_1220 : decode code 1220 = .ok (.iload_n 3, 1) := by decide +kernel
theorem dL_1221 : decode code 1221 = .ok (.iconst 1, 1) := by decide +kernel
theorem dL_1222 : decode code 1222 = .ok (.iadd, 1) := by decide +kernel
theorem dL_1223 : decode code 1223 = .ok (.iaload, 1) := by decide +kernel
theorem dL_1224 : decode code 1224 = .ok (.invokevirtual 130, 3) := by decide +kernel
theorem dL_1227 : decode code 1227 = .ok (.if_icmp .eq 5, 3) := by decide +kernel
theorem dL_1232 : decode code 1232 = .ok (.iinc 3 7, 3) := by decide +kernel
theorem dL_1235 : decode code 1235 = .ok (.goto (-1217), 3) := by decide +kernel
theorem dL_1238 : decode code 1238 = .ok (.iconst 1, 1) := by decide +kernel
theorem dL_1239 : decode code 1239 = .ok (.ireturn, 1) := by decide +kernel
