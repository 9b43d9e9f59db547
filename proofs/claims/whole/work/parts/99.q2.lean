/-! ===== what stands at each place: the law, 2 ===== -/
theorem dL_law__872 : decode cL_law_ 872 = .ok (.invokestatic 190, 3) := by decide +kernel
theorem dL_law__875 : decode cL_law_ 875 = .ok (.istore 5, 2) := by decide +kernel
theorem dL_law__877 : decode cL_law_ 877 = .ok (.aload_n 2, 1) := by decide +kernel
theorem dL_law__878 : decode cL_law_ 878 = .ok (.aload_n 0, 1) := by decide +kernel
theorem dL_law__879 : decode cL_law_ 879 = .ok (.iload 4, 2) := by decide +kernel
theorem dL_law__881 : decode cL_law_ 881 = .ok (.iconst 1, 1) := by decide +kernel
theorem dL_law__882 : decode cL_law_ 882 = .ok (.iadd, 1) := by decide +kernel
theorem dL_law__883 : decode cL_law_ 883 = .ok (.iaload, 1) := by decide +kernel
theorem dL_law__884 : decode cL_law_ 884 = .ok (.invokevirtual 192, 3) := by decide +kernel
theorem dL_law__887 : decode cL_law_ 887 = .ok (.istore 6, 2) := by decide +kernel
theorem dL_law__889 : decode cL_law_ 889 = .ok (.aload_n 2, 1) := by decide +kernel
theorem dL_law__890 : decode cL_law_ 890 = .ok (.invokevirtual 152, 3) := by decide +kernel
theorem dL_law__893 : decode cL_law_ 893 = .ok (.iload 5, 2) := by decide +kernel
theorem dL_law__895 : decode cL_law_ 895 = .ok (.if_icmp .eq 5, 3) := by decide +kernel
theorem dL_law__898 : decode cL_law_ 898 = .ok (.iconst 0, 1) := by decide +kernel
theorem dL_law__899 : decode cL_law_ 899 = .ok (.ireturn, 1) := by decide +kernel
theorem dL_law__900 : decode cL_law_ 900 = .ok (.iload 5, 2) := by decide +kernel
theorem dL_law__902 : decode cL_law_ 902 = .ok (.ifCond .ne 15, 3) := by decide +kernel
theorem dL_law__905 : decode cL_law_ 905 = .ok (.aload_n 3, 1) := by decide +kernel
theorem dL_law__906 : decode cL_law_ 906 = .ok (.iconst 0, 1) := by decide +kernel
theorem dL_law__907 : decode cL_law_ 907 = .ok (.laload, 1) := by decide +kernel
theorem dL_law__908 : decode cL_law_ 908 = .ok (.iload 6, 2) := by decide +kernel
theorem dL_law__910 : decode cL_law_ 910 = .ok (.i2l, 1) := by decide +kernel
theorem dL_law__911 : decode cL_law_ 911 = .ok (.lcmp, 1) := by decide +kernel
theorem dL_law__912 : decode cL_law_ 912 = .ok (.ifCond .eq 5, 3) := by decide +kernel
theorem dL_law__915 : decode cL_law_ 915 = .ok (.iconst 0, 1) := by decide +kernel
theorem dL_law__916 : decode cL_law_ 916 = .ok (.ireturn, 1) := by decide +kernel
theorem dL_law__917 : decode cL_law_ 917 = .ok (.goto 2033, 3) := by decide +kernel
theorem dL_law__920 : decode cL_law_ 920 = .ok (.aload_n 1, 1) := by decide +kernel
theorem dL_law__921 : decode cL_law_ 921 = .ok (.aload_n 0, 1) := by decide +kernel
theorem dL_law__922 : decode cL_law_ 922 = .ok (.iload 4, 2) := by decide +kernel
theorem dL_law__924 : decode cL_law_ 924 = .ok (.iconst 1, 1) := by decide +kernel
theorem dL_law__925 : decode cL_law_ 925 = .ok (.iadd, 1) := by decide +kernel
theorem dL_law__926 : decode cL_law_ 926 = .ok (.iaload, 1) := by decide +kernel
theorem dL_law__927 : decode cL_law_ 927 = .ok (.aload_n 0, 1) := by decide +kernel
theorem dL_law__928 : decode cL_law_ 928 = .ok (.iload 4, 2) := by decide +kernel
theorem dL_law__930 : decode cL_law_ 930 = .ok (.iconst 2, 1) := by decide +kernel
theorem dL_law__931 : decode cL_law_ 931 = .ok (.iadd, 1) := by decide +kernel
theorem dL_law__932 : decode cL_law_ 932 = .ok (.iaload, 1) := by decide +kernel
theorem dL_law__933 : decode cL_law_ 933 = .ok (.aload_n 3, 1) := by decide +kernel
theorem dL_law__934 : decode cL_law_ 934 = .ok (.invokestatic 193, 3) := by decide +kernel
theorem dL_law__937 : decode cL_law_ 937 = .ok (.istore 5, 2) := by decide +kernel
theorem dL_law__939 : decode cL_law_ 939 = .ok (.aload_n 2, 1) := by decide +kernel
theorem dL_law__940 : decode cL_law_ 940 = .ok (.aload_n 0, 1) := by decide +kernel
theorem dL_law__941 : decode cL_law_ 941 = .ok (.iload 4, 2) := by decide +kernel
theorem dL_law__943 : decode cL_law_ 943 = .ok (.iconst 1, 1) := by decide +kernel
theorem dL_law__944 : decode cL_law_ 944 = .ok (.iadd, 1) := by decide +kernel
theorem dL_law__945 : decode cL_law_ 945 = .ok (.iaload, 1) := by decide +kernel
theorem dL_law__946 : decode cL_law_ 946 = .ok (.aload_n 0, 1) := by decide +kernel
theorem dL_law__947 : decode cL_law_ 947 = .ok (.iload 4, 2) := by decide +kernel
theorem dL_law__949 : decode cL_law_ 949 = .ok (.iconst 2, 1) := by decide +kernel
theorem dL_law__950 : decode cL_law_ 950 = .ok (.iadd, 1) := by decide +kernel
theorem dL_law__951 : decode cL_law_ 951 = .ok (.iaload, 1) := by decide +kernel
theorem dL_law__952 : decode cL_law_ 952 = .ok (.invokevirtual 195, 3) := by decide +kernel
theorem dL_law__955 : decode cL_law_ 955 = .ok (.istore 6, 2) := by decide +kernel
theorem dL_law__957 : decode cL_law_ 957 = .ok (.aload_n 2, 1) := by decide +kernel
theorem dL_law__958 : decode cL_law_ 958 = .ok (.invokevirtual 152, 3) := by decide +kernel
theorem dL_law__961 : decode cL_law_ 961 = .ok (.iload 5, 2) := by decide +kernel
theorem dL_law__963 : decode cL_law_ 963 = .ok (.if_icmp .eq 5, 3) := by decide +kernel
theorem dL_law__966 : decode cL_law_ 966 = .ok (.iconst 0, 1) := by decide +kernel
theorem dL_law__967 : decode cL_law_ 967 = .ok (.ireturn, 1) := by decide +kernel
theorem dL_law__968 : decode cL_law_ 968 = .ok (.iload 5, 2) := by decide +kernel
theorem dL_law__970 : decode cL_law_ 970 = .ok (.ifCond .ne 15, 3) := by decide +kernel
theorem dL_law__973 : decode cL_law_ 973 = .ok (.aload_n 3, 1) := by decide +kernel
theorem dL_law__974 : decode cL_law_ 974 = .ok (.iconst 0, 1) := by decide +kernel
theorem dL_law__975 : decode cL_law_ 975 = .ok (.laload, 1) := by decide +kernel
theorem dL_law__976 : decode cL_law_ 976 = .ok (.iload 6, 2) := by decide +kernel
theorem dL_law__978 : decode cL_law_ 978 = .ok (.i2l, 1) := by decide +kernel
theorem dL_law__979 : decode cL_law_ 979 = .ok (.lcmp, 1) := by decide +kernel
theorem dL_law__980 : decode cL_law_ 980 = .ok (.ifCond .eq 5, 3) := by decide +kernel
theorem dL_law__983 : decode cL_law_ 983 = .ok (.iconst 0, 1) := by decide +kernel
theorem dL_law__984 : decode cL_law_ 984 = .ok (.ireturn, 1) := by decide +kernel
theorem dL_law__985 : decode cL_law_ 985 = .ok (.goto 1965, 3) := by decide +kernel
theorem dL_law__988 : decode cL_law_ 988 = .ok (.aload_n 1, 1) := by decide +kernel
theorem dL_law__989 : decode cL_law_ 989 = .ok (.aload_n 0, 1) := by decide +kernel
theorem dL_law__990 : decode cL_law_ 990 = .ok (.iload 4, 2) := by decide +kernel
theorem dL_law__992 : decode cL_law_ 992 = .ok (.iconst 1, 1) := by decide +kernel
theorem dL_law__993 : decode cL_law_ 993 = .ok (.iadd, 1) := by decide +kernel
theorem dL_law__994 : decode cL_law_ 994 = .ok (.iaload, 1) := by decide +kernel
theorem dL_law__995 : decode cL_law_ 995 = .ok (.aload_n 0, 1) := by decide +kernel
theorem dL_law__996 : decode cL_law_ 996 = .ok (.iload 4, 2) := by decide +kernel
theorem dL_law__998 : decode cL_law_ 998 = .ok (.iconst 2, 1) := by decide +kernel
theorem dL_law__999 : decode cL_law_ 999 = .ok (.iadd, 1) := by decide +kernel
theorem dL_law__1000 : decode cL_law_ 1000 = .ok (.iaload, 1) := by decide +kernel
theorem dL_law__1001 : decode cL_law_ 1001 = .ok (.aload_n 3, 1) := by decide +kernel
theorem dL_law__1002 : decode cL_law_ 1002 = .ok (.invokestatic 196, 3) := by decide +kernel
theorem dL_law__1005 : decode cL_law_ 1005 = .ok (.istore 5, 2) := by decide +kernel
theorem dL_law__1007 : decode cL_law_ 1007 = .ok (.aload_n 2, 1) := by decide +kernel
theorem dL_law__1008 : decode cL_law_ 1008 = .ok (.aload_n 0, 1) := by decide +kernel
theorem dL_law__1009 : decode cL_law_ 1009 = .ok (.iload 4, 2) := by decide +kernel
theorem dL_law__1011 : decode cL_law_ 1011 = .ok (.iconst 1, 1) := by decide +kernel
theorem dL_law__1012 : decode cL_law_ 1012 = .ok (.iadd, 1) := by decide +kernel
theorem dL_law__1013 : decode cL_law_ 1013 = .ok (.iaload, 1) := by decide +kernel
theorem dL_law__1014 : decode cL_law_ 1014 = .ok (.aload_n 0, 1) := by decide +kernel
theorem dL_law__1015 : decode cL_law_ 1015 = .ok (.iload 4, 2) := by decide +kernel
theorem dL_law__1017 : decode cL_law_ 1017 = .ok (.iconst 2, 1) := by decide +kernel
theorem dL_law__1018 : decode cL_law_ 1018 = .ok (.iadd, 1) := by decide +kernel
theorem dL_law__1019 : decode cL_law_ 1019 = .ok (.iaload, 1) := by decide +kernel
theorem dL_law__1020 : decode cL_law_ 1020 = .ok (.invokevirtual 198, 3) := by decide +kernel
theorem dL_law__1023 : decode cL_law_ 1023 = .ok (.istore 6, 2) := by decide +kernel
theorem dL_law__1025 : decode cL_law_ 1025 = .ok (.aload_n 2, 1) := by decide +kernel
theorem dL_law__1026 : decode cL_law_ 1026 = .ok (.invokevirtual 152, 3) := by decide +kernel
theorem dL_law__1029 : decode cL_law_ 1029 = .ok (.iload 5, 2) := by decide +kernel
theorem dL_law__1031 : decode cL_law_ 1031 = .ok (.if_icmp .eq 5, 3) := by decide +kernel
theorem dL_law__1034 : decode cL_law_ 1034 = .ok (.iconst 0, 1) := by decide +kernel
theorem dL_law__1035 : decode cL_law_ 1035 = .ok (.ireturn, 1) := by decide +kernel
theorem dL_law__1036 : decode cL_law_ 1036 = .ok (.iload 5, 2) := by decide +kernel
theorem dL_law__1038 : decode cL_law_ 1038 = .ok (.ifCond .ne 15, 3) := by decide +kernel
theorem dL_law__1041 : decode cL_law_ 1041 = .ok (.aload_n 3, 1) := by decide +kernel
theorem dL_law__1042 : decode cL_law_ 1042 = .ok (.iconst 0, 1) := by decide +kernel
theorem dL_law__1043 : decode cL_law_ 1043 = .ok (.laload, 1) := by decide +kernel
theorem dL_law__1044 : decode cL_law_ 1044 = .ok (.iload 6, 2) := by decide +kernel
theorem dL_law__1046 : decode cL_law_ 1046 = .ok (.i2l, 1) := by decide +kernel
theorem dL_law__1047 : decode cL_law_ 1047 = .ok (.lcmp, 1) := by decide +kernel
theorem dL_law__1048 : decode cL_law_ 1048 = .ok (.ifCond .eq 5, 3) := by decide +kernel
theorem dL_law__1051 : decode cL_law_ 1051 = .ok (.iconst 0, 1) := by decide +kernel
theorem dL_law__1052 : decode cL_law_ 1052 = .ok (.ireturn, 1) := by decide +kernel
theorem dL_law__1053 : decode cL_law_ 1053 = .ok (.goto 1897, 3) := by decide +kernel
theorem dL_law__1056 : decode cL_law_ 1056 = .ok (.aload_n 1, 1) := by decide +kernel
theorem dL_law__1057 : decode cL_law_ 1057 = .ok (.aload_n 0, 1) := by decide +kernel
theorem dL_law__1058 : decode cL_law_ 1058 = .ok (.iload 4, 2) := by decide +kernel
theorem dL_law__1060 : decode cL_law_ 1060 = .ok (.iconst 1, 1) := by decide +kernel
theorem dL_law__1061 : decode cL_law_ 1061 = .ok (.iadd, 1) := by decide +kernel
theorem dL_law__1062 : decode cL_law_ 1062 = .ok (.iaload, 1) := by decide +kernel
theorem dL_law__1063 : decode cL_law_ 1063 = .ok (.aload_n 0, 1) := by decide +kernel
theorem dL_law__1064 : decode cL_law_ 1064 = .ok (.iload 4, 2) := by decide +kernel
theorem dL_law__1066 : decode cL_law_ 1066 = .ok (.iconst 2, 1) := by decide +kernel
theorem dL_law__1067 : decode cL_law_ 1067 = .ok (.iadd, 1) := by decide +kernel
theorem dL_law__1068 : decode cL_law_ 1068 = .ok (.iaload, 1) := by decide +kernel
theorem dL_law__1069 : decode cL_law_ 1069 = .ok (.aload_n 0, 1) := by decide +kernel
theorem dL_law__1070 : decode cL_law_ 1070 = .ok (.iload 4, 2) := by decide +kernel
theorem dL_law__1072 : decode cL_law_ 1072 = .ok (.iconst 3, 1) := by decide +kernel
theorem dL_law__1073 : decode cL_law_ 1073 = .ok (.iadd, 1) := by decide +kernel
theorem dL_law__1074 : decode cL_law_ 1074 = .ok (.iaload, 1) := by decide +kernel
theorem dL_law__1075 : decode cL_law_ 1075 = .ok (.aload_n 0, 1) := by decide +kernel
theorem dL_law__1076 : decode cL_law_ 1076 = .ok (.iload 4, 2) := by decide +kernel
theorem dL_law__1078 : decode cL_law_ 1078 = .ok (.iconst 4, 1) := by decide +kernel
theorem dL_law__1079 : decode cL_law_ 1079 = .ok (.iadd, 1) := by decide +kernel
theorem dL_law__1080 : decode cL_law_ 1080 = .ok (.iaload, 1) := by decide +kernel
theorem dL_law__1081 : decode cL_law_ 1081 = .ok (.aload_n 3, 1) := by decide +kernel
theorem dL_law__1082 : decode cL_law_ 1082 = .ok (.invokestatic 199, 3) := by decide +kernel
theorem dL_law__1085 : decode cL_law_ 1085 = .ok (.istore 5, 2) := by decide +kernel
theorem dL_law__1087 : decode cL_law_ 1087 = .ok (.aload_n 2, 1) := by decide +kernel
theorem dL_law__1088 : decode cL_law_ 1088 = .ok (.aload_n 0, 1) := by decide +kernel
theorem dL_law__1089 : decode cL_law_ 1089 = .ok (.iload 4, 2) := by decide +kernel
theorem dL_law__1091 : decode cL_law_ 1091 = .ok (.iconst 1, 1) := by decide +kernel
theorem dL_law__1092 : decode cL_law_ 1092 = .ok (.iadd, 1) := by decide +kernel
theorem dL_law__1093 : decode cL_law_ 1093 = .ok (.iaload, 1) := by decide +kernel
theorem dL_law__1094 : decode cL_law_ 1094 = .ok (.aload_n 0, 1) := by decide +kernel
theorem dL_law__1095 : decode cL_law_ 1095 = .ok (.iload 4, 2) := by decide +kernel
theorem dL_law__1097 : decode cL_law_ 1097 = .ok (.iconst 2, 1) := by decide +kernel
theorem dL_law__1098 : decode cL_law_ 1098 = .ok (.iadd, 1) := by decide +kernel
theorem dL_law__1099 : decode cL_law_ 1099 = .ok (.iaload, 1) := by decide +kernel
theorem dL_law__1100 : decode cL_law_ 1100 = .ok (.aload_n 0, 1) := by decide +kernel
theorem dL_law__1101 : decode cL_law_ 1101 = .ok (.iload 4, 2) := by decide +kernel
theorem dL_law__1103 : decode cL_law_ 1103 = .ok (.iconst 3, 1) := by decide +kernel
theorem dL_law__1104 : decode cL_law_ 1104 = .ok (.iadd, 1) := by decide +kernel
theorem dL_law__1105 : decode cL_law_ 1105 = .ok (.iaload, 1) := by decide +kernel
theorem dL_law__1106 : decode cL_law_ 1106 = .ok (.aload_n 0, 1) := by decide +kernel
theorem dL_law__1107 : decode cL_law_ 1107 = .ok (.iload 4, 2) := by decide +kernel
theorem dL_law__1109 : decode cL_law_ 1109 = .ok (.iconst 4, 1) := by decide +kernel
theorem dL_law__1110 : decode cL_law_ 1110 = .ok (.iadd, 1) := by decide +kernel
theorem dL_law__1111 : decode cL_law_ 1111 = .ok (.iaload, 1) := by decide +kernel
theorem dL_law__1112 : decode cL_law_ 1112 = .ok (.invokevirtual 202, 3) := by decide +kernel
theorem dL_law__1115 : decode cL_law_ 1115 = .ok (.istore 6, 2) := by decide +kernel
theorem dL_law__1117 : decode cL_law_ 1117 = .ok (.aload_n 2, 1) := by decide +kernel
theorem dL_law__1118 : decode cL_law_ 1118 = .ok (.invokevirtual 152, 3) := by decide +kernel
theorem dL_law__1121 : decode cL_law_ 1121 = .ok (.iload 5, 2) := by decide +kernel
theorem dL_law__1123 : decode cL_law_ 1123 = .ok (.if_icmp .eq 5, 3) := by decide +kernel
theorem dL_law__1126 : decode cL_law_ 1126 = .ok (.iconst 0, 1) := by decide +kernel
theorem dL_law__1127 : decode cL_law_ 1127 = .ok (.ireturn, 1) := by decide +kernel
theorem dL_law__1128 : decode cL_law_ 1128 = .ok (.iload 5, 2) := by decide +kernel
theorem dL_law__1130 : decode cL_law_ 1130 = .ok (.ifCond .ne 15, 3) := by decide +kernel
theorem dL_law__1133 : decode cL_law_ 1133 = .ok (.aload_n 3, 1) := by decide +kernel
theorem dL_law__1134 : decode cL_law_ 1134 = .ok (.iconst 0, 1) := by decide +kernel
theorem dL_law__1135 : decode cL_law_ 1135 = .ok (.laload, 1) := by decide +kernel
theorem dL_law__1136 : decode cL_law_ 1136 = .ok (.iload 6, 2) := by decide +kernel
theorem dL_law__1138 : decode cL_law_ 1138 = .ok (.i2l, 1) := by decide +kernel
theorem dL_law__1139 : decode cL_law_ 1139 = .ok (.lcmp, 1) := by decide +kernel
theorem dL_law__1140 : decode cL_law_ 1140 = .ok (.ifCond .eq 5, 3) := by decide +kernel
theorem dL_law__1143 : decode cL_law_ 1143 = .ok (.iconst 0, 1) := by decide +kernel
theorem dL_law__1144 : decode cL_law_ 1144 = .ok (.ireturn, 1) := by decide +kernel
theorem dL_law__1145 : decode cL_law_ 1145 = .ok (.goto 1805, 3) := by decide +kernel
theorem dL_law__1148 : decode cL_law_ 1148 = .ok (.aload_n 1, 1) := by decide +kernel
theorem dL_law__1149 : decode cL_law_ 1149 = .ok (.aload_n 0, 1) := by decide +kernel
theorem dL_law__1150 : decode cL_law_ 1150 = .ok (.iload 4, 2) := by decide +kernel
theorem dL_law__1152 : decode cL_law_ 1152 = .ok (.iconst 1, 1) := by decide +kernel
theorem dL_law__1153 : decode cL_law_ 1153 = .ok (.iadd, 1) := by decide +kernel
theorem dL_law__1154 : decode cL_law_ 1154 = .ok (.iaload, 1) := by decide +kernel
theorem dL_law__1155 : decode cL_law_ 1155 = .ok (.aload_n 0, 1) := by decide +kernel
theorem dL_law__1156 : decode cL_law_ 1156 = .ok (.iload 4, 2) := by decide +kernel
theorem dL_law__1158 : decode cL_law_ 1158 = .ok (.iconst 2, 1) := by decide +kernel
theorem dL_law__1159 : decode cL_law_ 1159 = .ok (.iadd, 1) := by decide +kernel
theorem dL_law__1160 : decode cL_law_ 1160 = .ok (.iaload, 1) := by decide +kernel
theorem dL_law__1161 : decode cL_law_ 1161 = .ok (.aload_n 0, 1) := by decide +kernel
theorem dL_law__1162 : decode cL_law_ 1162 = .ok (.iload 4, 2) := by decide +kernel
theorem dL_law__1164 : decode cL_law_ 1164 = .ok (.iconst 3, 1) := by decide +kernel
theorem dL_law__1165 : decode cL_law_ 1165 = .ok (.iadd, 1) := by decide +kernel
theorem dL_law__1166 : decode cL_law_ 1166 = .ok (.iaload, 1) := by decide +kernel
theorem dL_law__1167 : decode cL_law_ 1167 = .ok (.aload_n 3, 1) := by decide +kernel
theorem dL_law__1168 : decode cL_law_ 1168 = .ok (.invokestatic 203, 3) := by decide +kernel
theorem dL_law__1171 : decode cL_law_ 1171 = .ok (.istore 5, 2) := by decide +kernel
theorem dL_law__1173 : decode cL_law_ 1173 = .ok (.aload_n 2, 1) := by decide +kernel
theorem dL_law__1174 : decode cL_law_ 1174 = .ok (.aload_n 0, 1) := by decide +kernel
theorem dL_law__1175 : decode cL_law_ 1175 = .ok (.iload 4, 2) := by decide +kernel
theorem dL_law__1177 : decode cL_law_ 1177 = .ok (.iconst 1, 1) := by decide +kernel
theorem dL_law__1178 : decode cL_law_ 1178 = .ok (.iadd, 1) := by decide +kernel
theorem dL_law__1179 : decode cL_law_ 1179 = .ok (.iaload, 1) := by decide +kernel
theorem dL_law__1180 : decode cL_law_ 1180 = .ok (.aload_n 0, 1) := by decide +kernel
theorem dL_law__1181 : decode cL_law_ 1181 = .ok (.iload 4, 2) := by decide +kernel
theorem dL_law__1183 : decode cL_law_ 1183 = .ok (.iconst 2, 1) := by decide +kernel
theorem dL_law__1184 : decode cL_law_ 1184 = .ok (.iadd, 1) := by decide +kernel
theorem dL_law__1185 : decode cL_law_ 1185 = .ok (.iaload, 1) := by decide +kernel
theorem dL_law__1186 : decode cL_law_ 1186 = .ok (.aload_n 0, 1) := by decide +kernel
theorem dL_law__1187 : decode cL_law_ 1187 = .ok (.iload 4, 2) := by decide +kernel
theorem dL_law__1189 : decode cL_law_ 1189 = .ok (.iconst 3, 1) := by decide +kernel
theorem dL_law__1190 : decode cL_law_ 1190 = .ok (.iadd, 1) := by decide +kernel
theorem dL_law__1191 : decode cL_law_ 1191 = .ok (.iaload, 1) := by decide +kernel
theorem dL_law__1192 : decode cL_law_ 1192 = .ok (.invokevirtual 205, 3) := by decide +kernel
theorem dL_law__1195 : decode cL_law_ 1195 = .ok (.istore 6, 2) := by decide +kernel

