theorem dW_833 : decode code 833 = .ok (.aload_n 1, 1) := by decide +kernel
theorem dW_834 : decode code 834 = .ok (.aload_n 0, 1) := by decide +kernel
theorem dW_835 : decode code 835 = .ok (.iload 5, 2) := by decide +kernel
theorem dW_837 : decode code 837 = .ok (.iconst 1, 1) := by decide +kernel
theorem dW_838 : decode code 838 = .ok (.iadd, 1) := by decide +kernel
theorem dW_839 : decode code 839 = .ok (.iaload, 1) := by decide +kernel
theorem dW_840 : decode code 840 = .ok (.aload_n 0, 1) := by decide +kernel
theorem dW_841 : decode code 841 = .ok (.iload 5, 2) := by decide +kernel
theorem dW_843 : decode code 843 = .ok (.iconst 2, 1) := by decide +kernel
theorem dW_844 : decode code 844 = .ok (.iadd, 1) := by decide +kernel
theorem dW_845 : decode code 845 = .ok (.iaload, 1) := by decide +kernel
theorem dW_846 : decode code 846 = .ok (.aload_n 3, 1) := by decide +kernel
theorem dW_847 : decode code 847 = .ok (.invokestatic 198, 3) := by decide +kernel
theorem dW_850 : decode code 850 = .ok (.istore 6, 2) := by decide +kernel
theorem dW_852 : decode code 852 = .ok (.aload_n 2, 1) := by decide +kernel
theorem dW_853 : decode code 853 = .ok (.aload_n 0, 1) := by decide +kernel
theorem dW_854 : decode code 854 = .ok (.iload 5, 2) := by decide +kernel
theorem dW_856 : decode code 856 = .ok (.iconst 1, 1) := by decide +kernel
theorem dW_857 : decode code 857 = .ok (.iadd, 1) := by decide +kernel
theorem dW_858 : decode code 858 = .ok (.iaload, 1) := by decide +kernel
theorem dW_859 : decode code 859 = .ok (.aload_n 0, 1) := by decide +kernel
theorem dW_860 : decode code 860 = .ok (.iload 5, 2) := by decide +kernel
theorem dW_862 : decode code 862 = .ok (.iconst 2, 1) := by decide +kernel
theorem dW_863 : decode code 863 = .ok (.iadd, 1) := by decide +kernel
theorem dW_864 : decode code 864 = .ok (.iaload, 1) := by decide +kernel
theorem dW_865 : decode code 865 = .ok (.invokevirtual 200, 3) := by decide +kernel
theorem dW_868 : decode code 868 = .ok (.istore 7, 2) := by decide +kernel
theorem dW_870 : decode code 870 = .ok (.aload_n 2, 1) := by decide +kernel
theorem dW_871 : decode code 871 = .ok (.invokevirtual 160, 3) := by decide +kernel
theorem dW_874 : decode code 874 = .ok (.iload 6, 2) := by decide +kernel
theorem dW_876 : decode code 876 = .ok (.if_icmp .eq 5, 3) := by decide +kernel
theorem dW_881 : decode code 881 = .ok (.iload 6, 2) := by decide +kernel
theorem dW_883 : decode code 883 = .ok (.ifCond .ne 15, 3) := by decide +kernel
theorem dW_886 : decode code 886 = .ok (.aload_n 3, 1) := by decide +kernel
theorem dW_887 : decode code 887 = .ok (.iconst 0, 1) := by decide +kernel
theorem dW_888 : decode code 888 = .ok (.laload, 1) := by decide +kernel
theorem dW_889 : decode code 889 = .ok (.iload 7, 2) := by decide +kernel
theorem dW_891 : decode code 891 = .ok (.i2l, 1) := by decide +kernel
theorem dW_892 : decode code 892 = .ok (.lcmp, 1) := by decide +kernel
theorem dW_893 : decode code 893 = .ok (.ifCond .eq 5, 3) := by decide +kernel
theorem dW_898 : decode code 898 = .ok (.goto 1824, 3) := by decide +kernel
theorem dW_901 : decode code 901 = .ok (.aload_n 1, 1) := by decide +kernel
theorem dW_902 : decode code 902 = .ok (.aload_n 0, 1) := by decide +kernel
theorem dW_903 : decode code 903 = .ok (.iload 5, 2) := by decide +kernel
theorem dW_905 : decode code 905 = .ok (.iconst 1, 1) := by decide +kernel
theorem dW_906 : decode code 906 = .ok (.iadd, 1) := by decide +kernel
theorem dW_907 : decode code 907 = .ok (.iaload, 1) := by decide +kernel
theorem dW_908 : decode code 908 = .ok (.aload_n 3, 1) := by decide +kernel
theorem dW_909 : decode code 909 = .ok (.invokestatic 201, 3) := by decide +kernel
theorem dW_912 : decode code 912 = .ok (.istore 6, 2) := by decide +kernel
theorem dW_914 : decode code 914 = .ok (.aload_n 2, 1) := by decide +kernel
theorem dW_915 : decode code 915 = .ok (.aload_n 0, 1) := by decide +kernel
theorem dW_916 : decode code 916 = .ok (.iload 5, 2) := by decide +kernel
theorem dW_918 : decode code 918 = .ok (.iconst 1, 1) := by decide +kernel
theorem dW_919 : decode code 919 = .ok (.iadd, 1) := by decide +kernel
theorem dW_920 : decode code 920 = .ok (.iaload, 1) := by decide +kernel
theorem dW_921 : decode code 921 = .ok (.invokevirtual 203, 3) := by decide +kernel
theorem dW_924 : decode code 924 = .ok (.istore 7, 2) := by decide +kernel
theorem dW_926 : decode code 926 = .ok (.aload_n 2, 1) := by decide +kernel
theorem dW_927 : decode code 927 = .ok (.invokevirtual 160, 3) := by decide +kernel
theorem dW_930 : decode code 930 = .ok (.iload 6, 2) := by decide +kernel
theorem dW_932 : decode code 932 = .ok (.if_icmp .eq 5, 3) := by decide +kernel
theorem dW_937 : decode code 937 = .ok (.iload 6, 2) := by decide +kernel
theorem dW_939 : decode code 939 = .ok (.ifCond .ne 22, 3) := by decide +kernel
theorem dW_942 : decode code 942 = .ok (.aload_n 3, 1) := by decide +kernel
theorem dW_943 : decode code 943 = .ok (.iconst 0, 1) := by decide +kernel
theorem dW_944 : decode code 944 = .ok (.laload, 1) := by decide +kernel
theorem dW_945 : decode code 945 = .ok (.iload 7, 2) := by decide +kernel
theorem dW_947 : decode code 947 = .ok (.ifCond .eq 7, 3) := by decide +kernel
theorem dW_950 : decode code 950 = .ok (.lconst 1, 1) := by decide +kernel
theorem dW_951 : decode code 951 = .ok (.goto 4, 3) := by decide +kernel
theorem dW_954 : decode code 954 = .ok (.lconst 0, 1) := by decide +kernel
theorem dW_955 : decode code 955 = .ok (.lcmp, 1) := by decide +kernel
theorem dW_956 : decode code 956 = .ok (.ifCond .eq 5, 3) := by decide +kernel
theorem dW_961 : decode code 961 = .ok (.goto 1761, 3) := by decide +kernel
theorem dW_964 : decode code 964 = .ok (.aload_n 1, 1) := by decide +kernel
theorem dW_965 : decode code 965 = .ok (.aload_n 0, 1) := by decide +kernel
theorem dW_966 : decode code 966 = .ok (.iload 5, 2) := by decide +kernel
theorem dW_968 : decode code 968 = .ok (.iconst 1, 1) := by decide +kernel
theorem dW_969 : decode code 969 = .ok (.iadd, 1) := by decide +kernel
theorem dW_970 : decode code 970 = .ok (.iaload, 1) := by decide +kernel
theorem dW_971 : decode code 971 = .ok (.aload_n 3, 1) := by decide +kernel
theorem dW_972 : decode code 972 = .ok (.invokestatic 204, 3) := by decide +kernel
theorem dW_975 : decode code 975 = .ok (.istore 6, 2) := by decide +kernel
theorem dW_977 : decode code 977 = .ok (.aload_n 2, 1) := by decide +kernel
theorem dW_978 : decode code 978 = .ok (.aload_n 0, 1) := by decide +kernel
theorem dW_979 : decode code 979 = .ok (.iload 5, 2) := by decide +kernel
theorem dW_981 : decode code 981 = .ok (.iconst 1, 1) := by decide +kernel
theorem dW_982 : decode code 982 = .ok (.iadd, 1) := by decide +kernel
theorem dW_983 : decode code 983 = .ok (.iaload, 1) := by decide +kernel
theorem dW_984 : decode code 984 = .ok (.invokevirtual 206, 3) := by decide +kernel
theorem dW_987 : decode code 987 = .ok (.istore 7, 2) := by decide +kernel
theorem dW_989 : decode code 989 = .ok (.aload_n 2, 1) := by decide +kernel
theorem dW_990 : decode code 990 = .ok (.invokevirtual 160, 3) := by decide +kernel
theorem dW_993 : decode code 993 = .ok (.iload 6, 2) := by decide +kernel
theorem dW_995 : decode code 995 = .ok (.if_icmp .eq 5, 3) := by decide +kernel
theorem dW_1000 : decode code 1000 = .ok (.iload 6, 2) := by decide +kernel
theorem dW_1002 : decode code 1002 = .ok (.ifCond .ne 15, 3) := by decide +kernel
theorem dW_1005 : decode code 1005 = .ok (.aload_n 3, 1) := by decide +kernel
theorem dW_1006 : decode code 1006 = .ok (.iconst 0, 1) := by decide +kernel
theorem dW_1007 : decode code 1007 = .ok (.laload, 1) := by decide +kernel
theorem dW_1008 : decode code 1008 = .ok (.iload 7, 2) := by decide +kernel
theorem dW_1010 : decode code 1010 = .ok (.i2l, 1) := by decide +kernel
theorem dW_1011 : decode code 1011 = .ok (.lcmp, 1) := by decide +kernel
theorem dW_1012 : decode code 1012 = .ok (.ifCond .eq 5, 3) := by decide +kernel
theorem dW_1017 : decode code 1017 = .ok (.goto 1705, 3) := by decide +kernel
theorem dW_1020 : decode code 1020 = .ok (.aload_n 1, 1) := by decide +kernel
theorem dW_1021 : decode code 1021 = .ok (.aload_n 0, 1) := by decide +kernel
theorem dW_1022 : decode code 1022 = .ok (.iload 5, 2) := by decide +kernel
theorem dW_1024 : decode code 1024 = .ok (.iconst 1, 1) := by decide +kernel
theorem dW_1025 : decode code 1025 = .ok (.iadd, 1) := by decide +kernel
theorem dW_1026 : decode code 1026 = .ok (.iaload, 1) := by decide +kernel
theorem dW_1027 : decode code 1027 = .ok (.aload_n 3, 1) := by decide +kernel
theorem dW_1028 : decode code 1028 = .ok (.invokestatic 207, 3) := by decide +kernel
theorem dW_1031 : decode code 1031 = .ok (.istore 6, 2) := by decide +kernel
theorem dW_1033 : decode code 1033 = .ok (.aload_n 2, 1) := by decide +kernel
theorem dW_1034 : decode code 1034 = .ok (.aload_n 0, 1) := by decide +kernel
theorem dW_1035 : decode code 1035 = .ok (.iload 5, 2) := by decide +kernel
theorem dW_1037 : decode code 1037 = .ok (.iconst 1, 1) := by decide +kernel
theorem dW_1038 : decode code 1038 = .ok (.iadd, 1) := by decide +kernel
theorem dW_1039 : decode code 1039 = .ok (.iaload, 1) := by decide +kernel
theorem dW_1040 : decode code 1040 = .ok (.invokevirtual 209, 3) := by decide +kernel
theorem dW_1043 : decode code 1043 = .ok (.istore 7, 2) := by decide +kernel
theorem dW_1045 : decode code 1045 = .ok (.aload_n 2, 1) := by decide +kernel
theorem dW_1046 : decode code 1046 = .ok (.invokevirtual 160, 3) := by decide +kernel
theorem dW_1049 : decode code 1049 = .ok (.iload 6, 2) := by decide +kernel
theorem dW_1051 : decode code 1051 = .ok (.if_icmp .eq 5, 3) := by decide +kernel
theorem dW_1056 : decode code 1056 = .ok (.iload 6, 2) := by decide +kernel
theorem dW_1058 : decode code 1058 = .ok (.ifCond .ne 15, 3) := by decide +kernel
theorem dW_1061 : decode code 1061 = .ok (.aload_n 3, 1) := by decide +kernel
theorem dW_1062 : decode code 1062 = .ok (.iconst 0, 1) := by decide +kernel
theorem dW_1063 : decode code 1063 = .ok (.laload, 1) := by decide +kernel
theorem dW_1064 : decode code 1064 = .ok (.iload 7, 2) := by decide +kernel
theorem dW_1066 : decode code 1066 = .ok (.i2l, 1) := by decide +kernel
theorem dW_1067 : decode code 1067 = .ok (.lcmp, 1) := by decide +kernel
theorem dW_1068 : decode code 1068 = .ok (.ifCond .eq 5, 3) := by decide +kernel
theorem dW_1073 : decode code 1073 = .ok (.goto 1649, 3) := by decide +kernel
theorem dW_1076 : decode code 1076 = .ok (.aload_n 1, 1) := by decide +kernel
theorem dW_1077 : decode code 1077 = .ok (.aload_n 0, 1) := by decide +kernel
theorem dW_1078 : decode code 1078 = .ok (.iload 5, 2) := by decide +kernel
theorem dW_1080 : decode code 1080 = .ok (.iconst 1, 1) := by decide +kernel
theorem dW_1081 : decode code 1081 = .ok (.iadd, 1) := by decide +kernel
theorem dW_1082 : decode code 1082 = .ok (.iaload, 1) := by decide +kernel
theorem dW_1083 : decode code 1083 = .ok (.aload_n 0, 1) := by decide +kernel
theorem dW_1084 : decode code 1084 = .ok (.iload 5, 2) := by decide +kernel
theorem dW_1086 : decode code 1086 = .ok (.iconst 2, 1) := by decide +kernel
theorem dW_1087 : decode code 1087 = .ok (.iadd, 1) := by decide +kernel
theorem dW_1088 : decode code 1088 = .ok (.iaload, 1) := by decide +kernel
theorem dW_1089 : decode code 1089 = .ok (.aload_n 3, 1) := by decide +kernel
theorem dW_1090 : decode code 1090 = .ok (.invokestatic 210, 3) := by decide +kernel
theorem dW_1093 : decode code 1093 = .ok (.istore 6, 2) := by decide +kernel
theorem dW_1095 : decode code 1095 = .ok (.aload_n 2, 1) := by decide +kernel
theorem dW_1096 : decode code 1096 = .ok (.aload_n 0, 1) := by decide +kernel
theorem dW_1097 : decode code 1097 = .ok (.iload 5, 2) := by decide +kernel
theorem dW_1099 : decode code 1099 = .ok (.iconst 1, 1) := by decide +kernel
theorem dW_1100 : decode code 1100 = .ok (.iadd, 1) := by decide +kernel
theorem dW_1101 : decode code 1101 = .ok (.iaload, 1) := by decide +kernel
theorem dW_1102 : decode code 1102 = .ok (.aload_n 0, 1) := by decide +kernel
theorem dW_1103 : decode code 1103 = .ok (.iload 5, 2) := by decide +kernel
theorem dW_1105 : decode code 1105 = .ok (.iconst 2, 1) := by decide +kernel
theorem dW_1106 : decode code 1106 = .ok (.iadd, 1) := by decide +kernel
theorem dW_1107 : decode code 1107 = .ok (.iaload, 1) := by decide +kernel
theorem dW_1108 : decode code 1108 = .ok (.invokevirtual 212, 3) := by decide +kernel
theorem dW_1111 : decode code 1111 = .ok (.istore 7, 2) := by decide +kernel
theorem dW_1113 : decode code 1113 = .ok (.aload_n 2, 1) := by decide +kernel
theorem dW_1114 : decode code 1114 = .ok (.invokevirtual 160, 3) := by decide +kernel
theorem dW_1117 : decode code 1117 = .ok (.iload 6, 2) := by decide +kernel
theorem dW_1119 : decode code 1119 = .ok (.if_icmp .eq 5, 3) := by decide +kernel
theorem dW_1124 : decode code 1124 = .ok (.iload 6, 2) := by decide +kernel
theorem dW_1126 : decode code 1126 = .ok (.ifCond .ne 15, 3) := by decide +kernel
theorem dW_1129 : decode code 1129 = .ok (.aload_n 3, 1) := by decide +kernel
theorem dW_1130 : decode code 1130 = .ok (.iconst 0, 1) := by decide +kernel
theorem dW_1131 : decode code 1131 = .ok (.laload, 1) := by decide +kernel
theorem dW_1132 : decode code 1132 = .ok (.iload 7, 2) := by decide +kernel
theorem dW_1134 : decode code 1134 = .ok (.i2l, 1) := by decide +kernel
theorem dW_1135 : decode code 1135 = .ok (.lcmp, 1) := by decide +kernel
theorem dW_1136 : decode code 1136 = .ok (.ifCond .eq 5, 3) := by decide +kernel
theorem dW_1141 : decode code 1141 = .ok (.goto 1581, 3) := by decide +kernel
theorem dW_1144 : decode code 1144 = .ok (.aload_n 1, 1) := by decide +kernel
theorem dW_1145 : decode code 1145 = .ok (.aload_n 0, 1) := by decide +kernel
theorem dW_1146 : decode code 1146 = .ok (.iload 5, 2) := by decide +kernel
theorem dW_1148 : decode code 1148 = .ok (.iconst 1, 1) := by decide +kernel
theorem dW_1149 : decode code 1149 = .ok (.iadd, 1) := by decide +kernel
theorem dW_1150 : decode code 1150 = .ok (.iaload, 1) := by decide +kernel
theorem dW_1151 : decode code 1151 = .ok (.aload_n 0, 1) := by decide +kernel
theorem dW_1152 : decode code 1152 = .ok (.iload 5, 2) := by decide +kernel
theorem dW_1154 : decode code 1154 = .ok (.iconst 2, 1) := by decide +kernel
theorem dW_1155 : decode code 1155 = .ok (.iadd, 1) := by decide +kernel
theorem dW_1156 : decode code 1156 = .ok (.iaload, 1) := by decide +kernel
theorem dW_1157 : decode code 1157 = .ok (.aload_n 3, 1) := by decide +kernel
theorem dW_1158 : decode code 1158 = .ok (.invokestatic 213, 3) := by decide +kernel
theorem dW_1161 : decode code 1161 = .ok (.istore 6, 2) := by decide +kernel
theorem dW_1163 : decode code 1163 = .ok (.aload_n 2, 1) := by decide +kernel
theorem dW_1164 : decode code 1164 = .ok (.aload_n 0, 1) := by decide +kernel
theorem dW_1165 : decode code 1165 = .ok (.iload 5, 2) := by decide +kernel
theorem dW_1167 : decode code 1167 = .ok (.iconst 1, 1) := by decide +kernel
theorem dW_1168 : decode code 1168 = .ok (.iadd, 1) := by decide +kernel
theorem dW_1169 : decode code 1169 = .ok (.iaload, 1) := by decide +kernel
theorem dW_1170 : decode code 1170 = .ok (.aload_n 0, 1) := by decide +kernel
theorem dW_1171 : decode code 1171 = .ok (.iload 5, 2) := by decide +kernel
theorem dW_1173 : decode code 1173 = .ok (.iconst 2, 1) := by decide +kernel
theorem dW_1174 : decode code 1174 = .ok (.iadd, 1) := by decide +kernel
theorem dW_1175 : decode code 1175 = .ok (.iaload, 1) := by decide +kernel
theorem dW_1176 : decode code 1176 = .ok (.invokevirtual 215, 3) := by decide +kernel
theorem dW_1179 : decode code 1179 = .ok (.istore 7, 2) := by decide +kernel
theorem dW_1181 : decode code 1181 = .ok (.aload_n 2, 1) := by decide +kernel
theorem dW_1182 : decode code 1182 = .ok (.invokevirtual 160, 3) := by decide +kernel
theorem dW_1185 : decode code 1185 = .ok (.iload 6, 2) := by decide +kernel
theorem dW_1187 : decode code 1187 = .ok (.if_icmp .eq 5, 3) := by decide +kernel
theorem dW_1192 : decode code 1192 = .ok (.iload 6, 2) := by decide +kernel
theorem dW_1194 : decode code 1194 = .ok (.ifCond .ne 15, 3) := by decide +kernel
theorem dW_1197 : decode code 1197 = .ok (.aload_n 3, 1) := by decide +kernel
theorem dW_1198 : decode code 1198 = .ok (.iconst 0, 1) := by decide +kernel
theorem dW_1199 : decode code 1199 = .ok (.laload, 1) := by decide +kernel
theorem dW_1200 : decode code 1200 = .ok (.iload 7, 2) := by decide +kernel
theorem dW_1202 : decode code 1202 = .ok (.i2l, 1) := by decide +kernel
theorem dW_1203 : decode code 1203 = .ok (.lcmp, 1) := by decide +kernel
theorem dW_1204 : decode code 1204 = .ok (.ifCond .eq 5, 3) := by decide +kernel
theorem dW_1209 : decode code 1209 = .ok (.goto 1513, 3) := by decide +kernel
theorem dW_1212 : decode code 1212 = .ok (.aload_n 1, 1) := by decide +kernel
theorem dW_1213 : decode code 1213 = .ok (.aload_n 0, 1) := by decide +kernel
theorem dW_1214 : decode code 1214 = .ok (.iload 5, 2) := by decide +kernel
theorem dW_1216 : decode code 1216 = .ok (.iconst 1, 1) := by decide +kernel
theorem dW_1217 : decode code 1217 = .ok (.iadd, 1) := by decide +kernel
theorem dW_1218 : decode code 1218 = .ok (.iaload, 1) := by decide +kernel
theorem dW_1219 : decode code 1219 = .ok (.aload_n 0, 1) := by decide +kernel
theorem dW_1220 : decode code 1220 = .ok (.iload 5, 2) := by decide +kernel
theorem dW_1222 : decode code 1222 = .ok (.iconst 2, 1) := by decide +kernel
theorem dW_1223 : decode code 1223 = .ok (.iadd, 1) := by decide +kernel
theorem dW_1224 : decode code 1224 = .ok (.iaload, 1) := by decide +kernel
theorem dW_1225 : decode code 1225 = .ok (.aload_n 3, 1) := by decide +kernel
theorem dW_1226 : decode code 1226 = .ok (.invokestatic 216, 3) := by decide +kernel
theorem dW_1229 : decode code 1229 = .ok (.istore 6, 2) := by decide +kernel
theorem dW_1231 : decode code 1231 = .ok (.aload_n 2, 1) := by decide +kernel
theorem dW_1232 : decode code 1232 = .ok (.aload_n 0, 1) := by decide +kernel
theorem dW_1233 : decode code 1233 = .ok (.iload 5, 2) := by decide +kernel
theorem dW_1235 : decode code 1235 = .ok (.iconst 1, 1) := by decide +kernel
theorem dW_1236 : decode code 1236 = .ok (.iadd, 1) := by decide +kernel
theorem dW_1237 : decode code 1237 = .ok (.iaload, 1) := by decide +kernel
theorem dW_1238 : decode code 1238 = .ok (.aload_n 0, 1) := by decide +kernel
theorem dW_1239 : decode code 1239 = .ok (.iload 5, 2) := by decide +kernel
theorem dW_1241 : decode code 1241 = .ok (.iconst 2, 1) := by decide +kernel
theorem dW_1242 : decode code 1242 = .ok (.iadd, 1) := by decide +kernel
theorem dW_1243 : decode code 1243 = .ok (.iaload, 1) := by decide +kernel
theorem dW_1244 : decode code 1244 = .ok (.invokevirtual 218, 3) := by decide +kernel
theorem dW_1247 : decode code 1247 = .ok (.istore 7, 2) := by decide +kernel
theorem dW_1249 : decode code 1249 = .ok (.aload_n 2, 1) := by decide +kernel
theorem dW_1250 : decode code 1250 = .ok (.invokevirtual 160, 3) := by decide +kernel
theorem dW_1253 : decode code 1253 = .ok (.iload 6, 2) := by decide +kernel
theorem dW_1255 : decode code 1255 = .ok (.if_icmp .eq 5, 3) := by decide +kernel
theorem dW_1260 : decode code 1260 = .ok (.iload 6, 2) := by decide +kernel
theorem dW_1262 : decode code 1262 = .ok (.ifCond .ne 15, 3) := by decide +kernel
theorem dW_1265 : decode code 1265 = .ok (.aload_n 3, 1) := by decide +kernel
theorem dW_1266 : decode code 1266 = .ok (.iconst 0, 1) := by decide +kernel
theorem dW_1267 : decode code 1267 = .ok (.laload, 1) := by decide +kernel
theorem dW_1268 : decode code 1268 = .ok (.iload 7, 2) := by decide +kernel
theorem dW_1270 : decode code 1270 = .ok (.i2l, 1) := by decide +kernel
theorem dW_1271 : decode code 1271 = .ok (.lcmp, 1) := by decide +kernel
theorem dW_1272 : decode code 1272 = .ok (.ifCond .eq 5, 3) := by decide +kernel
theorem dW_1277 : decode code 1277 = .ok (.goto 1445, 3) := by decide +kernel
theorem dW_1280 : decode code 1280 = .ok (.aload_n 1, 1) := by decide +kernel
theorem dW_1281 : decode code 1281 = .ok (.aload_n 0, 1) := by decide +kernel
theorem dW_1282 : decode code 1282 = .ok (.iload 5, 2) := by decide +kernel
theorem dW_1284 : decode code 1284 = .ok (.iconst 1, 1) := by decide +kernel
theorem dW_1285 : decode code 1285 = .ok (.iadd, 1) := by decide +kernel
theorem dW_1286 : decode code 1286 = .ok (.iaload, 1) := by decide +kernel
theorem dW_1287 : decode code 1287 = .ok (.aload_n 0, 1) := by decide +kernel
theorem dW_1288 : decode code 1288 = .ok (.iload 5, 2) := by decide +kernel
theorem dW_1290 : decode code 1290 = .ok (.iconst 2, 1) := by decide +kernel
theorem dW_1291 : decode code 1291 = .ok (.iadd, 1) := by decide +kernel
theorem dW_1292 : decode code 1292 = .ok (.iaload, 1) := by decide +kernel
theorem dW_1293 : decode code 1293 = .ok (.aload_n 3, 1) := by decide +kernel
theorem dW_1294 : decode code 1294 = .ok (.invokestatic 219, 3) := by decide +kernel
theorem dW_1297 : decode code 1297 = .ok (.istore 6, 2) := by decide +kernel
theorem dW_1299 : decode code 1299 = .ok (.aload_n 2, 1) := by decide +kernel
theorem dW_1300 : decode code 1300 = .ok (.aload_n 0, 1) := by decide +kernel
theorem dW_1301 : decode code 1301 = .ok (.iload 5, 2) := by decide +kernel
theorem dW_1303 : decode code 1303 = .ok (.iconst 1, 1) := by decide +kernel
theorem dW_1304 : decode code 1304 = .ok (.iadd, 1) := by decide +kernel
theorem dW_1305 : decode code 1305 = .ok (.iaload, 1) := by decide +kernel
theorem dW_1306 : decode code 1306 = .ok (.aload_n 0, 1) := by decide +kernel
theorem dW_1307 : decode code 1307 = .ok (.iload 5, 2) := by decide +kernel
theorem dW_1309 : decode code 1309 = .ok (.iconst 2, 1) := by decide +kernel
theorem dW_1310 : decode code 1310 = .ok (.iadd, 1) := by decide +kernel
theorem dW_1311 : decode code 1311 = .ok (.iaload, 1) := by decide +kernel
theorem dW_1312 : decode code 1312 = .ok (.invokevirtual 221, 3) := by decide +kernel
theorem dW_1315 : decode code 1315 = .ok (.istore 7, 2) := by decide +kernel
theorem dW_1317 : decode code 1317 = .ok (.aload_n 2, 1) := by decide +kernel
theorem dW_1318 : decode code 1318 = .ok (.invokevirtual 160, 3) := by decide +kernel
theorem dW_1321 : decode code 1321 = .ok (.iload 6, 2) := by decide +kernel
theorem dW_1323 : decode code 1323 = .ok (.if_icmp .eq 5, 3) := by decide +kernel
theorem dW_1328 : decode code 1328 = .ok (.iload 6, 2) := by decide +kernel
theorem dW_1330 : decode code 1330 = .ok (.ifCond .ne 15, 3) := by decide +kernel
theorem dW_1333 : decode code 1333 = .ok (.aload_n 3, 1) := by decide +kernel
theorem dW_1334 : decode code 1334 = .ok (.iconst 0, 1) := by decide +kernel
theorem dW_1335 : decode code 1335 = .ok (.laload, 1) := by decide +kernel
theorem dW_1336 : decode code 1336 = .ok (.iload 7, 2) := by decide +kernel
theorem dW_1338 : decode code 1338 = .ok (.i2l, 1) := by decide +kernel
theorem dW_1339 : decode code 1339 = .ok (.lcmp, 1) := by decide +kernel
theorem dW_1340 : decode code 1340 = .ok (.ifCond .eq 5, 3) := by decide +kernel
theorem dW_1345 : decode code 1345 = .ok (.goto 1377, 3) := by decide +kernel
theorem dW_1348 : decode code 1348 = .ok (.aload_n 1, 1) := by decide +kernel
theorem dW_1349 : decode code 1349 = .ok (.invokevirtual 222, 3) := by decide +kernel
theorem dW_1352 : decode code 1352 = .ok (.aload_n 2, 1) := by decide +kernel
theorem dW_1353 : decode code 1353 = .ok (.invokevirtual 225, 3) := by decide +kernel
theorem dW_1356 : decode code 1356 = .ok (.if_icmp .eq 1366, 3) := by decide +kernel
theorem dW_1361 : decode code 1361 = .ok (.aload_n 1, 1) := by decide +kernel
theorem dW_1362 : decode code 1362 = .ok (.aload_n 0, 1) := by decide +kernel
theorem dW_1363 : decode code 1363 = .ok (.iload 5, 2) := by decide +kernel
theorem dW_1365 : decode code 1365 = .ok (.iconst 1, 1) := by decide +kernel
theorem dW_1366 : decode code 1366 = .ok (.iadd, 1) := by decide +kernel
theorem dW_1367 : decode code 1367 = .ok (.iaload, 1) := by decide +kernel
theorem dW_1368 : decode code 1368 = .ok (.aload_n 3, 1) := by decide +kernel
theorem dW_1369 : decode code 1369 = .ok (.invokestatic 226, 3) := by decide +kernel
theorem dW_1372 : decode code 1372 = .ok (.istore 6, 2) := by decide +kernel
theorem dW_1374 : decode code 1374 = .ok (.aload_n 2, 1) := by decide +kernel
theorem dW_1375 : decode code 1375 = .ok (.aload_n 0, 1) := by decide +kernel
theorem dW_1376 : decode code 1376 = .ok (.iload 5, 2) := by decide +kernel
theorem dW_1378 : decode code 1378 = .ok (.iconst 1, 1) := by decide +kernel
theorem dW_1379 : decode code 1379 = .ok (.iadd, 1) := by decide +kernel
theorem dW_1380 : decode code 1380 = .ok (.iaload, 1) := by decide +kernel
theorem dW_1381 : decode code 1381 = .ok (.invokevirtual 228, 3) := by decide +kernel
theorem dW_1384 : decode code 1384 = .ok (.istore 7, 2) := by decide +kernel
theorem dW_1386 : decode code 1386 = .ok (.aload_n 2, 1) := by decide +kernel
theorem dW_1387 : decode code 1387 = .ok (.invokevirtual 160, 3) := by decide +kernel
theorem dW_1390 : decode code 1390 = .ok (.iload 6, 2) := by decide +kernel
theorem dW_1392 : decode code 1392 = .ok (.if_icmp .eq 5, 3) := by decide +kernel
theorem dW_1397 : decode code 1397 = .ok (.iload 6, 2) := by decide +kernel
theorem dW_1399 : decode code 1399 = .ok (.ifCond .ne 15, 3) := by decide +kernel
theorem dW_1402 : decode code 1402 = .ok (.aload_n 3, 1) := by decide +kernel
theorem dW_1403 : decode code 1403 = .ok (.iconst 0, 1) := by decide +kernel
theorem dW_1404 : decode code 1404 = .ok (.laload, 1) := by decide +kernel
theorem dW_1405 : decode code 1405 = .ok (.iload 7, 2) := by decide +kernel
theorem dW_1407 : decode code 1407 = .ok (.i2l, 1) := by decide +kernel
theorem dW_1408 : decode code 1408 = .ok (.lcmp, 1) := by decide +kernel
theorem dW_1409 : decode code 1409 = .ok (.ifCond .eq 5, 3) := by decide +kernel
theorem dW_1414 : decode code 1414 = .ok (.goto 1308, 3) := by decide +kernel
theorem dW_1417 : decode code 1417 = .ok (.aload_n 1, 1) := by decide +kernel
theorem dW_1418 : decode code 1418 = .ok (.aload_n 0, 1) := by decide +kernel
theorem dW_1419 : decode code 1419 = .ok (.iload 5, 2) := by decide +kernel
theorem dW_1421 : decode code 1421 = .ok (.iconst 1, 1) := by decide +kernel
theorem dW_1422 : decode code 1422 = .ok (.iadd, 1) := by decide +kernel
theorem dW_1423 : decode code 1423 = .ok (.iaload, 1) := by decide +kernel
theorem dW_1424 : decode code 1424 = .ok (.aload_n 3, 1) := by decide +kernel
theorem dW_1425 : decode code 1425 = .ok (.invokestatic 229, 3) := by decide +kernel
theorem dW_1428 : decode code 1428 = .ok (.istore 6, 2) := by decide +kernel
theorem dW_1430 : decode code 1430 = .ok (.aload_n 2, 1) := by decide +kernel
theorem dW_1431 : decode code 1431 = .ok (.aload_n 0, 1) := by decide +kernel
theorem dW_1432 : decode code 1432 = .ok (.iload 5, 2) := by decide +kernel
theorem dW_1434 : decode code 1434 = .ok (.iconst 1, 1) := by decide +kernel
