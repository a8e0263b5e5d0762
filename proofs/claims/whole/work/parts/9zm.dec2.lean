/-! the law's decode rows -/
theorem dL_law__846 : decode cL_law_ 846 = .ok (.aload_n 0, 1) := by decide +kernel
theorem dL_law__847 : decode cL_law_ 847 = .ok (.iload 4, 2) := by decide +kernel
theorem dL_law__849 : decode cL_law_ 849 = .ok (.iconst 2, 1) := by decide +kernel
theorem dL_law__850 : decode cL_law_ 850 = .ok (.iadd, 1) := by decide +kernel
theorem dL_law__851 : decode cL_law_ 851 = .ok (.iaload, 1) := by decide +kernel
theorem dL_law__852 : decode cL_law_ 852 = .ok (.aload_n 3, 1) := by decide +kernel
theorem dL_law__853 : decode cL_law_ 853 = .ok (.invokestatic 171, 3) := by decide +kernel
theorem dL_law__856 : decode cL_law_ 856 = .ok (.istore 5, 2) := by decide +kernel
theorem dL_law__858 : decode cL_law_ 858 = .ok (.aload_n 2, 1) := by decide +kernel
theorem dL_law__859 : decode cL_law_ 859 = .ok (.aload_n 0, 1) := by decide +kernel
theorem dL_law__860 : decode cL_law_ 860 = .ok (.iload 4, 2) := by decide +kernel
theorem dL_law__862 : decode cL_law_ 862 = .ok (.iconst 1, 1) := by decide +kernel
theorem dL_law__863 : decode cL_law_ 863 = .ok (.iadd, 1) := by decide +kernel
theorem dL_law__864 : decode cL_law_ 864 = .ok (.iaload, 1) := by decide +kernel
theorem dL_law__865 : decode cL_law_ 865 = .ok (.aload_n 0, 1) := by decide +kernel
theorem dL_law__866 : decode cL_law_ 866 = .ok (.iload 4, 2) := by decide +kernel
theorem dL_law__868 : decode cL_law_ 868 = .ok (.iconst 2, 1) := by decide +kernel
theorem dL_law__869 : decode cL_law_ 869 = .ok (.iadd, 1) := by decide +kernel
theorem dL_law__870 : decode cL_law_ 870 = .ok (.iaload, 1) := by decide +kernel
theorem dL_law__871 : decode cL_law_ 871 = .ok (.invokevirtual 173, 3) := by decide +kernel
theorem dL_law__874 : decode cL_law_ 874 = .ok (.istore 6, 2) := by decide +kernel
theorem dL_law__876 : decode cL_law_ 876 = .ok (.aload_n 2, 1) := by decide +kernel
theorem dL_law__877 : decode cL_law_ 877 = .ok (.invokevirtual 142, 3) := by decide +kernel
theorem dL_law__880 : decode cL_law_ 880 = .ok (.iload 5, 2) := by decide +kernel
theorem dL_law__882 : decode cL_law_ 882 = .ok (.if_icmp .eq 5, 3) := by decide +kernel
theorem dL_law__885 : decode cL_law_ 885 = .ok (.iconst 0, 1) := by decide +kernel
theorem dL_law__886 : decode cL_law_ 886 = .ok (.ireturn, 1) := by decide +kernel
theorem dL_law__887 : decode cL_law_ 887 = .ok (.iload 5, 2) := by decide +kernel
theorem dL_law__889 : decode cL_law_ 889 = .ok (.ifCond .ne 15, 3) := by decide +kernel
theorem dL_law__892 : decode cL_law_ 892 = .ok (.aload_n 3, 1) := by decide +kernel
theorem dL_law__893 : decode cL_law_ 893 = .ok (.iconst 0, 1) := by decide +kernel
theorem dL_law__894 : decode cL_law_ 894 = .ok (.laload, 1) := by decide +kernel
theorem dL_law__895 : decode cL_law_ 895 = .ok (.iload 6, 2) := by decide +kernel
theorem dL_law__897 : decode cL_law_ 897 = .ok (.i2l, 1) := by decide +kernel
theorem dL_law__898 : decode cL_law_ 898 = .ok (.lcmp, 1) := by decide +kernel
theorem dL_law__899 : decode cL_law_ 899 = .ok (.ifCond .eq 5, 3) := by decide +kernel
theorem dL_law__902 : decode cL_law_ 902 = .ok (.iconst 0, 1) := by decide +kernel
theorem dL_law__903 : decode cL_law_ 903 = .ok (.ireturn, 1) := by decide +kernel
theorem dL_law__904 : decode cL_law_ 904 = .ok (.goto 1894, 3) := by decide +kernel
theorem dL_law__907 : decode cL_law_ 907 = .ok (.aload_n 1, 1) := by decide +kernel
theorem dL_law__908 : decode cL_law_ 908 = .ok (.aload_n 0, 1) := by decide +kernel
theorem dL_law__909 : decode cL_law_ 909 = .ok (.iload 4, 2) := by decide +kernel
theorem dL_law__911 : decode cL_law_ 911 = .ok (.iconst 1, 1) := by decide +kernel
theorem dL_law__912 : decode cL_law_ 912 = .ok (.iadd, 1) := by decide +kernel
theorem dL_law__913 : decode cL_law_ 913 = .ok (.iaload, 1) := by decide +kernel
theorem dL_law__914 : decode cL_law_ 914 = .ok (.aload_n 3, 1) := by decide +kernel
theorem dL_law__915 : decode cL_law_ 915 = .ok (.invokestatic 174, 3) := by decide +kernel
theorem dL_law__918 : decode cL_law_ 918 = .ok (.istore 5, 2) := by decide +kernel
theorem dL_law__920 : decode cL_law_ 920 = .ok (.aload_n 2, 1) := by decide +kernel
theorem dL_law__921 : decode cL_law_ 921 = .ok (.aload_n 0, 1) := by decide +kernel
theorem dL_law__922 : decode cL_law_ 922 = .ok (.iload 4, 2) := by decide +kernel
theorem dL_law__924 : decode cL_law_ 924 = .ok (.iconst 1, 1) := by decide +kernel
theorem dL_law__925 : decode cL_law_ 925 = .ok (.iadd, 1) := by decide +kernel
theorem dL_law__926 : decode cL_law_ 926 = .ok (.iaload, 1) := by decide +kernel
theorem dL_law__927 : decode cL_law_ 927 = .ok (.invokevirtual 177, 3) := by decide +kernel
theorem dL_law__930 : decode cL_law_ 930 = .ok (.istore 6, 2) := by decide +kernel
theorem dL_law__932 : decode cL_law_ 932 = .ok (.aload_n 2, 1) := by decide +kernel
theorem dL_law__933 : decode cL_law_ 933 = .ok (.invokevirtual 142, 3) := by decide +kernel
theorem dL_law__936 : decode cL_law_ 936 = .ok (.iload 5, 2) := by decide +kernel
theorem dL_law__938 : decode cL_law_ 938 = .ok (.if_icmp .eq 5, 3) := by decide +kernel
theorem dL_law__941 : decode cL_law_ 941 = .ok (.iconst 0, 1) := by decide +kernel
theorem dL_law__942 : decode cL_law_ 942 = .ok (.ireturn, 1) := by decide +kernel
theorem dL_law__943 : decode cL_law_ 943 = .ok (.iload 5, 2) := by decide +kernel
theorem dL_law__945 : decode cL_law_ 945 = .ok (.ifCond .ne 15, 3) := by decide +kernel
theorem dL_law__948 : decode cL_law_ 948 = .ok (.aload_n 3, 1) := by decide +kernel
theorem dL_law__949 : decode cL_law_ 949 = .ok (.iconst 0, 1) := by decide +kernel
theorem dL_law__950 : decode cL_law_ 950 = .ok (.laload, 1) := by decide +kernel
theorem dL_law__951 : decode cL_law_ 951 = .ok (.iload 6, 2) := by decide +kernel
theorem dL_law__953 : decode cL_law_ 953 = .ok (.i2l, 1) := by decide +kernel
theorem dL_law__954 : decode cL_law_ 954 = .ok (.lcmp, 1) := by decide +kernel
theorem dL_law__955 : decode cL_law_ 955 = .ok (.ifCond .eq 5, 3) := by decide +kernel
theorem dL_law__958 : decode cL_law_ 958 = .ok (.iconst 0, 1) := by decide +kernel
theorem dL_law__959 : decode cL_law_ 959 = .ok (.ireturn, 1) := by decide +kernel
theorem dL_law__960 : decode cL_law_ 960 = .ok (.goto 1838, 3) := by decide +kernel
theorem dL_law__963 : decode cL_law_ 963 = .ok (.aload_n 1, 1) := by decide +kernel
theorem dL_law__964 : decode cL_law_ 964 = .ok (.aload_n 0, 1) := by decide +kernel
theorem dL_law__965 : decode cL_law_ 965 = .ok (.iload 4, 2) := by decide +kernel
theorem dL_law__967 : decode cL_law_ 967 = .ok (.iconst 1, 1) := by decide +kernel
theorem dL_law__968 : decode cL_law_ 968 = .ok (.iadd, 1) := by decide +kernel
theorem dL_law__969 : decode cL_law_ 969 = .ok (.iaload, 1) := by decide +kernel
theorem dL_law__970 : decode cL_law_ 970 = .ok (.aload_n 0, 1) := by decide +kernel
theorem dL_law__971 : decode cL_law_ 971 = .ok (.iload 4, 2) := by decide +kernel
theorem dL_law__973 : decode cL_law_ 973 = .ok (.iconst 2, 1) := by decide +kernel
theorem dL_law__974 : decode cL_law_ 974 = .ok (.iadd, 1) := by decide +kernel
theorem dL_law__975 : decode cL_law_ 975 = .ok (.iaload, 1) := by decide +kernel
theorem dL_law__976 : decode cL_law_ 976 = .ok (.aload_n 0, 1) := by decide +kernel
theorem dL_law__977 : decode cL_law_ 977 = .ok (.iload 4, 2) := by decide +kernel
theorem dL_law__979 : decode cL_law_ 979 = .ok (.iconst 3, 1) := by decide +kernel
theorem dL_law__980 : decode cL_law_ 980 = .ok (.iadd, 1) := by decide +kernel
theorem dL_law__981 : decode cL_law_ 981 = .ok (.iaload, 1) := by decide +kernel
theorem dL_law__982 : decode cL_law_ 982 = .ok (.ifCond .eq 7, 3) := by decide +kernel
theorem dL_law__985 : decode cL_law_ 985 = .ok (.iconst 1, 1) := by decide +kernel
theorem dL_law__986 : decode cL_law_ 986 = .ok (.goto 4, 3) := by decide +kernel
theorem dL_law__989 : decode cL_law_ 989 = .ok (.iconst 0, 1) := by decide +kernel
theorem dL_law__990 : decode cL_law_ 990 = .ok (.aload_n 3, 1) := by decide +kernel
theorem dL_law__991 : decode cL_law_ 991 = .ok (.invokestatic 178, 3) := by decide +kernel
theorem dL_law__994 : decode cL_law_ 994 = .ok (.istore 5, 2) := by decide +kernel
theorem dL_law__996 : decode cL_law_ 996 = .ok (.aload_n 2, 1) := by decide +kernel
theorem dL_law__997 : decode cL_law_ 997 = .ok (.aload_n 0, 1) := by decide +kernel
theorem dL_law__998 : decode cL_law_ 998 = .ok (.iload 4, 2) := by decide +kernel
theorem dL_law__1000 : decode cL_law_ 1000 = .ok (.iconst 1, 1) := by decide +kernel
theorem dL_law__1001 : decode cL_law_ 1001 = .ok (.iadd, 1) := by decide +kernel
theorem dL_law__1002 : decode cL_law_ 1002 = .ok (.iaload, 1) := by decide +kernel
theorem dL_law__1003 : decode cL_law_ 1003 = .ok (.aload_n 0, 1) := by decide +kernel
theorem dL_law__1004 : decode cL_law_ 1004 = .ok (.iload 4, 2) := by decide +kernel
theorem dL_law__1006 : decode cL_law_ 1006 = .ok (.iconst 2, 1) := by decide +kernel
theorem dL_law__1007 : decode cL_law_ 1007 = .ok (.iadd, 1) := by decide +kernel
theorem dL_law__1008 : decode cL_law_ 1008 = .ok (.iaload, 1) := by decide +kernel
theorem dL_law__1009 : decode cL_law_ 1009 = .ok (.aload_n 0, 1) := by decide +kernel
theorem dL_law__1010 : decode cL_law_ 1010 = .ok (.iload 4, 2) := by decide +kernel
theorem dL_law__1012 : decode cL_law_ 1012 = .ok (.iconst 3, 1) := by decide +kernel
theorem dL_law__1013 : decode cL_law_ 1013 = .ok (.iadd, 1) := by decide +kernel
theorem dL_law__1014 : decode cL_law_ 1014 = .ok (.iaload, 1) := by decide +kernel
theorem dL_law__1015 : decode cL_law_ 1015 = .ok (.ifCond .eq 7, 3) := by decide +kernel
theorem dL_law__1018 : decode cL_law_ 1018 = .ok (.iconst 1, 1) := by decide +kernel
theorem dL_law__1019 : decode cL_law_ 1019 = .ok (.goto 4, 3) := by decide +kernel
theorem dL_law__1022 : decode cL_law_ 1022 = .ok (.iconst 0, 1) := by decide +kernel
theorem dL_law__1023 : decode cL_law_ 1023 = .ok (.invokevirtual 181, 3) := by decide +kernel
theorem dL_law__1026 : decode cL_law_ 1026 = .ok (.istore 6, 2) := by decide +kernel
theorem dL_law__1028 : decode cL_law_ 1028 = .ok (.aload_n 2, 1) := by decide +kernel
theorem dL_law__1029 : decode cL_law_ 1029 = .ok (.invokevirtual 142, 3) := by decide +kernel
theorem dL_law__1032 : decode cL_law_ 1032 = .ok (.iload 5, 2) := by decide +kernel
theorem dL_law__1034 : decode cL_law_ 1034 = .ok (.if_icmp .eq 5, 3) := by decide +kernel
theorem dL_law__1037 : decode cL_law_ 1037 = .ok (.iconst 0, 1) := by decide +kernel
theorem dL_law__1038 : decode cL_law_ 1038 = .ok (.ireturn, 1) := by decide +kernel
theorem dL_law__1039 : decode cL_law_ 1039 = .ok (.iload 5, 2) := by decide +kernel
theorem dL_law__1041 : decode cL_law_ 1041 = .ok (.ifCond .ne 15, 3) := by decide +kernel
theorem dL_law__1044 : decode cL_law_ 1044 = .ok (.aload_n 3, 1) := by decide +kernel
theorem dL_law__1045 : decode cL_law_ 1045 = .ok (.iconst 0, 1) := by decide +kernel
theorem dL_law__1046 : decode cL_law_ 1046 = .ok (.laload, 1) := by decide +kernel
theorem dL_law__1047 : decode cL_law_ 1047 = .ok (.iload 6, 2) := by decide +kernel
theorem dL_law__1049 : decode cL_law_ 1049 = .ok (.i2l, 1) := by decide +kernel
theorem dL_law__1050 : decode cL_law_ 1050 = .ok (.lcmp, 1) := by decide +kernel
theorem dL_law__1051 : decode cL_law_ 1051 = .ok (.ifCond .eq 5, 3) := by decide +kernel
theorem dL_law__1054 : decode cL_law_ 1054 = .ok (.iconst 0, 1) := by decide +kernel
theorem dL_law__1055 : decode cL_law_ 1055 = .ok (.ireturn, 1) := by decide +kernel
theorem dL_law__1056 : decode cL_law_ 1056 = .ok (.goto 1742, 3) := by decide +kernel
theorem dL_law__1059 : decode cL_law_ 1059 = .ok (.aload_n 1, 1) := by decide +kernel
theorem dL_law__1060 : decode cL_law_ 1060 = .ok (.aload_n 0, 1) := by decide +kernel
theorem dL_law__1061 : decode cL_law_ 1061 = .ok (.iload 4, 2) := by decide +kernel
theorem dL_law__1063 : decode cL_law_ 1063 = .ok (.iconst 1, 1) := by decide +kernel
theorem dL_law__1064 : decode cL_law_ 1064 = .ok (.iadd, 1) := by decide +kernel
theorem dL_law__1065 : decode cL_law_ 1065 = .ok (.iaload, 1) := by decide +kernel
theorem dL_law__1066 : decode cL_law_ 1066 = .ok (.aload_n 0, 1) := by decide +kernel
theorem dL_law__1067 : decode cL_law_ 1067 = .ok (.iload 4, 2) := by decide +kernel
theorem dL_law__1069 : decode cL_law_ 1069 = .ok (.iconst 2, 1) := by decide +kernel
theorem dL_law__1070 : decode cL_law_ 1070 = .ok (.iadd, 1) := by decide +kernel
theorem dL_law__1071 : decode cL_law_ 1071 = .ok (.iaload, 1) := by decide +kernel
theorem dL_law__1072 : decode cL_law_ 1072 = .ok (.aload_n 0, 1) := by decide +kernel
theorem dL_law__1073 : decode cL_law_ 1073 = .ok (.iload 4, 2) := by decide +kernel
theorem dL_law__1075 : decode cL_law_ 1075 = .ok (.iconst 3, 1) := by decide +kernel
theorem dL_law__1076 : decode cL_law_ 1076 = .ok (.iadd, 1) := by decide +kernel
theorem dL_law__1077 : decode cL_law_ 1077 = .ok (.iaload, 1) := by decide +kernel
theorem dL_law__1078 : decode cL_law_ 1078 = .ok (.aload_n 3, 1) := by decide +kernel
theorem dL_law__1079 : decode cL_law_ 1079 = .ok (.invokestatic 182, 3) := by decide +kernel
theorem dL_law__1082 : decode cL_law_ 1082 = .ok (.istore 5, 2) := by decide +kernel
theorem dL_law__1084 : decode cL_law_ 1084 = .ok (.aload_n 2, 1) := by decide +kernel
theorem dL_law__1085 : decode cL_law_ 1085 = .ok (.aload_n 0, 1) := by decide +kernel
theorem dL_law__1086 : decode cL_law_ 1086 = .ok (.iload 4, 2) := by decide +kernel
theorem dL_law__1088 : decode cL_law_ 1088 = .ok (.iconst 1, 1) := by decide +kernel
theorem dL_law__1089 : decode cL_law_ 1089 = .ok (.iadd, 1) := by decide +kernel
theorem dL_law__1090 : decode cL_law_ 1090 = .ok (.iaload, 1) := by decide +kernel
theorem dL_law__1091 : decode cL_law_ 1091 = .ok (.aload_n 0, 1) := by decide +kernel
theorem dL_law__1092 : decode cL_law_ 1092 = .ok (.iload 4, 2) := by decide +kernel
theorem dL_law__1094 : decode cL_law_ 1094 = .ok (.iconst 2, 1) := by decide +kernel
theorem dL_law__1095 : decode cL_law_ 1095 = .ok (.iadd, 1) := by decide +kernel
theorem dL_law__1096 : decode cL_law_ 1096 = .ok (.iaload, 1) := by decide +kernel
theorem dL_law__1097 : decode cL_law_ 1097 = .ok (.aload_n 0, 1) := by decide +kernel
theorem dL_law__1098 : decode cL_law_ 1098 = .ok (.iload 4, 2) := by decide +kernel
theorem dL_law__1100 : decode cL_law_ 1100 = .ok (.iconst 3, 1) := by decide +kernel
theorem dL_law__1101 : decode cL_law_ 1101 = .ok (.iadd, 1) := by decide +kernel
theorem dL_law__1102 : decode cL_law_ 1102 = .ok (.iaload, 1) := by decide +kernel
theorem dL_law__1103 : decode cL_law_ 1103 = .ok (.invokevirtual 185, 3) := by decide +kernel
theorem dL_law__1106 : decode cL_law_ 1106 = .ok (.istore 6, 2) := by decide +kernel
theorem dL_law__1108 : decode cL_law_ 1108 = .ok (.aload_n 2, 1) := by decide +kernel
theorem dL_law__1109 : decode cL_law_ 1109 = .ok (.invokevirtual 142, 3) := by decide +kernel
theorem dL_law__1112 : decode cL_law_ 1112 = .ok (.iload 5, 2) := by decide +kernel
theorem dL_law__1114 : decode cL_law_ 1114 = .ok (.if_icmp .eq 5, 3) := by decide +kernel
theorem dL_law__1117 : decode cL_law_ 1117 = .ok (.iconst 0, 1) := by decide +kernel
theorem dL_law__1118 : decode cL_law_ 1118 = .ok (.ireturn, 1) := by decide +kernel
theorem dL_law__1119 : decode cL_law_ 1119 = .ok (.iload 5, 2) := by decide +kernel
theorem dL_law__1121 : decode cL_law_ 1121 = .ok (.ifCond .ne 15, 3) := by decide +kernel
theorem dL_law__1124 : decode cL_law_ 1124 = .ok (.aload_n 3, 1) := by decide +kernel
theorem dL_law__1125 : decode cL_law_ 1125 = .ok (.iconst 0, 1) := by decide +kernel
theorem dL_law__1126 : decode cL_law_ 1126 = .ok (.laload, 1) := by decide +kernel
theorem dL_law__1127 : decode cL_law_ 1127 = .ok (.iload 6, 2) := by decide +kernel
theorem dL_law__1129 : decode cL_law_ 1129 = .ok (.i2l, 1) := by decide +kernel
theorem dL_law__1130 : decode cL_law_ 1130 = .ok (.lcmp, 1) := by decide +kernel
theorem dL_law__1131 : decode cL_law_ 1131 = .ok (.ifCond .eq 5, 3) := by decide +kernel
theorem dL_law__1134 : decode cL_law_ 1134 = .ok (.iconst 0, 1) := by decide +kernel
theorem dL_law__1135 : decode cL_law_ 1135 = .ok (.ireturn, 1) := by decide +kernel
theorem dL_law__1136 : decode cL_law_ 1136 = .ok (.goto 1662, 3) := by decide +kernel
theorem dL_law__1139 : decode cL_law_ 1139 = .ok (.aload_n 1, 1) := by decide +kernel
theorem dL_law__1140 : decode cL_law_ 1140 = .ok (.aload_n 0, 1) := by decide +kernel
theorem dL_law__1141 : decode cL_law_ 1141 = .ok (.iload 4, 2) := by decide +kernel
theorem dL_law__1143 : decode cL_law_ 1143 = .ok (.iconst 1, 1) := by decide +kernel
theorem dL_law__1144 : decode cL_law_ 1144 = .ok (.iadd, 1) := by decide +kernel
theorem dL_law__1145 : decode cL_law_ 1145 = .ok (.iaload, 1) := by decide +kernel
theorem dL_law__1146 : decode cL_law_ 1146 = .ok (.aload_n 0, 1) := by decide +kernel
theorem dL_law__1147 : decode cL_law_ 1147 = .ok (.iload 4, 2) := by decide +kernel
theorem dL_law__1149 : decode cL_law_ 1149 = .ok (.iconst 2, 1) := by decide +kernel
theorem dL_law__1150 : decode cL_law_ 1150 = .ok (.iadd, 1) := by decide +kernel
theorem dL_law__1151 : decode cL_law_ 1151 = .ok (.iaload, 1) := by decide +kernel
theorem dL_law__1152 : decode cL_law_ 1152 = .ok (.aload_n 3, 1) := by decide +kernel
theorem dL_law__1153 : decode cL_law_ 1153 = .ok (.invokestatic 186, 3) := by decide +kernel
theorem dL_law__1156 : decode cL_law_ 1156 = .ok (.istore 5, 2) := by decide +kernel
theorem dL_law__1158 : decode cL_law_ 1158 = .ok (.aload_n 2, 1) := by decide +kernel
theorem dL_law__1159 : decode cL_law_ 1159 = .ok (.aload_n 0, 1) := by decide +kernel
theorem dL_law__1160 : decode cL_law_ 1160 = .ok (.iload 4, 2) := by decide +kernel
theorem dL_law__1162 : decode cL_law_ 1162 = .ok (.iconst 1, 1) := by decide +kernel
theorem dL_law__1163 : decode cL_law_ 1163 = .ok (.iadd, 1) := by decide +kernel
theorem dL_law__1164 : decode cL_law_ 1164 = .ok (.iaload, 1) := by decide +kernel
theorem dL_law__1165 : decode cL_law_ 1165 = .ok (.aload_n 0, 1) := by decide +kernel
theorem dL_law__1166 : decode cL_law_ 1166 = .ok (.iload 4, 2) := by decide +kernel
theorem dL_law__1168 : decode cL_law_ 1168 = .ok (.iconst 2, 1) := by decide +kernel
