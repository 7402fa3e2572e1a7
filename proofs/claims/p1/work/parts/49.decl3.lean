theorem dlaw_800 : decode code 800 = .ok (.aload_n 0, 1) := by decide +kernel
theorem dlaw_801 : decode code 801 = .ok (.iload 5, 2) := by decide +kernel
theorem dlaw_803 : decode code 803 = .ok (.iconst 1, 1) := by decide +kernel
theorem dlaw_804 : decode code 804 = .ok (.iadd, 1) := by decide +kernel
theorem dlaw_805 : decode code 805 = .ok (.iaload, 1) := by decide +kernel
theorem dlaw_806 : decode code 806 = .ok (.aload_n 3, 1) := by decide +kernel
theorem dlaw_807 : decode code 807 = .ok (.invokestatic 120, 3) := by decide +kernel
theorem dlaw_810 : decode code 810 = .ok (.istore 6, 2) := by decide +kernel
theorem dlaw_812 : decode code 812 = .ok (.aload_n 2, 1) := by decide +kernel
theorem dlaw_813 : decode code 813 = .ok (.aload_n 0, 1) := by decide +kernel
theorem dlaw_814 : decode code 814 = .ok (.iload 5, 2) := by decide +kernel
theorem dlaw_816 : decode code 816 = .ok (.iconst 1, 1) := by decide +kernel
theorem dlaw_817 : decode code 817 = .ok (.iadd, 1) := by decide +kernel
theorem dlaw_818 : decode code 818 = .ok (.iaload, 1) := by decide +kernel
theorem dlaw_819 : decode code 819 = .ok (.invokevirtual 123, 3) := by decide +kernel
theorem dlaw_822 : decode code 822 = .ok (.istore 7, 2) := by decide +kernel
theorem dlaw_824 : decode code 824 = .ok (.aload_n 2, 1) := by decide +kernel
theorem dlaw_825 : decode code 825 = .ok (.invokevirtual 80, 3) := by decide +kernel
theorem dlaw_828 : decode code 828 = .ok (.iload 6, 2) := by decide +kernel
theorem dlaw_830 : decode code 830 = .ok (.if_icmp .eq 5, 3) := by decide +kernel
theorem dlaw_833 : decode code 833 = .ok (.iconst 0, 1) := by decide +kernel
theorem dlaw_834 : decode code 834 = .ok (.ireturn, 1) := by decide +kernel
theorem dlaw_835 : decode code 835 = .ok (.iload 6, 2) := by decide +kernel
theorem dlaw_837 : decode code 837 = .ok (.ifCond .ne 15, 3) := by decide +kernel
theorem dlaw_840 : decode code 840 = .ok (.aload_n 3, 1) := by decide +kernel
theorem dlaw_841 : decode code 841 = .ok (.iconst 0, 1) := by decide +kernel
theorem dlaw_842 : decode code 842 = .ok (.laload, 1) := by decide +kernel
theorem dlaw_843 : decode code 843 = .ok (.iload 7, 2) := by decide +kernel
theorem dlaw_845 : decode code 845 = .ok (.i2l, 1) := by decide +kernel
theorem dlaw_846 : decode code 846 = .ok (.lcmp, 1) := by decide +kernel
theorem dlaw_847 : decode code 847 = .ok (.ifCond .eq 5, 3) := by decide +kernel
theorem dlaw_850 : decode code 850 = .ok (.iconst 0, 1) := by decide +kernel
theorem dlaw_851 : decode code 851 = .ok (.ireturn, 1) := by decide +kernel
theorem dlaw_852 : decode code 852 = .ok (.goto 337, 3) := by decide +kernel
theorem dlaw_855 : decode code 855 = .ok (.aload_n 1, 1) := by decide +kernel
theorem dlaw_856 : decode code 856 = .ok (.aload_n 0, 1) := by decide +kernel
theorem dlaw_857 : decode code 857 = .ok (.iload 5, 2) := by decide +kernel
theorem dlaw_859 : decode code 859 = .ok (.iconst 1, 1) := by decide +kernel
theorem dlaw_860 : decode code 860 = .ok (.iadd, 1) := by decide +kernel
theorem dlaw_861 : decode code 861 = .ok (.iaload, 1) := by decide +kernel
theorem dlaw_862 : decode code 862 = .ok (.aload_n 0, 1) := by decide +kernel
theorem dlaw_863 : decode code 863 = .ok (.iload 5, 2) := by decide +kernel
theorem dlaw_865 : decode code 865 = .ok (.iconst 2, 1) := by decide +kernel
theorem dlaw_866 : decode code 866 = .ok (.iadd, 1) := by decide +kernel
theorem dlaw_867 : decode code 867 = .ok (.iaload, 1) := by decide +kernel
theorem dlaw_868 : decode code 868 = .ok (.aload 4, 2) := by decide +kernel
theorem dlaw_870 : decode code 870 = .ok (.invokestatic 124, 3) := by decide +kernel
theorem dlaw_873 : decode code 873 = .ok (.istore 6, 2) := by decide +kernel
theorem dlaw_875 : decode code 875 = .ok (.aload_n 2, 1) := by decide +kernel
theorem dlaw_876 : decode code 876 = .ok (.aload_n 0, 1) := by decide +kernel
theorem dlaw_877 : decode code 877 = .ok (.iload 5, 2) := by decide +kernel
theorem dlaw_879 : decode code 879 = .ok (.iconst 1, 1) := by decide +kernel
theorem dlaw_880 : decode code 880 = .ok (.iadd, 1) := by decide +kernel
theorem dlaw_881 : decode code 881 = .ok (.iaload, 1) := by decide +kernel
theorem dlaw_882 : decode code 882 = .ok (.aload_n 0, 1) := by decide +kernel
theorem dlaw_883 : decode code 883 = .ok (.iload 5, 2) := by decide +kernel
theorem dlaw_885 : decode code 885 = .ok (.iconst 2, 1) := by decide +kernel
theorem dlaw_886 : decode code 886 = .ok (.iadd, 1) := by decide +kernel
theorem dlaw_887 : decode code 887 = .ok (.iaload, 1) := by decide +kernel
theorem dlaw_888 : decode code 888 = .ok (.invokevirtual 126, 3) := by decide +kernel
theorem dlaw_891 : decode code 891 = .ok (.dstore 7, 2) := by decide +kernel
theorem dlaw_893 : decode code 893 = .ok (.aload_n 2, 1) := by decide +kernel
theorem dlaw_894 : decode code 894 = .ok (.invokevirtual 80, 3) := by decide +kernel
theorem dlaw_897 : decode code 897 = .ok (.iload 6, 2) := by decide +kernel
theorem dlaw_899 : decode code 899 = .ok (.if_icmp .eq 5, 3) := by decide +kernel
theorem dlaw_902 : decode code 902 = .ok (.iconst 0, 1) := by decide +kernel
theorem dlaw_903 : decode code 903 = .ok (.ireturn, 1) := by decide +kernel
theorem dlaw_904 : decode code 904 = .ok (.iload 6, 2) := by decide +kernel
theorem dlaw_906 : decode code 906 = .ok (.ifCond .ne 35, 3) := by decide +kernel
theorem dlaw_909 : decode code 909 = .ok (.aload 4, 2) := by decide +kernel
theorem dlaw_911 : decode code 911 = .ok (.iconst 0, 1) := by decide +kernel
theorem dlaw_912 : decode code 912 = .ok (.daload, 1) := by decide +kernel
theorem dlaw_913 : decode code 913 = .ok (.dload 7, 2) := by decide +kernel
theorem dlaw_915 : decode code 915 = .ok (.dcmp .l, 1) := by decide +kernel
theorem dlaw_916 : decode code 916 = .ok (.ifCond .eq 25, 3) := by decide +kernel
theorem dlaw_919 : decode code 919 = .ok (.aload 4, 2) := by decide +kernel
theorem dlaw_921 : decode code 921 = .ok (.iconst 0, 1) := by decide +kernel
theorem dlaw_922 : decode code 922 = .ok (.daload, 1) := by decide +kernel
theorem dlaw_923 : decode code 923 = .ok (.aload 4, 2) := by decide +kernel
theorem dlaw_925 : decode code 925 = .ok (.iconst 0, 1) := by decide +kernel
theorem dlaw_926 : decode code 926 = .ok (.daload, 1) := by decide +kernel
theorem dlaw_927 : decode code 927 = .ok (.dcmp .l, 1) := by decide +kernel
theorem dlaw_928 : decode code 928 = .ok (.ifCond .eq 11, 3) := by decide +kernel
theorem dlaw_931 : decode code 931 = .ok (.dload 7, 2) := by decide +kernel
theorem dlaw_933 : decode code 933 = .ok (.dload 7, 2) := by decide +kernel
theorem dlaw_935 : decode code 935 = .ok (.dcmp .l, 1) := by decide +kernel
theorem dlaw_936 : decode code 936 = .ok (.ifCond .ne 5, 3) := by decide +kernel
theorem dlaw_939 : decode code 939 = .ok (.iconst 0, 1) := by decide +kernel
theorem dlaw_940 : decode code 940 = .ok (.ireturn, 1) := by decide +kernel
theorem dlaw_941 : decode code 941 = .ok (.goto 248, 3) := by decide +kernel
theorem dlaw_944 : decode code 944 = .ok (.aload_n 1, 1) := by decide +kernel
theorem dlaw_945 : decode code 945 = .ok (.aload_n 3, 1) := by decide +kernel
theorem dlaw_946 : decode code 946 = .ok (.invokestatic 127, 3) := by decide +kernel
theorem dlaw_949 : decode code 949 = .ok (.istore 6, 2) := by decide +kernel
theorem dlaw_951 : decode code 951 = .ok (.aload_n 2, 1) := by decide +kernel
theorem dlaw_952 : decode code 952 = .ok (.invokevirtual 129, 3) := by decide +kernel
theorem dlaw_955 : decode code 955 = .ok (.istore 7, 2) := by decide +kernel
theorem dlaw_957 : decode code 957 = .ok (.aload_n 2, 1) := by decide +kernel
theorem dlaw_958 : decode code 958 = .ok (.invokevirtual 80, 3) := by decide +kernel
theorem dlaw_961 : decode code 961 = .ok (.iload 6, 2) := by decide +kernel
theorem dlaw_963 : decode code 963 = .ok (.if_icmp .eq 5, 3) := by decide +kernel
theorem dlaw_966 : decode code 966 = .ok (.iconst 0, 1) := by decide +kernel
theorem dlaw_967 : decode code 967 = .ok (.ireturn, 1) := by decide +kernel
theorem dlaw_968 : decode code 968 = .ok (.iload 6, 2) := by decide +kernel
theorem dlaw_970 : decode code 970 = .ok (.ifCond .ne 15, 3) := by decide +kernel
theorem dlaw_973 : decode code 973 = .ok (.aload_n 3, 1) := by decide +kernel
theorem dlaw_974 : decode code 974 = .ok (.iconst 0, 1) := by decide +kernel
theorem dlaw_975 : decode code 975 = .ok (.laload, 1) := by decide +kernel
theorem dlaw_976 : decode code 976 = .ok (.iload 7, 2) := by decide +kernel
theorem dlaw_978 : decode code 978 = .ok (.i2l, 1) := by decide +kernel
theorem dlaw_979 : decode code 979 = .ok (.lcmp, 1) := by decide +kernel
theorem dlaw_980 : decode code 980 = .ok (.ifCond .eq 5, 3) := by decide +kernel
theorem dlaw_983 : decode code 983 = .ok (.iconst 0, 1) := by decide +kernel
theorem dlaw_984 : decode code 984 = .ok (.ireturn, 1) := by decide +kernel
theorem dlaw_985 : decode code 985 = .ok (.goto 204, 3) := by decide +kernel
theorem dlaw_988 : decode code 988 = .ok (.aload_n 1, 1) := by decide +kernel
theorem dlaw_989 : decode code 989 = .ok (.aload_n 0, 1) := by decide +kernel
theorem dlaw_990 : decode code 990 = .ok (.iload 5, 2) := by decide +kernel
theorem dlaw_992 : decode code 992 = .ok (.iconst 1, 1) := by decide +kernel
theorem dlaw_993 : decode code 993 = .ok (.iadd, 1) := by decide +kernel
theorem dlaw_994 : decode code 994 = .ok (.iaload, 1) := by decide +kernel
theorem dlaw_995 : decode code 995 = .ok (.aload_n 0, 1) := by decide +kernel
theorem dlaw_996 : decode code 996 = .ok (.iload 5, 2) := by decide +kernel
theorem dlaw_998 : decode code 998 = .ok (.iconst 2, 1) := by decide +kernel
theorem dlaw_999 : decode code 999 = .ok (.iadd, 1) := by decide +kernel
theorem dlaw_1000 : decode code 1000 = .ok (.iaload, 1) := by decide +kernel
theorem dlaw_1001 : decode code 1001 = .ok (.aload_n 3, 1) := by decide +kernel
theorem dlaw_1002 : decode code 1002 = .ok (.invokestatic 130, 3) := by decide +kernel
theorem dlaw_1005 : decode code 1005 = .ok (.istore 6, 2) := by decide +kernel
theorem dlaw_1007 : decode code 1007 = .ok (.aload_n 2, 1) := by decide +kernel
theorem dlaw_1008 : decode code 1008 = .ok (.aload_n 0, 1) := by decide +kernel
theorem dlaw_1009 : decode code 1009 = .ok (.iload 5, 2) := by decide +kernel
theorem dlaw_1011 : decode code 1011 = .ok (.iconst 1, 1) := by decide +kernel
theorem dlaw_1012 : decode code 1012 = .ok (.iadd, 1) := by decide +kernel
theorem dlaw_1013 : decode code 1013 = .ok (.iaload, 1) := by decide +kernel
theorem dlaw_1014 : decode code 1014 = .ok (.aload_n 0, 1) := by decide +kernel
theorem dlaw_1015 : decode code 1015 = .ok (.iload 5, 2) := by decide +kernel
theorem dlaw_1017 : decode code 1017 = .ok (.iconst 2, 1) := by decide +kernel
theorem dlaw_1018 : decode code 1018 = .ok (.iadd, 1) := by decide +kernel
theorem dlaw_1019 : decode code 1019 = .ok (.iaload, 1) := by decide +kernel
theorem dlaw_1020 : decode code 1020 = .ok (.invokevirtual 133, 3) := by decide +kernel
theorem dlaw_1023 : decode code 1023 = .ok (.istore 7, 2) := by decide +kernel
theorem dlaw_1025 : decode code 1025 = .ok (.aload_n 2, 1) := by decide +kernel
theorem dlaw_1026 : decode code 1026 = .ok (.invokevirtual 80, 3) := by decide +kernel
theorem dlaw_1029 : decode code 1029 = .ok (.iload 6, 2) := by decide +kernel
theorem dlaw_1031 : decode code 1031 = .ok (.if_icmp .eq 5, 3) := by decide +kernel
theorem dlaw_1034 : decode code 1034 = .ok (.iconst 0, 1) := by decide +kernel
theorem dlaw_1035 : decode code 1035 = .ok (.ireturn, 1) := by decide +kernel
theorem dlaw_1036 : decode code 1036 = .ok (.iload 6, 2) := by decide +kernel
theorem dlaw_1038 : decode code 1038 = .ok (.ifCond .ne 15, 3) := by decide +kernel
theorem dlaw_1041 : decode code 1041 = .ok (.aload_n 3, 1) := by decide +kernel
theorem dlaw_1042 : decode code 1042 = .ok (.iconst 0, 1) := by decide +kernel
theorem dlaw_1043 : decode code 1043 = .ok (.laload, 1) := by decide +kernel
theorem dlaw_1044 : decode code 1044 = .ok (.iload 7, 2) := by decide +kernel
theorem dlaw_1046 : decode code 1046 = .ok (.i2l, 1) := by decide +kernel
theorem dlaw_1047 : decode code 1047 = .ok (.lcmp, 1) := by decide +kernel
theorem dlaw_1048 : decode code 1048 = .ok (.ifCond .eq 5, 3) := by decide +kernel
theorem dlaw_1051 : decode code 1051 = .ok (.iconst 0, 1) := by decide +kernel
theorem dlaw_1052 : decode code 1052 = .ok (.ireturn, 1) := by decide +kernel
theorem dlaw_1053 : decode code 1053 = .ok (.goto 136, 3) := by decide +kernel
theorem dlaw_1056 : decode code 1056 = .ok (.aload_n 1, 1) := by decide +kernel
theorem dlaw_1057 : decode code 1057 = .ok (.aload_n 0, 1) := by decide +kernel
theorem dlaw_1058 : decode code 1058 = .ok (.iload 5, 2) := by decide +kernel
theorem dlaw_1060 : decode code 1060 = .ok (.iconst 1, 1) := by decide +kernel
theorem dlaw_1061 : decode code 1061 = .ok (.iadd, 1) := by decide +kernel
theorem dlaw_1062 : decode code 1062 = .ok (.iaload, 1) := by decide +kernel
theorem dlaw_1063 : decode code 1063 = .ok (.aload 4, 2) := by decide +kernel
theorem dlaw_1065 : decode code 1065 = .ok (.invokestatic 134, 3) := by decide +kernel
theorem dlaw_1068 : decode code 1068 = .ok (.istore 6, 2) := by decide +kernel
theorem dlaw_1070 : decode code 1070 = .ok (.aload_n 2, 1) := by decide +kernel
theorem dlaw_1071 : decode code 1071 = .ok (.aload_n 0, 1) := by decide +kernel
theorem dlaw_1072 : decode code 1072 = .ok (.iload 5, 2) := by decide +kernel
theorem dlaw_1074 : decode code 1074 = .ok (.iconst 1, 1) := by decide +kernel
theorem dlaw_1075 : decode code 1075 = .ok (.iadd, 1) := by decide +kernel
theorem dlaw_1076 : decode code 1076 = .ok (.iaload, 1) := by decide +kernel
theorem dlaw_1077 : decode code 1077 = .ok (.invokevirtual 136, 3) := by decide +kernel
theorem dlaw_1080 : decode code 1080 = .ok (.dstore 7, 2) := by decide +kernel
theorem dlaw_1082 : decode code 1082 = .ok (.aload_n 2, 1) := by decide +kernel
theorem dlaw_1083 : decode code 1083 = .ok (.invokevirtual 80, 3) := by decide +kernel
theorem dlaw_1086 : decode code 1086 = .ok (.iload 6, 2) := by decide +kernel
theorem dlaw_1088 : decode code 1088 = .ok (.if_icmp .eq 5, 3) := by decide +kernel
theorem dlaw_1091 : decode code 1091 = .ok (.iconst 0, 1) := by decide +kernel
theorem dlaw_1092 : decode code 1092 = .ok (.ireturn, 1) := by decide +kernel
theorem dlaw_1093 : decode code 1093 = .ok (.iload 6, 2) := by decide +kernel
theorem dlaw_1095 : decode code 1095 = .ok (.ifCond .ne 35, 3) := by decide +kernel
theorem dlaw_1098 : decode code 1098 = .ok (.aload 4, 2) := by decide +kernel
theorem dlaw_1100 : decode code 1100 = .ok (.iconst 0, 1) := by decide +kernel
theorem dlaw_1101 : decode code 1101 = .ok (.daload, 1) := by decide +kernel
theorem dlaw_1102 : decode code 1102 = .ok (.dload 7, 2) := by decide +kernel
theorem dlaw_1104 : decode code 1104 = .ok (.dcmp .l, 1) := by decide +kernel
theorem dlaw_1105 : decode code 1105 = .ok (.ifCond .eq 25, 3) := by decide +kernel
theorem dlaw_1108 : decode code 1108 = .ok (.aload 4, 2) := by decide +kernel
theorem dlaw_1110 : decode code 1110 = .ok (.iconst 0, 1) := by decide +kernel
theorem dlaw_1111 : decode code 1111 = .ok (.daload, 1) := by decide +kernel
theorem dlaw_1112 : decode code 1112 = .ok (.aload 4, 2) := by decide +kernel
theorem dlaw_1114 : decode code 1114 = .ok (.iconst 0, 1) := by decide +kernel
theorem dlaw_1115 : decode code 1115 = .ok (.daload, 1) := by decide +kernel
theorem dlaw_1116 : decode code 1116 = .ok (.dcmp .l, 1) := by decide +kernel
theorem dlaw_1117 : decode code 1117 = .ok (.ifCond .eq 11, 3) := by decide +kernel
theorem dlaw_1120 : decode code 1120 = .ok (.dload 7, 2) := by decide +kernel
theorem dlaw_1122 : decode code 1122 = .ok (.dload 7, 2) := by decide +kernel
theorem dlaw_1124 : decode code 1124 = .ok (.dcmp .l, 1) := by decide +kernel
theorem dlaw_1125 : decode code 1125 = .ok (.ifCond .ne 5, 3) := by decide +kernel
theorem dlaw_1128 : decode code 1128 = .ok (.iconst 0, 1) := by decide +kernel
theorem dlaw_1129 : decode code 1129 = .ok (.ireturn, 1) := by decide +kernel
theorem dlaw_1130 : decode code 1130 = .ok (.goto 59, 3) := by decide +kernel
theorem dlaw_1133 : decode code 1133 = .ok (.aload_n 1, 1) := by decide +kernel
theorem dlaw_1134 : decode code 1134 = .ok (.aload_n 0, 1) := by decide +kernel
theorem dlaw_1135 : decode code 1135 = .ok (.iload 5, 2) := by decide +kernel
theorem dlaw_1137 : decode code 1137 = .ok (.iconst 1, 1) := by decide +kernel
theorem dlaw_1138 : decode code 1138 = .ok (.iadd, 1) := by decide +kernel
theorem dlaw_1139 : decode code 1139 = .ok (.iaload, 1) := by decide +kernel
theorem dlaw_1140 : decode code 1140 = .ok (.aload_n 3, 1) := by decide +kernel
theorem dlaw_1141 : decode code 1141 = .ok (.invokestatic 137, 3) := by decide +kernel
theorem dlaw_1144 : decode code 1144 = .ok (.istore 6, 2) := by decide +kernel
theorem dlaw_1146 : decode code 1146 = .ok (.aload_n 2, 1) := by decide +kernel
theorem dlaw_1147 : decode code 1147 = .ok (.aload_n 0, 1) := by decide +kernel
theorem dlaw_1148 : decode code 1148 = .ok (.iload 5, 2) := by decide +kernel
theorem dlaw_1150 : decode code 1150 = .ok (.iconst 1, 1) := by decide +kernel
theorem dlaw_1151 : decode code 1151 = .ok (.iadd, 1) := by decide +kernel
theorem dlaw_1152 : decode code 1152 = .ok (.iaload, 1) := by decide +kernel
theorem dlaw_1153 : decode code 1153 = .ok (.invokevirtual 139, 3) := by decide +kernel
theorem dlaw_1156 : decode code 1156 = .ok (.istore 7, 2) := by decide +kernel
theorem dlaw_1158 : decode code 1158 = .ok (.aload_n 2, 1) := by decide +kernel
theorem dlaw_1159 : decode code 1159 = .ok (.invokevirtual 80, 3) := by decide +kernel
theorem dlaw_1162 : decode code 1162 = .ok (.iload 6, 2) := by decide +kernel
theorem dlaw_1164 : decode code 1164 = .ok (.if_icmp .eq 5, 3) := by decide +kernel
theorem dlaw_1167 : decode code 1167 = .ok (.iconst 0, 1) := by decide +kernel
theorem dlaw_1168 : decode code 1168 = .ok (.ireturn, 1) := by decide +kernel
theorem dlaw_1169 : decode code 1169 = .ok (.iload 6, 2) := by decide +kernel
theorem dlaw_1171 : decode code 1171 = .ok (.ifCond .ne 15, 3) := by decide +kernel
theorem dlaw_1174 : decode code 1174 = .ok (.aload_n 3, 1) := by decide +kernel
theorem dlaw_1175 : decode code 1175 = .ok (.iconst 0, 1) := by decide +kernel
theorem dlaw_1176 : decode code 1176 = .ok (.laload, 1) := by decide +kernel
theorem dlaw_1177 : decode code 1177 = .ok (.iload 7, 2) := by decide +kernel
theorem dlaw_1179 : decode code 1179 = .ok (.i2l, 1) := by decide +kernel
theorem dlaw_1180 : decode code 1180 = .ok (.lcmp, 1) := by decide +kernel
theorem dlaw_1181 : decode code 1181 = .ok (.ifCond .eq 5, 3) := by decide +kernel
theorem dlaw_1184 : decode code 1184 = .ok (.iconst 0, 1) := by decide +kernel
theorem dlaw_1185 : decode code 1185 = .ok (.ireturn, 1) := by decide +kernel
theorem dlaw_1186 : decode code 1186 = .ok (.goto 3, 3) := by decide +kernel
theorem dlaw_1189 : decode code 1189 = .ok (.iinc 5 4, 3) := by decide +kernel
theorem dlaw_1192 : decode code 1192 = .ok (.goto (-1164), 3) := by decide +kernel
theorem dlaw_1195 : decode code 1195 = .ok (.iconst 1, 1) := by decide +kernel
theorem dlaw_1196 : decode code 1196 = .ok (.ireturn, 1) := by decide +kernel
