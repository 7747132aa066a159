theorem dL_law_904 : decode cL_law 904 = .ok (.invokevirtual 107, 3) := by sorry
theorem dL_law_907 : decode cL_law 907 = .ok (.pop, 1) := by sorry
theorem dL_law_908 : decode cL_law 908 = .ok (.aload_n 2, 1) := by sorry
theorem dL_law_909 : decode cL_law 909 = .ok (.aload_n 0, 1) := by sorry
theorem dL_law_910 : decode cL_law 910 = .ok (.iload_n 3, 1) := by sorry
theorem dL_law_911 : decode cL_law 911 = .ok (.iconst 1, 1) := by sorry
theorem dL_law_912 : decode cL_law 912 = .ok (.iadd, 1) := by sorry
theorem dL_law_913 : decode cL_law 913 = .ok (.iaload, 1) := by sorry
theorem dL_law_914 : decode cL_law 914 = .ok (.invokevirtual 110, 3) := by sorry
theorem dL_law_917 : decode cL_law 917 = .ok (.pop, 1) := by sorry
theorem dL_law_918 : decode cL_law 918 = .ok (.goto 191, 3) := by sorry
theorem dL_law_921 : decode cL_law 921 = .ok (.aload_n 1, 1) := by sorry
theorem dL_law_922 : decode cL_law 922 = .ok (.invokevirtual 111, 3) := by sorry
theorem dL_law_925 : decode cL_law 925 = .ok (.pop, 1) := by sorry
theorem dL_law_926 : decode cL_law 926 = .ok (.aload_n 2, 1) := by sorry
theorem dL_law_927 : decode cL_law 927 = .ok (.invokevirtual 114, 3) := by sorry
theorem dL_law_930 : decode cL_law 930 = .ok (.pop, 1) := by sorry
theorem dL_law_931 : decode cL_law 931 = .ok (.goto 178, 3) := by sorry
theorem dL_law_934 : decode cL_law 934 = .ok (.aload_n 1, 1) := by sorry
theorem dL_law_935 : decode cL_law 935 = .ok (.aload_n 0, 1) := by sorry
theorem dL_law_936 : decode cL_law 936 = .ok (.iload_n 3, 1) := by sorry
theorem dL_law_937 : decode cL_law 937 = .ok (.iconst 1, 1) := by sorry
theorem dL_law_938 : decode cL_law 938 = .ok (.iadd, 1) := by sorry
theorem dL_law_939 : decode cL_law 939 = .ok (.iaload, 1) := by sorry
theorem dL_law_940 : decode cL_law 940 = .ok (.invokevirtual 115, 3) := by sorry
theorem dL_law_943 : decode cL_law 943 = .ok (.pop, 1) := by sorry
theorem dL_law_944 : decode cL_law 944 = .ok (.aload_n 2, 1) := by sorry
theorem dL_law_945 : decode cL_law 945 = .ok (.aload_n 0, 1) := by sorry
theorem dL_law_946 : decode cL_law 946 = .ok (.iload_n 3, 1) := by sorry
theorem dL_law_947 : decode cL_law 947 = .ok (.iconst 1, 1) := by sorry
theorem dL_law_948 : decode cL_law 948 = .ok (.iadd, 1) := by sorry
theorem dL_law_949 : decode cL_law 949 = .ok (.iaload, 1) := by sorry
theorem dL_law_950 : decode cL_law 950 = .ok (.invokevirtual 118, 3) := by sorry
theorem dL_law_953 : decode cL_law 953 = .ok (.pop, 1) := by sorry
theorem dL_law_954 : decode cL_law 954 = .ok (.goto 155, 3) := by sorry
theorem dL_law_957 : decode cL_law 957 = .ok (.aload_n 1, 1) := by sorry
theorem dL_law_958 : decode cL_law 958 = .ok (.aload_n 0, 1) := by sorry
theorem dL_law_959 : decode cL_law 959 = .ok (.iload_n 3, 1) := by sorry
theorem dL_law_960 : decode cL_law 960 = .ok (.iconst 1, 1) := by sorry
theorem dL_law_961 : decode cL_law 961 = .ok (.iadd, 1) := by sorry
theorem dL_law_962 : decode cL_law 962 = .ok (.iaload, 1) := by sorry
theorem dL_law_963 : decode cL_law 963 = .ok (.invokevirtual 119, 3) := by sorry
theorem dL_law_966 : decode cL_law 966 = .ok (.pop, 1) := by sorry
theorem dL_law_967 : decode cL_law 967 = .ok (.aload_n 2, 1) := by sorry
theorem dL_law_968 : decode cL_law 968 = .ok (.aload_n 0, 1) := by sorry
theorem dL_law_969 : decode cL_law 969 = .ok (.iload_n 3, 1) := by sorry
theorem dL_law_970 : decode cL_law 970 = .ok (.iconst 1, 1) := by sorry
theorem dL_law_971 : decode cL_law 971 = .ok (.iadd, 1) := by sorry
theorem dL_law_972 : decode cL_law 972 = .ok (.iaload, 1) := by sorry
theorem dL_law_973 : decode cL_law 973 = .ok (.invokevirtual 122, 3) := by sorry
theorem dL_law_976 : decode cL_law 976 = .ok (.pop, 1) := by sorry
theorem dL_law_977 : decode cL_law 977 = .ok (.goto 132, 3) := by sorry
theorem dL_law_980 : decode cL_law 980 = .ok (.aload_n 1, 1) := by sorry
theorem dL_law_981 : decode cL_law 981 = .ok (.invokevirtual 123, 3) := by sorry
theorem dL_law_984 : decode cL_law 984 = .ok (.pop, 1) := by sorry
theorem dL_law_985 : decode cL_law 985 = .ok (.aload_n 2, 1) := by sorry
theorem dL_law_986 : decode cL_law 986 = .ok (.invokevirtual 126, 3) := by sorry
theorem dL_law_989 : decode cL_law 989 = .ok (.pop, 1) := by sorry
theorem dL_law_990 : decode cL_law 990 = .ok (.goto 119, 3) := by sorry
theorem dL_law_993 : decode cL_law 993 = .ok (.aload_n 1, 1) := by sorry
theorem dL_law_994 : decode cL_law 994 = .ok (.invokevirtual 127, 3) := by sorry
theorem dL_law_997 : decode cL_law 997 = .ok (.pop, 1) := by sorry
theorem dL_law_998 : decode cL_law 998 = .ok (.aload_n 2, 1) := by sorry
theorem dL_law_999 : decode cL_law 999 = .ok (.invokevirtual 130, 3) := by sorry
theorem dL_law_1002 : decode cL_law 1002 = .ok (.pop, 1) := by sorry
theorem dL_law_1003 : decode cL_law 1003 = .ok (.goto 106, 3) := by sorry
theorem dL_law_1006 : decode cL_law 1006 = .ok (.aload_n 1, 1) := by sorry
theorem dL_law_1007 : decode cL_law 1007 = .ok (.aload_n 0, 1) := by sorry
theorem dL_law_1008 : decode cL_law 1008 = .ok (.iload_n 3, 1) := by sorry
theorem dL_law_1009 : decode cL_law 1009 = .ok (.iconst 1, 1) := by sorry
theorem dL_law_1010 : decode cL_law 1010 = .ok (.iadd, 1) := by sorry
theorem dL_law_1011 : decode cL_law 1011 = .ok (.iaload, 1) := by sorry
theorem dL_law_1012 : decode cL_law 1012 = .ok (.aload_n 0, 1) := by sorry
theorem dL_law_1013 : decode cL_law 1013 = .ok (.iload_n 3, 1) := by sorry
theorem dL_law_1014 : decode cL_law 1014 = .ok (.iconst 2, 1) := by sorry
theorem dL_law_1015 : decode cL_law 1015 = .ok (.iadd, 1) := by sorry
theorem dL_law_1016 : decode cL_law 1016 = .ok (.iaload, 1) := by sorry
theorem dL_law_1017 : decode cL_law 1017 = .ok (.invokevirtual 131, 3) := by sorry
theorem dL_law_1020 : decode cL_law 1020 = .ok (.pop, 1) := by sorry
theorem dL_law_1021 : decode cL_law 1021 = .ok (.aload_n 2, 1) := by sorry
theorem dL_law_1022 : decode cL_law 1022 = .ok (.aload_n 0, 1) := by sorry
theorem dL_law_1023 : decode cL_law 1023 = .ok (.iload_n 3, 1) := by sorry
theorem dL_law_1024 : decode cL_law 1024 = .ok (.iconst 1, 1) := by sorry
theorem dL_law_1025 : decode cL_law 1025 = .ok (.iadd, 1) := by sorry
theorem dL_law_1026 : decode cL_law 1026 = .ok (.iaload, 1) := by sorry
theorem dL_law_1027 : decode cL_law 1027 = .ok (.aload_n 0, 1) := by sorry
theorem dL_law_1028 : decode cL_law 1028 = .ok (.iload_n 3, 1) := by sorry
theorem dL_law_1029 : decode cL_law 1029 = .ok (.iconst 2, 1) := by sorry
theorem dL_law_1030 : decode cL_law 1030 = .ok (.iadd, 1) := by sorry
theorem dL_law_1031 : decode cL_law 1031 = .ok (.iaload, 1) := by sorry
theorem dL_law_1032 : decode cL_law 1032 = .ok (.invokevirtual 134, 3) := by sorry
theorem dL_law_1035 : decode cL_law 1035 = .ok (.pop, 1) := by sorry
theorem dL_law_1036 : decode cL_law 1036 = .ok (.goto 73, 3) := by sorry
theorem dL_law_1039 : decode cL_law 1039 = .ok (.aload_n 1, 1) := by sorry
theorem dL_law_1040 : decode cL_law 1040 = .ok (.aload_n 0, 1) := by sorry
theorem dL_law_1041 : decode cL_law 1041 = .ok (.iload_n 3, 1) := by sorry
theorem dL_law_1042 : decode cL_law 1042 = .ok (.iconst 1, 1) := by sorry
theorem dL_law_1043 : decode cL_law 1043 = .ok (.iadd, 1) := by sorry
theorem dL_law_1044 : decode cL_law 1044 = .ok (.iaload, 1) := by sorry
theorem dL_law_1045 : decode cL_law 1045 = .ok (.invokevirtual 135, 3) := by sorry
theorem dL_law_1048 : decode cL_law 1048 = .ok (.pop, 1) := by sorry
theorem dL_law_1049 : decode cL_law 1049 = .ok (.aload_n 2, 1) := by sorry
theorem dL_law_1050 : decode cL_law 1050 = .ok (.aload_n 0, 1) := by sorry
theorem dL_law_1051 : decode cL_law 1051 = .ok (.iload_n 3, 1) := by sorry
theorem dL_law_1052 : decode cL_law 1052 = .ok (.iconst 1, 1) := by sorry
theorem dL_law_1053 : decode cL_law 1053 = .ok (.iadd, 1) := by sorry
theorem dL_law_1054 : decode cL_law 1054 = .ok (.iaload, 1) := by sorry
theorem dL_law_1055 : decode cL_law 1055 = .ok (.invokevirtual 138, 3) := by sorry
theorem dL_law_1058 : decode cL_law 1058 = .ok (.pop, 1) := by sorry
theorem dL_law_1059 : decode cL_law 1059 = .ok (.goto 50, 3) := by sorry
theorem dL_law_1062 : decode cL_law 1062 = .ok (.aload_n 1, 1) := by sorry
theorem dL_law_1063 : decode cL_law 1063 = .ok (.aload_n 0, 1) := by sorry
theorem dL_law_1064 : decode cL_law 1064 = .ok (.iload_n 3, 1) := by sorry
theorem dL_law_1065 : decode cL_law 1065 = .ok (.iconst 1, 1) := by sorry
theorem dL_law_1066 : decode cL_law 1066 = .ok (.iadd, 1) := by sorry
theorem dL_law_1067 : decode cL_law 1067 = .ok (.iaload, 1) := by sorry
theorem dL_law_1068 : decode cL_law 1068 = .ok (.invokevirtual 139, 3) := by sorry
theorem dL_law_1071 : decode cL_law 1071 = .ok (.pop, 1) := by sorry
theorem dL_law_1072 : decode cL_law 1072 = .ok (.aload_n 2, 1) := by sorry
theorem dL_law_1073 : decode cL_law 1073 = .ok (.aload_n 0, 1) := by sorry
theorem dL_law_1074 : decode cL_law 1074 = .ok (.iload_n 3, 1) := by sorry
theorem dL_law_1075 : decode cL_law 1075 = .ok (.iconst 1, 1) := by sorry
theorem dL_law_1076 : decode cL_law 1076 = .ok (.iadd, 1) := by sorry
theorem dL_law_1077 : decode cL_law 1077 = .ok (.iaload, 1) := by sorry
theorem dL_law_1078 : decode cL_law 1078 = .ok (.invokevirtual 142, 3) := by sorry
theorem dL_law_1081 : decode cL_law 1081 = .ok (.pop, 1) := by sorry
theorem dL_law_1082 : decode cL_law 1082 = .ok (.goto 27, 3) := by sorry
theorem dL_law_1085 : decode cL_law 1085 = .ok (.aload_n 1, 1) := by sorry
theorem dL_law_1086 : decode cL_law 1086 = .ok (.invokevirtual 143, 3) := by sorry
theorem dL_law_1089 : decode cL_law 1089 = .ok (.aload_n 2, 1) := by sorry
theorem dL_law_1090 : decode cL_law 1090 = .ok (.invokevirtual 146, 3) := by sorry
theorem dL_law_1093 : decode cL_law 1093 = .ok (.goto 16, 3) := by sorry
theorem dL_law_1096 : decode cL_law 1096 = .ok (.aload_n 1, 1) := by sorry
theorem dL_law_1097 : decode cL_law 1097 = .ok (.invokestatic 147, 3) := by sorry
theorem dL_law_1100 : decode cL_law 1100 = .ok (.istore 4, 2) := by sorry
theorem dL_law_1102 : decode cL_law 1102 = .ok (.aload_n 2, 1) := by sorry
theorem dL_law_1103 : decode cL_law 1103 = .ok (.invokevirtual 152, 3) := by sorry
theorem dL_law_1106 : decode cL_law 1106 = .ok (.goto 3, 3) := by sorry
theorem dL_law_1109 : decode cL_law 1109 = .ok (.iinc 3 7, 3) := by sorry
theorem dL_law_1112 : decode cL_law 1112 = .ok (.goto (-1094), 3) := by sorry
theorem dL_law_1115 : decode cL_law 1115 = .ok (.iconst 1, 1) := by sorry
theorem dL_law_1116 : decode cL_law 1116 = .ok (.ireturn, 1) := by sorry
set_option maxRecDepth 20000 in
theorem ggL_law_X10_init : GoodIn wsL_law wsX10_init := by sorry
set_option maxRecDepth 20000 in
theorem gL_law_X10_init : GoodIn wsL_law (wsX10_init) := ggL_law_X10_init
set_option maxRecDepth 20000 in
theorem ggL_law_X11_init : GoodIn wsL_law wsX11_init := by sorry
set_option maxRecDepth 20000 in
theorem gL_law_X11_init : GoodIn wsL_law (wsX11_init) := ggL_law_X11_init
set_option maxRecDepth 20000 in
theorem ggL_law_X10_way : GoodIn wsL_law wsX10_way := by sorry
set_option maxRecDepth 20000 in
theorem gL_law_X10_way : GoodIn wsL_law (wsV RL 18 RX10 yX10_way wsX10_way) := by sorry
set_option maxRecDepth 20000 in
theorem ggL_law_X11_way : GoodIn wsL_law wsX11_way := by sorry
set_option maxRecDepth 20000 in
theorem gL_law_X11_way : GoodIn wsL_law (wsV RL 22 RX11 yX11_way wsX11_way) := by sorry
set_option maxRecDepth 20000 in
theorem ggL_law_X10_mat : GoodIn wsL_law wsX10_mat := by sorry
set_option maxRecDepth 20000 in
theorem gL_law_X10_mat : GoodIn wsL_law (wsV RL 23 RX10 yX10_mat wsX10_mat) := by sorry
set_option maxRecDepth 20000 in
theorem ggL_law_X11_mat : GoodIn wsL_law wsX11_mat := by sorry
set_option maxRecDepth 20000 in
theorem gL_law_X11_mat : GoodIn wsL_law (wsV RL 27 RX11 yX11_mat wsX11_mat) := by sorry
set_option maxRecDepth 20000 in
theorem ggL_law_X10_runner : GoodIn wsL_law wsX10_runner := by sorry
set_option maxRecDepth 20000 in
theorem gL_law_X10_runner : GoodIn wsL_law (wsV RL 28 RX10 yX10_runner wsX10_runner) := by sorry
set_option maxRecDepth 20000 in
theorem ggL_law_X11_runner : GoodIn wsL_law wsX11_runner := by sorry
set_option maxRecDepth 20000 in
theorem gL_law_X11_runner : GoodIn wsL_law (wsV RL 32 RX11 yX11_runner wsX11_runner) := by sorry
set_option maxRecDepth 20000 in
theorem ggL_law_X10_gun : GoodIn wsL_law wsX10_gun := by sorry
set_option maxRecDepth 20000 in
theorem gL_law_X10_gun : GoodIn wsL_law (wsV RL 33 RX10 yX10_gun wsX10_gun) := by sorry
set_option maxRecDepth 20000 in
theorem ggL_law_X11_gun : GoodIn wsL_law wsX11_gun := by sorry
set_option maxRecDepth 20000 in
theorem gL_law_X11_gun : GoodIn wsL_law (wsV RL 37 RX11 yX11_gun wsX11_gun) := by sorry
set_option maxRecDepth 20000 in
theorem ggL_law_X10_saw : GoodIn wsL_law wsX10_saw := by sorry
set_option maxRecDepth 20000 in
theorem gL_law_X10_saw : GoodIn wsL_law (wsV RL 38 RX10 yX10_saw wsX10_saw) := by sorry
set_option maxRecDepth 20000 in
theorem ggL_law_X11_saw : GoodIn wsL_law wsX11_saw := by sorry
set_option maxRecDepth 20000 in
theorem gL_law_X11_saw : GoodIn wsL_law (wsV RL 42 RX11 yX11_saw wsX11_saw) := by sorry
set_option maxRecDepth 20000 in
theorem ggL_law_X10_dead : GoodIn wsL_law wsX10_dead := by sorry
set_option maxRecDepth 20000 in
theorem gL_law_X10_dead : GoodIn wsL_law (wsV RL 43 RX10 yX10_dead wsX10_dead) := by sorry
set_option maxRecDepth 20000 in
theorem ggL_law_X11_dead : GoodIn wsL_law wsX11_dead := by sorry
set_option maxRecDepth 20000 in
theorem gL_law_X11_dead : GoodIn wsL_law (wsV RL 47 RX11 yX11_dead wsX11_dead) := by sorry
set_option maxRecDepth 20000 in
theorem ggL_law_X10_tear : GoodIn wsL_law wsX10_tear := by sorry
set_option maxRecDepth 20000 in
theorem gL_law_X10_tear : GoodIn wsL_law (wsV RL 48 RX10 yX10_tear wsX10_tear) := by sorry
set_option maxRecDepth 20000 in
theorem ggL_law_X11_tear : GoodIn wsL_law wsX11_tear := by sorry
set_option maxRecDepth 20000 in
theorem gL_law_X11_tear : GoodIn wsL_law (wsV RL 51 RX11 yX11_tear wsX11_tear) := by sorry
set_option maxRecDepth 20000 in
theorem ggL_law_X10_drop : GoodIn wsL_law wsX10_drop := by sorry
set_option maxRecDepth 20000 in
theorem gL_law_X10_drop : GoodIn wsL_law (wsV RL 52 RX10 yX10_drop wsX10_drop) := by sorry
set_option maxRecDepth 20000 in
theorem ggL_law_X11_drop : GoodIn wsL_law wsX11_drop := by sorry
set_option maxRecDepth 20000 in
theorem gL_law_X11_drop : GoodIn wsL_law (wsV RL 55 RX11 yX11_drop wsX11_drop) := by sorry
set_option maxRecDepth 20000 in
theorem ggL_law_X10_cut : GoodIn wsL_law wsX10_cut := by sorry
set_option maxRecDepth 20000 in
theorem gL_law_X10_cut : GoodIn wsL_law (wsV RL 56 RX10 yX10_cut wsX10_cut) := by sorry
set_option maxRecDepth 20000 in
theorem ggL_law_X11_cut : GoodIn wsL_law wsX11_cut := by sorry
set_option maxRecDepth 20000 in
theorem gL_law_X11_cut : GoodIn wsL_law (wsV RL 59 RX11 yX11_cut wsX11_cut) := by sorry
set_option maxRecDepth 20000 in
theorem ggL_law_X10_wave : GoodIn wsL_law wsX10_wave := by sorry
set_option maxRecDepth 20000 in
theorem gL_law_X10_wave : GoodIn wsL_law (wsV RL 60 RX10 yX10_wave wsX10_wave) := by sorry
set_option maxRecDepth 20000 in
theorem ggL_law_X11_wave : GoodIn wsL_law wsX11_wave := by sorry
set_option maxRecDepth 20000 in
theorem gL_law_X11_wave : GoodIn wsL_law (wsV RL 63 RX11 yX11_wave wsX11_wave) := by sorry
set_option maxRecDepth 20000 in
theorem ggL_law_X10_strike : GoodIn wsL_law wsX10_strike := by sorry
set_option maxRecDepth 20000 in
theorem gL_law_X10_strike : GoodIn wsL_law (wsV RL 64 RX10 yX10_strike wsX10_strike) := by sorry
set_option maxRecDepth 20000 in
theorem ggL_law_X11_strike : GoodIn wsL_law wsX11_strike := by sorry
set_option maxRecDepth 20000 in
theorem gL_law_X11_strike : GoodIn wsL_law (wsV RL 67 RX11 yX11_strike wsX11_strike) := by sorry
set_option maxRecDepth 20000 in
theorem ggL_law_X10_pardon : GoodIn wsL_law wsX10_pardon := by sorry
set_option maxRecDepth 20000 in
theorem gL_law_X10_pardon : GoodIn wsL_law (wsV RL 68 RX10 yX10_pardon wsX10_pardon) := by sorry
set_option maxRecDepth 20000 in
theorem ggL_law_X11_pardon : GoodIn wsL_law wsX11_pardon := by sorry
set_option maxRecDepth 20000 in
theorem gL_law_X11_pardon : GoodIn wsL_law (wsV RL 72 RX11 yX11_pardon wsX11_pardon) := by sorry
set_option maxRecDepth 20000 in
theorem ggL_law_X10_told : GoodIn wsL_law wsX10_told := by sorry
set_option maxRecDepth 20000 in
theorem gL_law_X10_told : GoodIn wsL_law (wsV RL 73 RX10 yX10_told wsX10_told) := by sorry
set_option maxRecDepth 20000 in
theorem ggL_law_X11_told : GoodIn wsL_law wsX11_told := by sorry
set_option maxRecDepth 20000 in
theorem gL_law_X11_told : GoodIn wsL_law (wsV RL 76 RX11 yX11_told wsX11_told) := by sorry
set_option maxRecDepth 20000 in
theorem ggL_law_X10_split : GoodIn wsL_law wsX10_split := by sorry
set_option maxRecDepth 20000 in
theorem gL_law_X10_split : GoodIn wsL_law (wsV RL 77 RX10 yX10_split wsX10_split) := by sorry
