def xi_0_33 : XIs := [(891, .aload_n 2, 1), (892, .aload_n 0, 1), (893, .iload 4, 2), (895, .iconst 1, 1), (896, .iadd, 1), (897, .iaload, 1), (898, .aload_n 0, 1), (899, .iload 4, 2), (901, .iconst 2, 1), (902, .iadd, 1)]
set_option maxRecDepth 100000 in
theorem xi_ok0_33 : xi_ok code xi_0_33 = true := by decide +kernel
def xi_0_34 : XIs := [(903, .iaload, 1), (904, .invokevirtual 215, 3), (907, .istore 6, 2), (909, .goto 947, 3), (912, .aload_n 1, 1), (913, .aload_n 0, 1), (914, .iload 4, 2), (916, .iconst 1, 1), (917, .iadd, 1), (918, .iaload, 1)]
set_option maxRecDepth 100000 in
theorem xi_ok0_34 : xi_ok code xi_0_34 = true := by decide +kernel
def xi_0_35 : XIs := [(919, .aload_n 0, 1), (920, .iload 4, 2), (922, .iconst 2, 1), (923, .iadd, 1), (924, .iaload, 1), (925, .aload_n 3, 1), (926, .invokestatic 216, 3), (929, .istore 5, 2), (931, .aload_n 2, 1), (932, .aload_n 0, 1)]
set_option maxRecDepth 100000 in
theorem xi_ok0_35 : xi_ok code xi_0_35 = true := by decide +kernel
def xi_0_36 : XIs := [(933, .iload 4, 2), (935, .iconst 1, 1), (936, .iadd, 1), (937, .iaload, 1), (938, .aload_n 0, 1), (939, .iload 4, 2), (941, .iconst 2, 1), (942, .iadd, 1), (943, .iaload, 1), (944, .invokevirtual 218, 3)]
set_option maxRecDepth 100000 in
theorem xi_ok0_36 : xi_ok code xi_0_36 = true := by decide +kernel
def xi_0_37 : XIs := [(947, .istore 6, 2), (949, .goto 907, 3), (952, .aload_n 1, 1), (953, .aload_n 0, 1), (954, .iload 4, 2), (956, .iconst 1, 1), (957, .iadd, 1), (958, .iaload, 1), (959, .aload_n 0, 1), (960, .iload 4, 2)]
set_option maxRecDepth 100000 in
theorem xi_ok0_37 : xi_ok code xi_0_37 = true := by decide +kernel
def xi_0_38 : XIs := [(962, .iconst 2, 1), (963, .iadd, 1), (964, .iaload, 1), (965, .aload_n 0, 1), (966, .iload 4, 2), (968, .iconst 3, 1), (969, .iadd, 1), (970, .iaload, 1), (971, .aload_n 0, 1), (972, .iload 4, 2)]
set_option maxRecDepth 100000 in
theorem xi_ok0_38 : xi_ok code xi_0_38 = true := by decide +kernel
def xi_0_39 : XIs := [(974, .iconst 4, 1), (975, .iadd, 1), (976, .iaload, 1), (977, .aload_n 3, 1), (978, .invokestatic 219, 3), (981, .istore 5, 2), (983, .aload_n 2, 1), (984, .aload_n 0, 1), (985, .iload 4, 2), (987, .iconst 1, 1)]
set_option maxRecDepth 100000 in
theorem xi_ok0_39 : xi_ok code xi_0_39 = true := by decide +kernel
def xi_0_40 : XIs := [(988, .iadd, 1), (989, .iaload, 1), (990, .aload_n 0, 1), (991, .iload 4, 2), (993, .iconst 2, 1), (994, .iadd, 1), (995, .iaload, 1), (996, .aload_n 0, 1), (997, .iload 4, 2)]
set_option maxRecDepth 100000 in
theorem xi_ok0_40 : xi_ok code xi_0_40 = true := by decide +kernel
def xi_0_41 : XIs := [(999, .iconst 3, 1), (1000, .iadd, 1), (1001, .iaload, 1), (1002, .aload_n 0, 1), (1003, .iload 4, 2), (1005, .iconst 4, 1), (1006, .iadd, 1), (1007, .iaload, 1), (1008, .invokevirtual 222, 3)]
set_option maxRecDepth 100000 in
theorem xi_ok0_41 : xi_ok code xi_0_41 = true := by decide +kernel
def xi_0_42 : XIs := [(1011, .istore 6, 2), (1013, .goto 843, 3), (1016, .aload_n 1, 1), (1017, .aload_n 0, 1), (1018, .iload 4, 2), (1020, .iconst 1, 1), (1021, .iadd, 1), (1022, .iaload, 1), (1023, .aload_n 0, 1)]
set_option maxRecDepth 100000 in
theorem xi_ok0_42 : xi_ok code xi_0_42 = true := by decide +kernel
def xi_0_43 : XIs := [(1024, .iload 4, 2), (1026, .iconst 2, 1), (1027, .iadd, 1), (1028, .iaload, 1), (1029, .aload_n 3, 1), (1030, .invokestatic 223, 3), (1033, .istore 5, 2), (1035, .aload_n 2, 1), (1036, .aload_n 0, 1)]
set_option maxRecDepth 100000 in
theorem xi_ok0_43 : xi_ok code xi_0_43 = true := by decide +kernel
def xi_0_44 : XIs := [(1037, .iload 4, 2), (1039, .iconst 1, 1), (1040, .iadd, 1), (1041, .iaload, 1), (1042, .aload_n 0, 1), (1043, .iload 4, 2), (1045, .iconst 2, 1), (1046, .iadd, 1), (1047, .iaload, 1)]
set_option maxRecDepth 100000 in
theorem xi_ok0_44 : xi_ok code xi_0_44 = true := by decide +kernel
def xi_0_45 : XIs := [(1048, .invokevirtual 225, 3), (1051, .istore 6, 2), (1053, .goto 803, 3), (1056, .aload_n 1, 1), (1057, .aload_n 0, 1), (1058, .iload 4, 2), (1060, .iconst 1, 1), (1061, .iadd, 1), (1062, .iaload, 1)]
set_option maxRecDepth 100000 in
theorem xi_ok0_45 : xi_ok code xi_0_45 = true := by decide +kernel
def xi_0_46 : XIs := [(1063, .aload_n 3, 1), (1064, .invokestatic 226, 3), (1067, .istore 5, 2), (1069, .aload_n 2, 1), (1070, .aload_n 0, 1), (1071, .iload 4, 2), (1073, .iconst 1, 1), (1074, .iadd, 1), (1075, .iaload, 1)]
set_option maxRecDepth 100000 in
theorem xi_ok0_46 : xi_ok code xi_0_46 = true := by decide +kernel
def xi_0_47 : XIs := [(1076, .invokevirtual 228, 3), (1079, .istore 6, 2), (1081, .goto 775, 3), (1084, .aload_n 1, 1), (1085, .aload_n 0, 1), (1086, .iload 4, 2), (1088, .iconst 1, 1), (1089, .iadd, 1), (1090, .iaload, 1)]
set_option maxRecDepth 100000 in
theorem xi_ok0_47 : xi_ok code xi_0_47 = true := by decide +kernel
def xi_0_48 : XIs := [(1091, .aload_n 3, 1), (1092, .invokestatic 229, 3), (1095, .istore 5, 2), (1097, .aload_n 2, 1), (1098, .aload_n 0, 1), (1099, .iload 4, 2), (1101, .iconst 1, 1), (1102, .iadd, 1), (1103, .iaload, 1)]
set_option maxRecDepth 100000 in
theorem xi_ok0_48 : xi_ok code xi_0_48 = true := by decide +kernel
def xi_0_49 : XIs := [(1104, .invokevirtual 231, 3), (1107, .istore 6, 2), (1109, .goto 747, 3), (1112, .aload_n 1, 1), (1113, .aload_n 0, 1), (1114, .iload 4, 2), (1116, .iconst 1, 1), (1117, .iadd, 1)]
set_option maxRecDepth 100000 in
theorem xi_ok0_49 : xi_ok code xi_0_49 = true := by decide +kernel
def xi_0_50 : XIs := [(1118, .iaload, 1), (1119, .aload_n 3, 1), (1120, .invokestatic 232, 3), (1123, .istore 5, 2), (1125, .aload_n 2, 1), (1126, .aload_n 0, 1), (1127, .iload 4, 2), (1129, .iconst 1, 1)]
set_option maxRecDepth 100000 in
theorem xi_ok0_50 : xi_ok code xi_0_50 = true := by decide +kernel
def xi_0_51 : XIs := [(1130, .iadd, 1), (1131, .iaload, 1), (1132, .invokevirtual 234, 3), (1135, .istore 6, 2), (1137, .goto 719, 3), (1140, .aload_n 1, 1), (1141, .aload_n 0, 1), (1142, .iload 4, 2)]
set_option maxRecDepth 100000 in
theorem xi_ok0_51 : xi_ok code xi_0_51 = true := by decide +kernel
def xi_0_52 : XIs := [(1144, .iconst 1, 1), (1145, .iadd, 1), (1146, .iaload, 1), (1147, .aload_n 3, 1), (1148, .invokestatic 235, 3), (1151, .istore 5, 2), (1153, .aload_n 2, 1), (1154, .aload_n 0, 1)]
set_option maxRecDepth 100000 in
theorem xi_ok0_52 : xi_ok code xi_0_52 = true := by decide +kernel
def xi_0_53 : XIs := [(1155, .iload 4, 2), (1157, .iconst 1, 1), (1158, .iadd, 1), (1159, .iaload, 1), (1160, .invokevirtual 237, 3), (1163, .istore 6, 2), (1165, .goto 691, 3), (1168, .aload_n 1, 1)]
set_option maxRecDepth 100000 in
theorem xi_ok0_53 : xi_ok code xi_0_53 = true := by decide +kernel
def xi_0_54 : XIs := [(1169, .aload_n 0, 1), (1170, .iload 4, 2), (1172, .iconst 1, 1), (1173, .iadd, 1), (1174, .iaload, 1), (1175, .aload_n 3, 1), (1176, .invokestatic 238, 3), (1179, .istore 5, 2)]
set_option maxRecDepth 100000 in
theorem xi_ok0_54 : xi_ok code xi_0_54 = true := by decide +kernel
def xi_0_55 : XIs := [(1181, .aload_n 2, 1), (1182, .aload_n 0, 1), (1183, .iload 4, 2), (1185, .iconst 1, 1), (1186, .iadd, 1), (1187, .iaload, 1), (1188, .invokevirtual 240, 3), (1191, .istore 6, 2)]
set_option maxRecDepth 100000 in
theorem xi_ok0_55 : xi_ok code xi_0_55 = true := by decide +kernel
def xi_0_56 : XIs := [(1193, .goto 663, 3), (1196, .aload_n 1, 1), (1197, .aload_n 0, 1), (1198, .iload 4, 2), (1200, .iconst 1, 1), (1201, .iadd, 1), (1202, .iaload, 1), (1203, .aload_n 3, 1)]
set_option maxRecDepth 100000 in
theorem xi_ok0_56 : xi_ok code xi_0_56 = true := by decide +kernel
def xi_0_57 : XIs := [(1204, .invokestatic 241, 3), (1207, .istore 5, 2), (1209, .aload_n 2, 1), (1210, .aload_n 0, 1), (1211, .iload 4, 2), (1213, .iconst 1, 1), (1214, .iadd, 1), (1215, .iaload, 1)]
set_option maxRecDepth 100000 in
theorem xi_ok0_57 : xi_ok code xi_0_57 = true := by decide +kernel
def xi_0_58 : XIs := [(1216, .invokevirtual 243, 3), (1219, .istore 6, 2), (1221, .goto 635, 3), (1224, .aload_n 1, 1), (1225, .aload_n 0, 1), (1226, .iload 4, 2), (1228, .iconst 1, 1), (1229, .iadd, 1)]
set_option maxRecDepth 100000 in
theorem xi_ok0_58 : xi_ok code xi_0_58 = true := by decide +kernel
def xi_0_59 : XIs := [(1230, .iaload, 1), (1231, .aload_n 0, 1), (1232, .iload 4, 2), (1234, .iconst 2, 1), (1235, .iadd, 1), (1236, .iaload, 1), (1237, .aload_n 3, 1), (1238, .invokestatic 244, 3)]
set_option maxRecDepth 100000 in
theorem xi_ok0_59 : xi_ok code xi_0_59 = true := by decide +kernel
