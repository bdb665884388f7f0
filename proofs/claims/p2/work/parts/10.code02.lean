def xi_0_32 : XIs := [(880, .aload_n 0, 1), (881, .iload 4, 2), (883, .iconst 2, 1), (884, .iadd, 1), (885, .iaload, 1), (886, .aload_n 0, 1), (887, .iload 4, 2), (889, .iconst 3, 1), (890, .iadd, 1), (891, .iaload, 1)]
set_option maxRecDepth 100000 in
theorem xi_ok0_32 : xi_ok code xi_0_32 = true := by decide +kernel
def xi_0_33 : XIs := [(892, .invokevirtual 215, 3), (895, .istore 6, 2), (897, .goto 987, 3), (900, .aload_n 1, 1), (901, .aload_n 0, 1), (902, .iload 4, 2), (904, .iconst 1, 1), (905, .iadd, 1), (906, .iaload, 1), (907, .aload_n 0, 1)]
set_option maxRecDepth 100000 in
theorem xi_ok0_33 : xi_ok code xi_0_33 = true := by decide +kernel
def xi_0_34 : XIs := [(908, .iload 4, 2), (910, .iconst 2, 1), (911, .iadd, 1), (912, .iaload, 1), (913, .aload_n 3, 1), (914, .invokestatic 216, 3), (917, .istore 5, 2), (919, .aload_n 2, 1), (920, .aload_n 0, 1), (921, .iload 4, 2)]
set_option maxRecDepth 100000 in
theorem xi_ok0_34 : xi_ok code xi_0_34 = true := by decide +kernel
def xi_0_35 : XIs := [(923, .iconst 1, 1), (924, .iadd, 1), (925, .iaload, 1), (926, .aload_n 0, 1), (927, .iload 4, 2), (929, .iconst 2, 1), (930, .iadd, 1), (931, .iaload, 1), (932, .invokevirtual 218, 3), (935, .istore 6, 2)]
set_option maxRecDepth 100000 in
theorem xi_ok0_35 : xi_ok code xi_0_35 = true := by decide +kernel
def xi_0_36 : XIs := [(937, .goto 947, 3), (940, .aload_n 1, 1), (941, .aload_n 0, 1), (942, .iload 4, 2), (944, .iconst 1, 1), (945, .iadd, 1), (946, .iaload, 1), (947, .aload_n 0, 1), (948, .iload 4, 2), (950, .iconst 2, 1)]
set_option maxRecDepth 100000 in
theorem xi_ok0_36 : xi_ok code xi_0_36 = true := by decide +kernel
def xi_0_37 : XIs := [(951, .iadd, 1), (952, .iaload, 1), (953, .aload_n 3, 1), (954, .invokestatic 219, 3), (957, .istore 5, 2), (959, .aload_n 2, 1), (960, .aload_n 0, 1), (961, .iload 4, 2), (963, .iconst 1, 1), (964, .iadd, 1)]
set_option maxRecDepth 100000 in
theorem xi_ok0_37 : xi_ok code xi_0_37 = true := by decide +kernel
def xi_0_38 : XIs := [(965, .iaload, 1), (966, .aload_n 0, 1), (967, .iload 4, 2), (969, .iconst 2, 1), (970, .iadd, 1), (971, .iaload, 1), (972, .invokevirtual 221, 3), (975, .istore 6, 2), (977, .goto 907, 3), (980, .aload_n 1, 1)]
set_option maxRecDepth 100000 in
theorem xi_ok0_38 : xi_ok code xi_0_38 = true := by decide +kernel
def xi_0_39 : XIs := [(981, .aload_n 0, 1), (982, .iload 4, 2), (984, .iconst 1, 1), (985, .iadd, 1), (986, .iaload, 1), (987, .aload_n 0, 1), (988, .iload 4, 2), (990, .iconst 2, 1), (991, .iadd, 1)]
set_option maxRecDepth 100000 in
theorem xi_ok0_39 : xi_ok code xi_0_39 = true := by decide +kernel
def xi_0_40 : XIs := [(992, .iaload, 1), (993, .aload_n 0, 1), (994, .iload 4, 2), (996, .iconst 3, 1), (997, .iadd, 1), (998, .iaload, 1), (999, .aload_n 0, 1), (1000, .iload 4, 2), (1002, .iconst 4, 1)]
set_option maxRecDepth 100000 in
theorem xi_ok0_40 : xi_ok code xi_0_40 = true := by decide +kernel
def xi_0_41 : XIs := [(1003, .iadd, 1), (1004, .iaload, 1), (1005, .aload_n 3, 1), (1006, .invokestatic 222, 3), (1009, .istore 5, 2), (1011, .aload_n 2, 1), (1012, .aload_n 0, 1), (1013, .iload 4, 2), (1015, .iconst 1, 1)]
set_option maxRecDepth 100000 in
theorem xi_ok0_41 : xi_ok code xi_0_41 = true := by decide +kernel
def xi_0_42 : XIs := [(1016, .iadd, 1), (1017, .iaload, 1), (1018, .aload_n 0, 1), (1019, .iload 4, 2), (1021, .iconst 2, 1), (1022, .iadd, 1), (1023, .iaload, 1), (1024, .aload_n 0, 1), (1025, .iload 4, 2)]
set_option maxRecDepth 100000 in
theorem xi_ok0_42 : xi_ok code xi_0_42 = true := by decide +kernel
def xi_0_43 : XIs := [(1027, .iconst 3, 1), (1028, .iadd, 1), (1029, .iaload, 1), (1030, .aload_n 0, 1), (1031, .iload 4, 2), (1033, .iconst 4, 1), (1034, .iadd, 1), (1035, .iaload, 1), (1036, .invokevirtual 225, 3)]
set_option maxRecDepth 100000 in
theorem xi_ok0_43 : xi_ok code xi_0_43 = true := by decide +kernel
def xi_0_44 : XIs := [(1039, .istore 6, 2), (1041, .goto 843, 3), (1044, .aload_n 1, 1), (1045, .aload_n 0, 1), (1046, .iload 4, 2), (1048, .iconst 1, 1), (1049, .iadd, 1), (1050, .iaload, 1), (1051, .aload_n 0, 1)]
set_option maxRecDepth 100000 in
theorem xi_ok0_44 : xi_ok code xi_0_44 = true := by decide +kernel
def xi_0_45 : XIs := [(1052, .iload 4, 2), (1054, .iconst 2, 1), (1055, .iadd, 1), (1056, .iaload, 1), (1057, .aload_n 3, 1), (1058, .invokestatic 226, 3), (1061, .istore 5, 2), (1063, .aload_n 2, 1), (1064, .aload_n 0, 1)]
set_option maxRecDepth 100000 in
theorem xi_ok0_45 : xi_ok code xi_0_45 = true := by decide +kernel
def xi_0_46 : XIs := [(1065, .iload 4, 2), (1067, .iconst 1, 1), (1068, .iadd, 1), (1069, .iaload, 1), (1070, .aload_n 0, 1), (1071, .iload 4, 2), (1073, .iconst 2, 1), (1074, .iadd, 1), (1075, .iaload, 1)]
set_option maxRecDepth 100000 in
theorem xi_ok0_46 : xi_ok code xi_0_46 = true := by decide +kernel
def xi_0_47 : XIs := [(1076, .invokevirtual 228, 3), (1079, .istore 6, 2), (1081, .goto 803, 3), (1084, .aload_n 1, 1), (1085, .aload_n 0, 1), (1086, .iload 4, 2), (1088, .iconst 1, 1), (1089, .iadd, 1), (1090, .iaload, 1)]
set_option maxRecDepth 100000 in
theorem xi_ok0_47 : xi_ok code xi_0_47 = true := by decide +kernel
def xi_0_48 : XIs := [(1091, .aload_n 3, 1), (1092, .invokestatic 229, 3), (1095, .istore 5, 2), (1097, .aload_n 2, 1), (1098, .aload_n 0, 1), (1099, .iload 4, 2), (1101, .iconst 1, 1), (1102, .iadd, 1), (1103, .iaload, 1)]
set_option maxRecDepth 100000 in
theorem xi_ok0_48 : xi_ok code xi_0_48 = true := by decide +kernel
def xi_0_49 : XIs := [(1104, .invokevirtual 231, 3), (1107, .istore 6, 2), (1109, .goto 775, 3), (1112, .aload_n 1, 1), (1113, .aload_n 0, 1), (1114, .iload 4, 2), (1116, .iconst 1, 1), (1117, .iadd, 1)]
set_option maxRecDepth 100000 in
theorem xi_ok0_49 : xi_ok code xi_0_49 = true := by decide +kernel
def xi_0_50 : XIs := [(1118, .iaload, 1), (1119, .aload_n 3, 1), (1120, .invokestatic 232, 3), (1123, .istore 5, 2), (1125, .aload_n 2, 1), (1126, .aload_n 0, 1), (1127, .iload 4, 2), (1129, .iconst 1, 1)]
set_option maxRecDepth 100000 in
theorem xi_ok0_50 : xi_ok code xi_0_50 = true := by decide +kernel
def xi_0_51 : XIs := [(1130, .iadd, 1), (1131, .iaload, 1), (1132, .invokevirtual 234, 3), (1135, .istore 6, 2), (1137, .goto 747, 3), (1140, .aload_n 1, 1), (1141, .aload_n 0, 1), (1142, .iload 4, 2)]
set_option maxRecDepth 100000 in
theorem xi_ok0_51 : xi_ok code xi_0_51 = true := by decide +kernel
def xi_0_52 : XIs := [(1144, .iconst 1, 1), (1145, .iadd, 1), (1146, .iaload, 1), (1147, .aload_n 3, 1), (1148, .invokestatic 235, 3), (1151, .istore 5, 2), (1153, .aload_n 2, 1), (1154, .aload_n 0, 1)]
set_option maxRecDepth 100000 in
theorem xi_ok0_52 : xi_ok code xi_0_52 = true := by decide +kernel
def xi_0_53 : XIs := [(1155, .iload 4, 2), (1157, .iconst 1, 1), (1158, .iadd, 1), (1159, .iaload, 1), (1160, .invokevirtual 237, 3), (1163, .istore 6, 2), (1165, .goto 719, 3), (1168, .aload_n 1, 1)]
set_option maxRecDepth 100000 in
theorem xi_ok0_53 : xi_ok code xi_0_53 = true := by decide +kernel
def xi_0_54 : XIs := [(1169, .aload_n 0, 1), (1170, .iload 4, 2), (1172, .iconst 1, 1), (1173, .iadd, 1), (1174, .iaload, 1), (1175, .aload_n 3, 1), (1176, .invokestatic 238, 3), (1179, .istore 5, 2)]
set_option maxRecDepth 100000 in
theorem xi_ok0_54 : xi_ok code xi_0_54 = true := by decide +kernel
def xi_0_55 : XIs := [(1181, .aload_n 2, 1), (1182, .aload_n 0, 1), (1183, .iload 4, 2), (1185, .iconst 1, 1), (1186, .iadd, 1), (1187, .iaload, 1), (1188, .invokevirtual 240, 3), (1191, .istore 6, 2)]
set_option maxRecDepth 100000 in
theorem xi_ok0_55 : xi_ok code xi_0_55 = true := by decide +kernel
def xi_0_56 : XIs := [(1193, .goto 691, 3), (1196, .aload_n 1, 1), (1197, .aload_n 0, 1), (1198, .iload 4, 2), (1200, .iconst 1, 1), (1201, .iadd, 1), (1202, .iaload, 1), (1203, .aload_n 3, 1)]
set_option maxRecDepth 100000 in
theorem xi_ok0_56 : xi_ok code xi_0_56 = true := by decide +kernel
def xi_0_57 : XIs := [(1204, .invokestatic 241, 3), (1207, .istore 5, 2), (1209, .aload_n 2, 1), (1210, .aload_n 0, 1), (1211, .iload 4, 2), (1213, .iconst 1, 1), (1214, .iadd, 1), (1215, .iaload, 1)]
set_option maxRecDepth 100000 in
theorem xi_ok0_57 : xi_ok code xi_0_57 = true := by decide +kernel
def xi_0_58 : XIs := [(1216, .invokevirtual 243, 3), (1219, .istore 6, 2), (1221, .goto 663, 3), (1224, .aload_n 1, 1), (1225, .aload_n 0, 1), (1226, .iload 4, 2), (1228, .iconst 1, 1), (1229, .iadd, 1)]
set_option maxRecDepth 100000 in
theorem xi_ok0_58 : xi_ok code xi_0_58 = true := by decide +kernel
