theorem mf_0 : am_mf 0 := trivial
theorem mf_1 : am_mf 1 := ⟨⟨wd_366, wd_159, ⟨by decide +kernel, by decide +kernel⟩, by decide +kernel, by decide +kernel, am_rokB_ok (by decide +kernel)⟩, by show Option.map _ _ = _; decide +kernel, wd_365, rfl, rfl⟩
theorem mf_2 : am_mf 2 := ⟨⟨wd_624, wd_167, ⟨by decide +kernel, by decide +kernel⟩, by decide +kernel, by decide +kernel, am_rokB_ok (by decide +kernel)⟩, by show Option.map _ _ = _; decide +kernel, wd_623⟩
theorem mf_3 : am_mf 3 := ⟨⟨wd_828, wd_155, ⟨by decide +kernel, by decide +kernel⟩, by decide +kernel, by decide +kernel, am_rokB_ok (by decide +kernel)⟩, by show Option.map _ _ = _; decide +kernel, wd_826, wd_827, Or.inl ⟨by decide, rfl⟩⟩
theorem mf_4 : am_mf 4 := ⟨⟨wd_807, wd_155, ⟨by decide +kernel, by decide +kernel⟩, by decide +kernel, by decide +kernel, am_rokB_ok (by decide +kernel)⟩, by show Option.map _ _ = _; decide +kernel, wd_805, wd_806, Or.inl ⟨by decide, rfl⟩⟩
theorem mf_5 : am_mf 5 := ⟨⟨wd_811, wd_155, ⟨by decide +kernel, by decide +kernel⟩, by decide +kernel, by decide +kernel, am_rokB_ok (by decide +kernel)⟩, by show Option.map _ _ = _; decide +kernel, wd_809, wd_810, Or.inl ⟨by decide, rfl⟩⟩
theorem mf_6 : am_mf 6 := ⟨⟨wd_1004, wd_155, ⟨by decide +kernel, by decide +kernel⟩, by decide +kernel, by decide +kernel, am_rokB_ok (by decide +kernel)⟩, by show Option.map _ _ = _; decide +kernel, wd_1002, wd_1003, Or.inl ⟨by decide, rfl⟩⟩
theorem mf_7 : am_mf 7 := ⟨⟨wd_1150, wd_159, ⟨by decide +kernel, by decide +kernel⟩, by decide +kernel, by decide +kernel, am_rokB_ok (by decide +kernel)⟩, by show Option.map _ _ = _; decide +kernel, wd_1149⟩
theorem mf_8 : am_mf 8 := ⟨⟨wd_1147, wd_159, ⟨by decide +kernel, by decide +kernel⟩, by decide +kernel, by decide +kernel, am_rokB_ok (by decide +kernel)⟩, by show Option.map _ _ = _; decide +kernel, wd_1146, wd_41, Or.inl ⟨by decide, rfl⟩⟩
theorem mf_9 : am_mf 9 := ⟨⟨wd_939, wd_157, ⟨by decide +kernel, by decide +kernel⟩, by decide +kernel, by decide +kernel, am_rokB_ok (by decide +kernel)⟩, by show Option.map _ _ = _; decide +kernel, wd_937, wd_938, Or.inl ⟨by decide, rfl⟩⟩
theorem mf_10 : am_mf 10 := ⟨⟨wd_944, wd_157, ⟨by decide +kernel, by decide +kernel⟩, by decide +kernel, by decide +kernel, am_rokB_ok (by decide +kernel)⟩, by show Option.map _ _ = _; decide +kernel, wd_942, wd_943, Or.inl ⟨by decide, rfl⟩⟩
theorem mf_11 : am_mf 11 := ⟨⟨wd_1154, wd_159, ⟨by decide +kernel, by decide +kernel⟩, by decide +kernel, by decide +kernel, am_rokB_ok (by decide +kernel)⟩, by show Option.map _ _ = _; decide +kernel, wd_1153, wd_42, Or.inl ⟨by decide, rfl⟩⟩
theorem mf_12 : am_mf 12 := ⟨⟨wd_1139, wd_159, ⟨by decide +kernel, by decide +kernel⟩, by decide +kernel, by decide +kernel, am_rokB_ok (by decide +kernel)⟩, by show Option.map _ _ = _; decide +kernel, wd_1137, wd_1138, Or.inl ⟨by decide, rfl⟩⟩
theorem mf_13 : am_mf 13 := ⟨⟨wd_1178, wd_159, ⟨by decide +kernel, by decide +kernel⟩, by decide +kernel, by decide +kernel, am_rokB_ok (by decide +kernel)⟩, by show Option.map _ _ = _; decide +kernel, wd_1176, wd_1177, Or.inl ⟨by decide, rfl⟩⟩
theorem mf_14 : am_mf 14 := ⟨⟨wd_1163, wd_174, ⟨by decide +kernel, by decide +kernel⟩, by decide +kernel, by decide +kernel, am_rokB_ok (by decide +kernel)⟩, by show Option.map _ _ = _; decide +kernel, wd_1162⟩
theorem mf_15 : am_mf 15 := ⟨⟨wd_1160, wd_159, ⟨by decide +kernel, by decide +kernel⟩, by decide +kernel, by decide +kernel, am_rokB_ok (by decide +kernel)⟩, by show Option.map _ _ = _; decide +kernel, wd_1158, wd_1159, Or.inl ⟨by decide, rfl⟩⟩
theorem mf_16 : am_mf 16 := ⟨⟨wd_1174, wd_159, ⟨by decide +kernel, by decide +kernel⟩, by decide +kernel, by decide +kernel, am_rokB_ok (by decide +kernel)⟩, by show Option.map _ _ = _; decide +kernel, wd_1172, wd_1173, Or.inl ⟨by decide, rfl⟩⟩
theorem mf_17 : am_mf 17 := ⟨⟨wd_1207, wd_159, ⟨by decide +kernel, by decide +kernel⟩, by decide +kernel, by decide +kernel, am_rokB_ok (by decide +kernel)⟩, by show Option.map _ _ = _; decide +kernel, wd_1205, wd_1206, Or.inl ⟨by decide, rfl⟩⟩
theorem mf_18 : am_mf 18 := ⟨⟨wd_1194, wd_159, ⟨by decide +kernel, by decide +kernel⟩, by decide +kernel, by decide +kernel, am_rokB_ok (by decide +kernel)⟩, by show Option.map _ _ = _; decide +kernel, wd_1193, wd_44, Or.inl ⟨by decide, rfl⟩⟩
theorem mf_19 : am_mf 19 := ⟨⟨wd_1190, wd_159, ⟨by decide +kernel, by decide +kernel⟩, by decide +kernel, by decide +kernel, am_rokB_ok (by decide +kernel)⟩, by show Option.map _ _ = _; decide +kernel, wd_1189, wd_43, Or.inl ⟨by decide, rfl⟩⟩
theorem mf_20 : am_mf 20 := ⟨⟨wd_1199, wd_159, ⟨by decide +kernel, by decide +kernel⟩, by decide +kernel, by decide +kernel, am_rokB_ok (by decide +kernel)⟩, by show Option.map _ _ = _; decide +kernel, wd_1198, wd_45, Or.inl ⟨by decide, rfl⟩⟩
theorem mf_21 : am_mf 21 := ⟨⟨wd_1203, wd_159, ⟨by decide +kernel, by decide +kernel⟩, by decide +kernel, by decide +kernel, am_rokB_ok (by decide +kernel)⟩, by show Option.map _ _ = _; decide +kernel, wd_1202, wd_46, Or.inl ⟨by decide, rfl⟩⟩
theorem mf_22 : am_mf 22 := ⟨⟨wd_1186, wd_159, ⟨by decide +kernel, by decide +kernel⟩, by decide +kernel, by decide +kernel, am_rokB_ok (by decide +kernel)⟩, by show Option.map _ _ = _; decide +kernel, wd_1184, wd_1185, Or.inl ⟨by decide, rfl⟩⟩
theorem mf_23 : am_mf 23 := ⟨⟨wd_1219, wd_159, ⟨by decide +kernel, by decide +kernel⟩, by decide +kernel, by decide +kernel, am_rokB_ok (by decide +kernel)⟩, by show Option.map _ _ = _; decide +kernel, wd_1218, wd_47, Or.inl ⟨by decide, rfl⟩⟩
theorem mf_24 : am_mf 24 := ⟨⟨wd_1215, wd_159, ⟨by decide +kernel, by decide +kernel⟩, by decide +kernel, by decide +kernel, am_rokB_ok (by decide +kernel)⟩, by show Option.map _ _ = _; decide +kernel, wd_1213, wd_1214, Or.inl ⟨by decide, rfl⟩⟩
theorem mf_25 : am_mf 25 := ⟨⟨wd_1228, wd_159, ⟨by decide +kernel, by decide +kernel⟩, by decide +kernel, by decide +kernel, am_rokB_ok (by decide +kernel)⟩, by show Option.map _ _ = _; decide +kernel, wd_1226, wd_1227, Or.inl ⟨by decide, rfl⟩⟩
theorem mf_26 : am_mf 26 := ⟨⟨wd_193, wd_155, ⟨by decide +kernel, by decide +kernel⟩, by decide +kernel, by decide +kernel, am_rokB_ok (by decide +kernel)⟩, by show Option.map _ _ = _; decide +kernel, wd_192, rfl, rfl⟩
theorem mf_27 : am_mf 27 := ⟨⟨wd_621, wd_155, ⟨by decide +kernel, by decide +kernel⟩, by decide +kernel, by decide +kernel, am_rokB_ok (by decide +kernel)⟩, by show Option.map _ _ = _; decide +kernel, wd_619, wd_620, Or.inl ⟨by decide, rfl⟩⟩
theorem mf_28 : am_mf 28 := ⟨⟨wd_905, wd_155, ⟨by decide +kernel, by decide +kernel⟩, by decide +kernel, by decide +kernel, am_rokB_ok (by decide +kernel)⟩, by show Option.map _ _ = _; decide +kernel, wd_903, wd_904, Or.inl ⟨by decide, rfl⟩⟩
theorem mf_29 : am_mf 29 := ⟨⟨wd_803, wd_155, ⟨by decide +kernel, by decide +kernel⟩, by decide +kernel, by decide +kernel, am_rokB_ok (by decide +kernel)⟩, by show Option.map _ _ = _; decide +kernel, wd_801, wd_802, Or.inl ⟨by decide, rfl⟩⟩
theorem mf_30 : am_mf 30 := ⟨⟨wd_923, wd_155, ⟨by decide +kernel, by decide +kernel⟩, by decide +kernel, by decide +kernel, am_rokB_ok (by decide +kernel)⟩, by show Option.map _ _ = _; decide +kernel, wd_921, wd_922, Or.inl ⟨by decide, rfl⟩⟩
theorem mf_31 : am_mf 31 := ⟨⟨wd_831, wd_153, ⟨by decide +kernel, by decide +kernel⟩, by decide +kernel, by decide +kernel, am_rokB_ok (by decide +kernel)⟩, by show Option.map _ _ = _; decide +kernel, wd_830⟩
theorem mf_32 : am_mf 32 := ⟨⟨wd_975, wd_155, ⟨by decide +kernel, by decide +kernel⟩, by decide +kernel, by decide +kernel, am_rokB_ok (by decide +kernel)⟩, by show Option.map _ _ = _; decide +kernel, wd_973, wd_974, Or.inl ⟨by decide, rfl⟩⟩
theorem mf_33 : am_mf 33 := ⟨⟨wd_1108, wd_155, ⟨by decide +kernel, by decide +kernel⟩, by decide +kernel, by decide +kernel, am_rokB_ok (by decide +kernel)⟩, by show Option.map _ _ = _; decide +kernel, wd_1106, wd_1107, Or.inl ⟨by decide, rfl⟩⟩
theorem mf_34 : am_mf 34 := ⟨⟨wd_1534, wd_155, ⟨by decide +kernel, by decide +kernel⟩, by decide +kernel, by decide +kernel, am_rokB_ok (by decide +kernel)⟩, by show Option.map _ _ = _; decide +kernel, wd_1532, wd_1533, Or.inl ⟨by decide, rfl⟩⟩
theorem mf_35 : am_mf 35 := ⟨⟨wd_816, wd_155, ⟨by decide +kernel, by decide +kernel⟩, by decide +kernel, by decide +kernel, am_rokB_ok (by decide +kernel)⟩, by show Option.map _ _ = _; decide +kernel, wd_814, wd_815, Or.inl ⟨by decide, rfl⟩⟩
theorem mf_36 : am_mf 36 := ⟨⟨wd_1017, wd_155, ⟨by decide +kernel, by decide +kernel⟩, by decide +kernel, by decide +kernel, am_rokB_ok (by decide +kernel)⟩, by show Option.map _ _ = _; decide +kernel, wd_1015, wd_1016, Or.inl ⟨by decide, rfl⟩⟩
theorem mf_37 : am_mf 37 := ⟨⟨wd_1041, wd_155, ⟨by decide +kernel, by decide +kernel⟩, by decide +kernel, by decide +kernel, am_rokB_ok (by decide +kernel)⟩, by show Option.map _ _ = _; decide +kernel, wd_1039, wd_1040, Or.inl ⟨by decide, rfl⟩⟩
theorem mf_38 : am_mf 38 := ⟨⟨wd_1049, wd_155, ⟨by decide +kernel, by decide +kernel⟩, by decide +kernel, by decide +kernel, am_rokB_ok (by decide +kernel)⟩, by show Option.map _ _ = _; decide +kernel, wd_1047, wd_1048, Or.inl ⟨by decide, rfl⟩⟩
theorem mf_39 : am_mf 39 := ⟨⟨wd_824, wd_155, ⟨by decide +kernel, by decide +kernel⟩, by decide +kernel, by decide +kernel, am_rokB_ok (by decide +kernel)⟩, by show Option.map _ _ = _; decide +kernel, wd_822, wd_823, Or.inl ⟨by decide, rfl⟩⟩
theorem mf_40 : am_mf 40 := ⟨⟨wd_1062, wd_155, ⟨by decide +kernel, by decide +kernel⟩, by decide +kernel, by decide +kernel, am_rokB_ok (by decide +kernel)⟩, by show Option.map _ _ = _; decide +kernel, wd_1060, wd_1061, Or.inl ⟨by decide, rfl⟩⟩
theorem mf_41 : am_mf 41 := ⟨⟨wd_1093, wd_155, ⟨by decide +kernel, by decide +kernel⟩, by decide +kernel, by decide +kernel, am_rokB_ok (by decide +kernel)⟩, by show Option.map _ _ = _; decide +kernel, wd_1091, wd_1092, Or.inl ⟨by decide, rfl⟩⟩
theorem mf_42 : am_mf 42 := ⟨⟨wd_281, wd_156, ⟨by decide +kernel, by decide +kernel⟩, by decide +kernel, by decide +kernel, am_rokB_ok (by decide +kernel)⟩, by show Option.map _ _ = _; decide +kernel, wd_280, rfl, rfl⟩
theorem mf_43 : am_mf 43 := ⟨⟨wd_1521, wd_156, ⟨by decide +kernel, by decide +kernel⟩, by decide +kernel, by decide +kernel, am_rokB_ok (by decide +kernel)⟩, by show Option.map _ _ = _; decide +kernel, wd_1519, wd_1520, Or.inl ⟨by decide, rfl⟩⟩
theorem mf_44 : am_mf 44 := ⟨⟨wd_311, wd_157, ⟨by decide +kernel, by decide +kernel⟩, by decide +kernel, by decide +kernel, am_rokB_ok (by decide +kernel)⟩, by show Option.map _ _ = _; decide +kernel, wd_310, rfl, rfl⟩
theorem mf_45 : am_mf 45 := ⟨⟨wd_491, wd_163, ⟨by decide +kernel, by decide +kernel⟩, by decide +kernel, by decide +kernel, am_rokB_ok (by decide +kernel)⟩, by show Option.map _ _ = _; decide +kernel, wd_490, rfl, rfl⟩
theorem mf_46 : am_mf 46 := ⟨⟨wd_1467, wd_163, ⟨by decide +kernel, by decide +kernel⟩, by decide +kernel, by decide +kernel, am_rokB_ok (by decide +kernel)⟩, by show Option.map _ _ = _; decide +kernel, wd_1466, wd_64, Or.inl ⟨by decide, rfl⟩⟩
theorem mf_47 : am_mf 47 := ⟨⟨wd_931, wd_157, ⟨by decide +kernel, by decide +kernel⟩, by decide +kernel, by decide +kernel, am_rokB_ok (by decide +kernel)⟩, by show Option.map _ _ = _; decide +kernel, wd_929, wd_930, Or.inl ⟨by decide, rfl⟩⟩
theorem mf_48 : am_mf 48 := ⟨⟨wd_935, wd_157, ⟨by decide +kernel, by decide +kernel⟩, by decide +kernel, by decide +kernel, am_rokB_ok (by decide +kernel)⟩, by show Option.map _ _ = _; decide +kernel, wd_934, wd_32, Or.inl ⟨by decide, rfl⟩⟩
theorem mf_49 : am_mf 49 := ⟨⟨wd_948, wd_157, ⟨by decide +kernel, by decide +kernel⟩, by decide +kernel, by decide +kernel, am_rokB_ok (by decide +kernel)⟩, by show Option.map _ _ = _; decide +kernel, wd_947, wd_33, Or.inl ⟨by decide, rfl⟩⟩
theorem mf_50 : am_mf 50 := ⟨⟨wd_952, wd_157, ⟨by decide +kernel, by decide +kernel⟩, by decide +kernel, by decide +kernel, am_rokB_ok (by decide +kernel)⟩, by show Option.map _ _ = _; decide +kernel, wd_951, wd_34, Or.inl ⟨by decide, rfl⟩⟩
theorem mf_51 : am_mf 51 := ⟨⟨wd_956, wd_157, ⟨by decide +kernel, by decide +kernel⟩, by decide +kernel, by decide +kernel, am_rokB_ok (by decide +kernel)⟩, by show Option.map _ _ = _; decide +kernel, wd_955, wd_35, Or.inl ⟨by decide, rfl⟩⟩
theorem mf_52 : am_mf 52 := ⟨⟨wd_927, wd_157, ⟨by decide +kernel, by decide +kernel⟩, by decide +kernel, by decide +kernel, am_rokB_ok (by decide +kernel)⟩, by show Option.map _ _ = _; decide +kernel, wd_925, wd_926, Or.inl ⟨by decide, rfl⟩⟩
theorem mf_53 : am_mf 53 := ⟨⟨wd_1476, wd_157, ⟨by decide +kernel, by decide +kernel⟩, by decide +kernel, by decide +kernel, am_rokB_ok (by decide +kernel)⟩, by show Option.map _ _ = _; decide +kernel, wd_1474, wd_1475, Or.inl ⟨by decide, rfl⟩⟩
theorem mf_54 : am_mf 54 := ⟨⟨wd_1408, wd_157, ⟨by decide +kernel, by decide +kernel⟩, by decide +kernel, by decide +kernel, am_rokB_ok (by decide +kernel)⟩, by show Option.map _ _ = _; decide +kernel, wd_1406, wd_1407, Or.inl ⟨by decide, rfl⟩⟩
theorem mf_55 : am_mf 55 := ⟨⟨wd_1472, wd_163, ⟨by decide +kernel, by decide +kernel⟩, by decide +kernel, by decide +kernel, am_rokB_ok (by decide +kernel)⟩, by show Option.map _ _ = _; decide +kernel, wd_1471, wd_65, Or.inl ⟨by decide, rfl⟩⟩
theorem mf_56 : am_mf 56 := ⟨⟨wd_1463, wd_163, ⟨by decide +kernel, by decide +kernel⟩, by decide +kernel, by decide +kernel, am_rokB_ok (by decide +kernel)⟩, by show Option.map _ _ = _; decide +kernel, wd_1461, wd_1462, Or.inl ⟨by decide, rfl⟩⟩
theorem mf_57 : am_mf 57 := ⟨⟨wd_465, wd_162, ⟨by decide +kernel, by decide +kernel⟩, by decide +kernel, by decide +kernel, am_rokB_ok (by decide +kernel)⟩, by show Option.map _ _ = _; decide +kernel, wd_464, rfl, rfl⟩
theorem mf_58 : am_mf 58 := ⟨⟨wd_1404, wd_162, ⟨by decide +kernel, by decide +kernel⟩, by decide +kernel, by decide +kernel, am_rokB_ok (by decide +kernel)⟩, by show Option.map _ _ = _; decide +kernel, wd_1403⟩
theorem mf_59 : am_mf 59 := ⟨⟨wd_1398, wd_162, ⟨by decide +kernel, by decide +kernel⟩, by decide +kernel, by decide +kernel, am_rokB_ok (by decide +kernel)⟩, by show Option.map _ _ = _; decide +kernel, wd_1397, wd_59, Or.inl ⟨by decide, rfl⟩⟩
theorem mf_60 : am_mf 60 := ⟨⟨wd_1412, wd_162, ⟨by decide +kernel, by decide +kernel⟩, by decide +kernel, by decide +kernel, am_rokB_ok (by decide +kernel)⟩, by show Option.map _ _ = _; decide +kernel, wd_1411, wd_60, Or.inl ⟨by decide, rfl⟩⟩
theorem mf_61 : am_mf 61 := ⟨⟨wd_1394, wd_162, ⟨by decide +kernel, by decide +kernel⟩, by decide +kernel, by decide +kernel, am_rokB_ok (by decide +kernel)⟩, by show Option.map _ _ = _; decide +kernel, wd_1392, wd_1393, Or.inl ⟨by decide, rfl⟩⟩
theorem mf_62 : am_mf 62 := ⟨⟨wd_1421, wd_162, ⟨by decide +kernel, by decide +kernel⟩, by decide +kernel, by decide +kernel, am_rokB_ok (by decide +kernel)⟩, by show Option.map _ _ = _; decide +kernel, wd_1419, wd_1420, Or.inl ⟨by decide, rfl⟩⟩
theorem mf_63 : am_mf 63 := ⟨⟨wd_400, wd_160, ⟨by decide +kernel, by decide +kernel⟩, by decide +kernel, by decide +kernel, am_rokB_ok (by decide +kernel)⟩, by show Option.map _ _ = _; decide +kernel, wd_399, rfl, rfl⟩
theorem mf_64 : am_mf 64 := ⟨⟨wd_1255, wd_160, ⟨by decide +kernel, by decide +kernel⟩, by decide +kernel, by decide +kernel, am_rokB_ok (by decide +kernel)⟩, by show Option.map _ _ = _; decide +kernel, wd_1253, wd_1254, Or.inl ⟨by decide, rfl⟩⟩
theorem mf_65 : am_mf 65 := ⟨⟨wd_1259, wd_160, ⟨by decide +kernel, by decide +kernel⟩, by decide +kernel, by decide +kernel, am_rokB_ok (by decide +kernel)⟩, by show Option.map _ _ = _; decide +kernel, wd_1257, wd_1258, Or.inl ⟨by decide, rfl⟩⟩
theorem mf_66 : am_mf 66 := ⟨⟨wd_1245, wd_160, ⟨by decide +kernel, by decide +kernel⟩, by decide +kernel, by decide +kernel, am_rokB_ok (by decide +kernel)⟩, by show Option.map _ _ = _; decide +kernel, wd_1244, wd_48, Or.inl ⟨by decide, rfl⟩⟩
theorem mf_67 : am_mf 67 := ⟨⟨wd_1249, wd_160, ⟨by decide +kernel, by decide +kernel⟩, by decide +kernel, by decide +kernel, am_rokB_ok (by decide +kernel)⟩, by show Option.map _ _ = _; decide +kernel, wd_1248, wd_49, Or.inl ⟨by decide, rfl⟩⟩
theorem mf_68 : am_mf 68 := ⟨⟨wd_1263, wd_160, ⟨by decide +kernel, by decide +kernel⟩, by decide +kernel, by decide +kernel, am_rokB_ok (by decide +kernel)⟩, by show Option.map _ _ = _; decide +kernel, wd_1262, wd_50, Or.inl ⟨by decide, rfl⟩⟩
theorem mf_69 : am_mf 69 := ⟨⟨wd_1267, wd_160, ⟨by decide +kernel, by decide +kernel⟩, by decide +kernel, by decide +kernel, am_rokB_ok (by decide +kernel)⟩, by show Option.map _ _ = _; decide +kernel, wd_1266, wd_51, Or.inl ⟨by decide, rfl⟩⟩
theorem mf_70 : am_mf 70 := ⟨⟨wd_1240, wd_160, ⟨by decide +kernel, by decide +kernel⟩, by decide +kernel, by decide +kernel, am_rokB_ok (by decide +kernel)⟩, by show Option.map _ _ = _; decide +kernel, wd_1238, wd_1239, Or.inl ⟨by decide, rfl⟩⟩
theorem mf_71 : am_mf 71 := ⟨⟨wd_983, wd_157, ⟨by decide +kernel, by decide +kernel⟩, by decide +kernel, by decide +kernel, am_rokB_ok (by decide +kernel)⟩, by show Option.map _ _ = _; decide +kernel, wd_981, wd_982, Or.inl ⟨by decide, rfl⟩⟩
theorem mf_72 : am_mf 72 := ⟨⟨wd_996, wd_157, ⟨by decide +kernel, by decide +kernel⟩, by decide +kernel, by decide +kernel, am_rokB_ok (by decide +kernel)⟩, by show Option.map _ _ = _; decide +kernel, wd_994, wd_995, Or.inl ⟨by decide, rfl⟩⟩
theorem mf_73 : am_mf 73 := ⟨⟨wd_1104, wd_157, ⟨by decide +kernel, by decide +kernel⟩, by decide +kernel, by decide +kernel, am_rokB_ok (by decide +kernel)⟩, by show Option.map _ _ = _; decide +kernel, wd_1102, wd_1103, Or.inl ⟨by decide, rfl⟩⟩
theorem mf_74 : am_mf 74 := ⟨⟨wd_918, wd_157, ⟨by decide +kernel, by decide +kernel⟩, by decide +kernel, by decide +kernel, am_rokB_ok (by decide +kernel)⟩, by show Option.map _ _ = _; decide +kernel, wd_916, wd_917, Or.inl ⟨by decide, rfl⟩⟩
theorem mf_75 : am_mf 75 := ⟨⟨wd_345, wd_158, ⟨by decide +kernel, by decide +kernel⟩, by decide +kernel, by decide +kernel, am_rokB_ok (by decide +kernel)⟩, by show Option.map _ _ = _; decide +kernel, wd_344, rfl, rfl⟩
theorem mf_76 : am_mf 76 := ⟨⟨wd_910, wd_158, ⟨by decide +kernel, by decide +kernel⟩, by decide +kernel, by decide +kernel, am_rokB_ok (by decide +kernel)⟩, by show Option.map _ _ = _; decide +kernel, wd_908, wd_909, Or.inl ⟨by decide, rfl⟩⟩
theorem mf_77 : am_mf 77 := ⟨⟨wd_1031, wd_158, ⟨by decide +kernel, by decide +kernel⟩, by decide +kernel, by decide +kernel, am_rokB_ok (by decide +kernel)⟩, by show Option.map _ _ = _; decide +kernel, wd_1029, wd_1030, Or.inl ⟨by decide, rfl⟩⟩
theorem mf_78 : am_mf 78 := ⟨⟨wd_1070, wd_158, ⟨by decide +kernel, by decide +kernel⟩, by decide +kernel, by decide +kernel, am_rokB_ok (by decide +kernel)⟩, by show Option.map _ _ = _; decide +kernel, wd_1068, wd_1069, Or.inl ⟨by decide, rfl⟩⟩
theorem mf_79 : am_mf 79 := ⟨⟨wd_187, wd_154, ⟨by decide +kernel, by decide +kernel⟩, by decide +kernel, by decide +kernel, am_rokB_ok (by decide +kernel)⟩, by show Option.map _ _ = _; decide +kernel, wd_186, rfl, rfl⟩
theorem mf_80 : am_mf 80 := ⟨⟨wd_636, wd_154, ⟨by decide +kernel, by decide +kernel⟩, by decide +kernel, by decide +kernel, am_rokB_ok (by decide +kernel)⟩, by show Option.map _ _ = _; decide +kernel, wd_635, wd_3, Or.inl ⟨by decide, rfl⟩⟩
theorem mf_81 : am_mf 81 := ⟨⟨wd_639, wd_154, ⟨by decide +kernel, by decide +kernel⟩, by decide +kernel, by decide +kernel, am_rokB_ok (by decide +kernel)⟩, by show Option.map _ _ = _; decide +kernel, wd_638⟩
theorem mf_82 : am_mf 82 := ⟨⟨wd_642, wd_154, ⟨by decide +kernel, by decide +kernel⟩, by decide +kernel, by decide +kernel, am_rokB_ok (by decide +kernel)⟩, by show Option.map _ _ = _; decide +kernel, wd_641⟩
theorem mf_83 : am_mf 83 := ⟨⟨wd_632, wd_154, ⟨by decide +kernel, by decide +kernel⟩, by decide +kernel, by decide +kernel, am_rokB_ok (by decide +kernel)⟩, by show Option.map _ _ = _; decide +kernel, wd_631, wd_2, Or.inl ⟨by decide, rfl⟩⟩
theorem mf_84 : am_mf 84 := ⟨⟨wd_659, wd_168, ⟨by decide +kernel, by decide +kernel⟩, by decide +kernel, by decide +kernel, am_rokB_ok (by decide +kernel)⟩, by show Option.map _ _ = _; decide +kernel, wd_657, wd_658, Or.inr ⟨rfl, rfl⟩⟩
theorem mf_85 : am_mf 85 := ⟨⟨wd_655, wd_168, ⟨by decide +kernel, by decide +kernel⟩, by decide +kernel, by decide +kernel, am_rokB_ok (by decide +kernel)⟩, by show Option.map _ _ = _; decide +kernel, wd_653, wd_654, Or.inr ⟨rfl, rfl⟩⟩
theorem mf_86 : am_mf 86 := ⟨⟨wd_669, wd_168, ⟨by decide +kernel, by decide +kernel⟩, by decide +kernel, by decide +kernel, am_rokB_ok (by decide +kernel)⟩, by show Option.map _ _ = _; decide +kernel, wd_667, wd_668, Or.inr ⟨rfl, rfl⟩⟩
theorem mf_87 : am_mf 87 := ⟨⟨wd_680, wd_170, ⟨by decide +kernel, by decide +kernel⟩, by decide +kernel, by decide +kernel, am_rokB_ok (by decide +kernel)⟩, by show Option.map _ _ = _; decide +kernel, wd_679⟩
theorem mf_88 : am_mf 88 := ⟨⟨wd_675, wd_168, ⟨by decide +kernel, by decide +kernel⟩, by decide +kernel, by decide +kernel, am_rokB_ok (by decide +kernel)⟩, by show Option.map _ _ = _; decide +kernel, wd_674⟩
theorem mf_89 : am_mf 89 := ⟨⟨wd_672, wd_169, ⟨by decide +kernel, by decide +kernel⟩, by decide +kernel, by decide +kernel, am_rokB_ok (by decide +kernel)⟩, by show Option.map _ _ = _; decide +kernel, wd_671⟩
theorem mf_90 : am_mf 90 := ⟨⟨wd_689, wd_171, ⟨by decide +kernel, by decide +kernel⟩, by decide +kernel, by decide +kernel, am_rokB_ok (by decide +kernel)⟩, by show Option.map _ _ = _; decide +kernel, wd_688⟩
theorem mf_91 : am_mf 91 := ⟨⟨wd_686, wd_171, ⟨by decide +kernel, by decide +kernel⟩, by decide +kernel, by decide +kernel, am_rokB_ok (by decide +kernel)⟩, by show Option.map _ _ = _; decide +kernel, wd_685⟩
theorem mf_92 : am_mf 92 := ⟨⟨wd_693, wd_171, ⟨by decide +kernel, by decide +kernel⟩, by decide +kernel, by decide +kernel, am_rokB_ok (by decide +kernel)⟩, by show Option.map _ _ = _; decide +kernel, wd_692⟩
theorem mf_93 : am_mf 93 := ⟨⟨wd_683, wd_171, ⟨by decide +kernel, by decide +kernel⟩, by decide +kernel, by decide +kernel, am_rokB_ok (by decide +kernel)⟩, by show Option.map _ _ = _; decide +kernel, wd_682⟩
theorem mf_94 : am_mf 94 := ⟨⟨wd_665, wd_168, ⟨by decide +kernel, by decide +kernel⟩, by decide +kernel, by decide +kernel, am_rokB_ok (by decide +kernel)⟩, by show Option.map _ _ = _; decide +kernel, wd_663, wd_664, Or.inr ⟨rfl, rfl⟩⟩
theorem mf_95 : am_mf 95 := ⟨⟨wd_703, wd_154, ⟨by decide +kernel, by decide +kernel⟩, by decide +kernel, by decide +kernel, am_rokB_ok (by decide +kernel)⟩, by show Option.map _ _ = _; decide +kernel, wd_702, wd_6, Or.inl ⟨by decide, rfl⟩⟩
theorem mf_96 : am_mf 96 := ⟨⟨wd_650, wd_154, ⟨by decide +kernel, by decide +kernel⟩, by decide +kernel, by decide +kernel, am_rokB_ok (by decide +kernel)⟩, by show Option.map _ _ = _; decide +kernel, wd_649, wd_5, Or.inl ⟨by decide, rfl⟩⟩
theorem mf_97 : am_mf 97 := ⟨⟨wd_707, wd_154, ⟨by decide +kernel, by decide +kernel⟩, by decide +kernel, by decide +kernel, am_rokB_ok (by decide +kernel)⟩, by show Option.map _ _ = _; decide +kernel, wd_706, wd_7, Or.inl ⟨by decide, rfl⟩⟩
theorem mf_98 : am_mf 98 := ⟨⟨wd_723, wd_169, ⟨by decide +kernel, by decide +kernel⟩, by decide +kernel, by decide +kernel, am_rokB_ok (by decide +kernel)⟩, by show Option.map _ _ = _; decide +kernel, wd_722⟩
theorem mf_99 : am_mf 99 := ⟨⟨wd_728, wd_169, ⟨by decide +kernel, by decide +kernel⟩, by decide +kernel, by decide +kernel, am_rokB_ok (by decide +kernel)⟩, by show Option.map _ _ = _; decide +kernel, wd_727⟩
theorem mf_100 : am_mf 100 := ⟨⟨wd_720, wd_169, ⟨by decide +kernel, by decide +kernel⟩, by decide +kernel, by decide +kernel, am_rokB_ok (by decide +kernel)⟩, by show Option.map _ _ = _; decide +kernel, wd_719⟩
theorem mf_101 : am_mf 101 := ⟨⟨wd_746, wd_170, ⟨by decide +kernel, by decide +kernel⟩, by decide +kernel, by decide +kernel, am_rokB_ok (by decide +kernel)⟩, by show Option.map _ _ = _; decide +kernel, wd_745⟩
theorem mf_102 : am_mf 102 := ⟨⟨wd_743, wd_168, ⟨by decide +kernel, by decide +kernel⟩, by decide +kernel, by decide +kernel, am_rokB_ok (by decide +kernel)⟩, by show Option.map _ _ = _; decide +kernel, wd_742⟩
theorem mf_103 : am_mf 103 := ⟨⟨wd_740, wd_171, ⟨by decide +kernel, by decide +kernel⟩, by decide +kernel, by decide +kernel, am_rokB_ok (by decide +kernel)⟩, by show Option.map _ _ = _; decide +kernel, wd_739⟩
theorem mf_104 : am_mf 104 := ⟨⟨wd_749, wd_171, ⟨by decide +kernel, by decide +kernel⟩, by decide +kernel, by decide +kernel, am_rokB_ok (by decide +kernel)⟩, by show Option.map _ _ = _; decide +kernel, wd_748⟩
theorem mf_105 : am_mf 105 := ⟨⟨wd_737, wd_171, ⟨by decide +kernel, by decide +kernel⟩, by decide +kernel, by decide +kernel, am_rokB_ok (by decide +kernel)⟩, by show Option.map _ _ = _; decide +kernel, wd_736⟩
theorem mf_106 : am_mf 106 := ⟨⟨wd_755, wd_172, ⟨by decide +kernel, by decide +kernel⟩, by decide +kernel, by decide +kernel, am_rokB_ok (by decide +kernel)⟩, by show Option.map _ _ = _; decide +kernel, wd_754⟩
theorem mf_107 : am_mf 107 := ⟨⟨wd_758, wd_172, ⟨by decide +kernel, by decide +kernel⟩, by decide +kernel, by decide +kernel, am_rokB_ok (by decide +kernel)⟩, by show Option.map _ _ = _; decide +kernel, wd_757⟩
theorem mf_108 : am_mf 108 := ⟨⟨wd_762, wd_172, ⟨by decide +kernel, by decide +kernel⟩, by decide +kernel, by decide +kernel, am_rokB_ok (by decide +kernel)⟩, by show Option.map _ _ = _; decide +kernel, wd_761⟩
theorem mf_109 : am_mf 109 := ⟨⟨wd_752, wd_171, ⟨by decide +kernel, by decide +kernel⟩, by decide +kernel, by decide +kernel, am_rokB_ok (by decide +kernel)⟩, by show Option.map _ _ = _; decide +kernel, wd_751⟩
theorem mf_110 : am_mf 110 := ⟨⟨wd_731, wd_171, ⟨by decide +kernel, by decide +kernel⟩, by decide +kernel, by decide +kernel, am_rokB_ok (by decide +kernel)⟩, by show Option.map _ _ = _; decide +kernel, wd_730⟩
theorem mf_111 : am_mf 111 := ⟨⟨wd_716, wd_168, ⟨by decide +kernel, by decide +kernel⟩, by decide +kernel, by decide +kernel, am_rokB_ok (by decide +kernel)⟩, by show Option.map _ _ = _; decide +kernel, wd_714, wd_715, Or.inr ⟨rfl, rfl⟩⟩
theorem mf_112 : am_mf 112 := ⟨⟨wd_712, wd_168, ⟨by decide +kernel, by decide +kernel⟩, by decide +kernel, by decide +kernel, am_rokB_ok (by decide +kernel)⟩, by show Option.map _ _ = _; decide +kernel, wd_710, wd_711, Or.inr ⟨rfl, rfl⟩⟩
theorem mf_113 : am_mf 113 := ⟨⟨wd_646, wd_154, ⟨by decide +kernel, by decide +kernel⟩, by decide +kernel, by decide +kernel, am_rokB_ok (by decide +kernel)⟩, by show Option.map _ _ = _; decide +kernel, wd_645, wd_4, Or.inl ⟨by decide, rfl⟩⟩
theorem mf_114 : am_mf 114 := ⟨⟨wd_628, wd_154, ⟨by decide +kernel, by decide +kernel⟩, by decide +kernel, by decide +kernel, am_rokB_ok (by decide +kernel)⟩, by show Option.map _ _ = _; decide +kernel, wd_627, wd_1, Or.inl ⟨by decide, rfl⟩⟩
theorem mf_115 : am_mf 115 := ⟨⟨wd_767, wd_154, ⟨by decide +kernel, by decide +kernel⟩, by decide +kernel, by decide +kernel, am_rokB_ok (by decide +kernel)⟩, by show Option.map _ _ = _; decide +kernel, wd_766, wd_8, Or.inl ⟨by decide, rfl⟩⟩
theorem mf_116 : am_mf 116 := ⟨⟨wd_779, wd_154, ⟨by decide +kernel, by decide +kernel⟩, by decide +kernel, by decide +kernel, am_rokB_ok (by decide +kernel)⟩, by show Option.map _ _ = _; decide +kernel, wd_778, wd_11, Or.inl ⟨by decide, rfl⟩⟩
theorem mf_117 : am_mf 117 := ⟨⟨wd_775, wd_154, ⟨by decide +kernel, by decide +kernel⟩, by decide +kernel, by decide +kernel, am_rokB_ok (by decide +kernel)⟩, by show Option.map _ _ = _; decide +kernel, wd_774, wd_10, Or.inl ⟨by decide, rfl⟩⟩
theorem mf_118 : am_mf 118 := ⟨⟨wd_787, wd_154, ⟨by decide +kernel, by decide +kernel⟩, by decide +kernel, by decide +kernel, am_rokB_ok (by decide +kernel)⟩, by show Option.map _ _ = _; decide +kernel, wd_786, wd_13, Or.inl ⟨by decide, rfl⟩⟩
theorem mf_119 : am_mf 119 := ⟨⟨wd_783, wd_154, ⟨by decide +kernel, by decide +kernel⟩, by decide +kernel, by decide +kernel, am_rokB_ok (by decide +kernel)⟩, by show Option.map _ _ = _; decide +kernel, wd_782, wd_12, Or.inl ⟨by decide, rfl⟩⟩
theorem mf_120 : am_mf 120 := ⟨⟨wd_771, wd_154, ⟨by decide +kernel, by decide +kernel⟩, by decide +kernel, by decide +kernel, am_rokB_ok (by decide +kernel)⟩, by show Option.map _ _ = _; decide +kernel, wd_770, wd_9, Or.inl ⟨by decide, rfl⟩⟩
theorem mf_121 : am_mf 121 := ⟨⟨wd_791, wd_154, ⟨by decide +kernel, by decide +kernel⟩, by decide +kernel, by decide +kernel, am_rokB_ok (by decide +kernel)⟩, by show Option.map _ _ = _; decide +kernel, wd_790, wd_14, Or.inl ⟨by decide, rfl⟩⟩
theorem mf_122 : am_mf 122 := ⟨⟨wd_799, wd_154, ⟨by decide +kernel, by decide +kernel⟩, by decide +kernel, by decide +kernel, am_rokB_ok (by decide +kernel)⟩, by show Option.map _ _ = _; decide +kernel, wd_798, wd_16, Or.inl ⟨by decide, rfl⟩⟩
theorem mf_123 : am_mf 123 := ⟨⟨wd_820, wd_154, ⟨by decide +kernel, by decide +kernel⟩, by decide +kernel, by decide +kernel, am_rokB_ok (by decide +kernel)⟩, by show Option.map _ _ = _; decide +kernel, wd_819, wd_17, Or.inl ⟨by decide, rfl⟩⟩
theorem mf_124 : am_mf 124 := ⟨⟨wd_851, wd_154, ⟨by decide +kernel, by decide +kernel⟩, by decide +kernel, by decide +kernel, am_rokB_ok (by decide +kernel)⟩, by show Option.map _ _ = _; decide +kernel, wd_850, wd_22, Or.inl ⟨by decide, rfl⟩⟩
theorem mf_125 : am_mf 125 := ⟨⟨wd_855, wd_154, ⟨by decide +kernel, by decide +kernel⟩, by decide +kernel, by decide +kernel, am_rokB_ok (by decide +kernel)⟩, by show Option.map _ _ = _; decide +kernel, wd_854, wd_23, Or.inl ⟨by decide, rfl⟩⟩
theorem mf_126 : am_mf 126 := ⟨⟨wd_859, wd_154, ⟨by decide +kernel, by decide +kernel⟩, by decide +kernel, by decide +kernel, am_rokB_ok (by decide +kernel)⟩, by show Option.map _ _ = _; decide +kernel, wd_858, wd_24, Or.inl ⟨by decide, rfl⟩⟩
theorem mf_127 : am_mf 127 := ⟨⟨wd_883, wd_154, ⟨by decide +kernel, by decide +kernel⟩, by decide +kernel, by decide +kernel, am_rokB_ok (by decide +kernel)⟩, by show Option.map _ _ = _; decide +kernel, wd_882, wd_30, Or.inl ⟨by decide, rfl⟩⟩
theorem mf_128 : am_mf 128 := ⟨⟨wd_847, wd_154, ⟨by decide +kernel, by decide +kernel⟩, by decide +kernel, by decide +kernel, am_rokB_ok (by decide +kernel)⟩, by show Option.map _ _ = _; decide +kernel, wd_846, wd_21, Or.inl ⟨by decide, rfl⟩⟩
theorem mf_129 : am_mf 129 := ⟨⟨wd_871, wd_154, ⟨by decide +kernel, by decide +kernel⟩, by decide +kernel, by decide +kernel, am_rokB_ok (by decide +kernel)⟩, by show Option.map _ _ = _; decide +kernel, wd_870, wd_27, Or.inl ⟨by decide, rfl⟩⟩
theorem mf_130 : am_mf 130 := ⟨⟨wd_863, wd_154, ⟨by decide +kernel, by decide +kernel⟩, by decide +kernel, by decide +kernel, am_rokB_ok (by decide +kernel)⟩, by show Option.map _ _ = _; decide +kernel, wd_862, wd_25, Or.inl ⟨by decide, rfl⟩⟩
theorem mf_131 : am_mf 131 := ⟨⟨wd_879, wd_154, ⟨by decide +kernel, by decide +kernel⟩, by decide +kernel, by decide +kernel, am_rokB_ok (by decide +kernel)⟩, by show Option.map _ _ = _; decide +kernel, wd_878, wd_29, Or.inl ⟨by decide, rfl⟩⟩
theorem mf_132 : am_mf 132 := ⟨⟨wd_839, wd_154, ⟨by decide +kernel, by decide +kernel⟩, by decide +kernel, by decide +kernel, am_rokB_ok (by decide +kernel)⟩, by show Option.map _ _ = _; decide +kernel, wd_838, wd_19, Or.inl ⟨by decide, rfl⟩⟩
theorem mf_133 : am_mf 133 := ⟨⟨wd_843, wd_154, ⟨by decide +kernel, by decide +kernel⟩, by decide +kernel, by decide +kernel, am_rokB_ok (by decide +kernel)⟩, by show Option.map _ _ = _; decide +kernel, wd_842, wd_20, Or.inl ⟨by decide, rfl⟩⟩
theorem mf_134 : am_mf 134 := ⟨⟨wd_867, wd_154, ⟨by decide +kernel, by decide +kernel⟩, by decide +kernel, by decide +kernel, am_rokB_ok (by decide +kernel)⟩, by show Option.map _ _ = _; decide +kernel, wd_866, wd_26, Or.inl ⟨by decide, rfl⟩⟩
theorem mf_135 : am_mf 135 := ⟨⟨wd_875, wd_154, ⟨by decide +kernel, by decide +kernel⟩, by decide +kernel, by decide +kernel, am_rokB_ok (by decide +kernel)⟩, by show Option.map _ _ = _; decide +kernel, wd_874, wd_28, Or.inl ⟨by decide, rfl⟩⟩
theorem mf_136 : am_mf 136 := ⟨⟨wd_886, wd_167, ⟨by decide +kernel, by decide +kernel⟩, by decide +kernel, by decide +kernel, am_rokB_ok (by decide +kernel)⟩, by show Option.map _ _ = _; decide +kernel, wd_885⟩
theorem mf_137 : am_mf 137 := ⟨⟨wd_835, wd_154, ⟨by decide +kernel, by decide +kernel⟩, by decide +kernel, by decide +kernel, am_rokB_ok (by decide +kernel)⟩, by show Option.map _ _ = _; decide +kernel, wd_834, wd_18, Or.inl ⟨by decide, rfl⟩⟩
theorem mf_138 : am_mf 138 := ⟨⟨wd_795, wd_154, ⟨by decide +kernel, by decide +kernel⟩, by decide +kernel, by decide +kernel, am_rokB_ok (by decide +kernel)⟩, by show Option.map _ _ = _; decide +kernel, wd_794, wd_15, Or.inl ⟨by decide, rfl⟩⟩
theorem mf_139 : am_mf 139 := ⟨⟨wd_611, wd_154, ⟨by decide +kernel, by decide +kernel⟩, by decide +kernel, by decide +kernel, am_rokB_ok (by decide +kernel)⟩, by show Option.map _ _ = _; decide +kernel, wd_609, wd_610, Or.inl ⟨by decide, rfl⟩⟩
theorem mf_140 : am_mf 140 := ⟨⟨wd_901, wd_154, ⟨by decide +kernel, by decide +kernel⟩, by decide +kernel, by decide +kernel, am_rokB_ok (by decide +kernel)⟩, by show Option.map _ _ = _; decide +kernel, wd_899, wd_900, Or.inl ⟨by decide, rfl⟩⟩
theorem mf_141 : am_mf 141 := ⟨⟨wd_524, wd_164, ⟨by decide +kernel, by decide +kernel⟩, by decide +kernel, by decide +kernel, am_rokB_ok (by decide +kernel)⟩, by show Option.map _ _ = _; decide +kernel, wd_523, rfl, rfl⟩
theorem mf_142 : am_mf 142 := ⟨⟨wd_1081, wd_164, ⟨by decide +kernel, by decide +kernel⟩, by decide +kernel, by decide +kernel, am_rokB_ok (by decide +kernel)⟩, by show Option.map _ _ = _; decide +kernel, wd_1079, wd_1080, Or.inl ⟨by decide, rfl⟩⟩
theorem mf_143 : am_mf 143 := ⟨⟨wd_1495, wd_167, ⟨by decide +kernel, by decide +kernel⟩, by decide +kernel, by decide +kernel, am_rokB_ok (by decide +kernel)⟩, by show Option.map _ _ = _; decide +kernel, wd_1494⟩
theorem mf_144 : am_mf 144 := ⟨⟨wd_1492, wd_164, ⟨by decide +kernel, by decide +kernel⟩, by decide +kernel, by decide +kernel, am_rokB_ok (by decide +kernel)⟩, by show Option.map _ _ = _; decide +kernel, wd_1490, wd_1491, Or.inl ⟨by decide, rfl⟩⟩
theorem mf_145 : am_mf 145 := ⟨⟨wd_1089, wd_164, ⟨by decide +kernel, by decide +kernel⟩, by decide +kernel, by decide +kernel, am_rokB_ok (by decide +kernel)⟩, by show Option.map _ _ = _; decide +kernel, wd_1087, wd_1088, Or.inl ⟨by decide, rfl⟩⟩
theorem mf_146 : am_mf 146 := ⟨⟨wd_1508, wd_164, ⟨by decide +kernel, by decide +kernel⟩, by decide +kernel, by decide +kernel, am_rokB_ok (by decide +kernel)⟩, by show Option.map _ _ = _; decide +kernel, wd_1507, wd_66, Or.inl ⟨by decide, rfl⟩⟩
theorem mf_147 : am_mf 147 := ⟨⟨wd_1504, wd_164, ⟨by decide +kernel, by decide +kernel⟩, by decide +kernel, by decide +kernel, am_rokB_ok (by decide +kernel)⟩, by show Option.map _ _ = _; decide +kernel, wd_1502, wd_1503, Or.inl ⟨by decide, rfl⟩⟩
theorem mf_148 : am_mf 148 := ⟨⟨wd_416, wd_161, ⟨by decide +kernel, by decide +kernel⟩, by decide +kernel, by decide +kernel, am_rokB_ok (by decide +kernel)⟩, by show Option.map _ _ = _; decide +kernel, wd_415, rfl, rfl⟩
theorem mf_149 : am_mf 149 := ⟨⟨wd_1308, wd_161, ⟨by decide +kernel, by decide +kernel⟩, by decide +kernel, by decide +kernel, am_rokB_ok (by decide +kernel)⟩, by show Option.map _ _ = _; decide +kernel, wd_1307, wd_54, Or.inl ⟨by decide, rfl⟩⟩
theorem mf_150 : am_mf 150 := ⟨⟨wd_1316, wd_161, ⟨by decide +kernel, by decide +kernel⟩, by decide +kernel, by decide +kernel, am_rokB_ok (by decide +kernel)⟩, by show Option.map _ _ = _; decide +kernel, wd_1315, wd_56, Or.inl ⟨by decide, rfl⟩⟩
theorem mf_151 : am_mf 151 := ⟨⟨wd_1319, wd_161, ⟨by decide +kernel, by decide +kernel⟩, by decide +kernel, by decide +kernel, am_rokB_ok (by decide +kernel)⟩, by show Option.map _ _ = _; decide +kernel, wd_1318⟩
theorem mf_152 : am_mf 152 := ⟨⟨wd_1322, wd_161, ⟨by decide +kernel, by decide +kernel⟩, by decide +kernel, by decide +kernel, am_rokB_ok (by decide +kernel)⟩, by show Option.map _ _ = _; decide +kernel, wd_1321⟩
theorem mf_153 : am_mf 153 := ⟨⟨wd_1312, wd_161, ⟨by decide +kernel, by decide +kernel⟩, by decide +kernel, by decide +kernel, am_rokB_ok (by decide +kernel)⟩, by show Option.map _ _ = _; decide +kernel, wd_1311, wd_55, Or.inl ⟨by decide, rfl⟩⟩
theorem mf_154 : am_mf 154 := ⟨⟨wd_1304, wd_161, ⟨by decide +kernel, by decide +kernel⟩, by decide +kernel, by decide +kernel, am_rokB_ok (by decide +kernel)⟩, by show Option.map _ _ = _; decide +kernel, wd_1303, wd_53, Or.inl ⟨by decide, rfl⟩⟩
theorem mf_155 : am_mf 155 := ⟨⟨wd_1297, wd_161, ⟨by decide +kernel, by decide +kernel⟩, by decide +kernel, by decide +kernel, am_rokB_ok (by decide +kernel)⟩, by show Option.map _ _ = _; decide +kernel, wd_1295, wd_1296, Or.inl ⟨by decide, rfl⟩⟩
theorem mf_156 : am_mf 156 := ⟨⟨wd_1338, wd_161, ⟨by decide +kernel, by decide +kernel⟩, by decide +kernel, by decide +kernel, am_rokB_ok (by decide +kernel)⟩, by show Option.map _ _ = _; decide +kernel, wd_1336, wd_1337, Or.inl ⟨by decide, rfl⟩⟩
theorem mf_157 : am_mf 157 := ⟨⟨wd_1293, wd_161, ⟨by decide +kernel, by decide +kernel⟩, by decide +kernel, by decide +kernel, am_rokB_ok (by decide +kernel)⟩, by show Option.map _ _ = _; decide +kernel, wd_1291, wd_1292, Or.inl ⟨by decide, rfl⟩⟩
theorem mf_158 : am_mf 158 := ⟨⟨wd_1450, wd_161, ⟨by decide +kernel, by decide +kernel⟩, by decide +kernel, by decide +kernel, am_rokB_ok (by decide +kernel)⟩, by show Option.map _ _ = _; decide +kernel, wd_1448, wd_1449, Or.inl ⟨by decide, rfl⟩⟩
theorem mf_159 : am_mf 159 := ⟨⟨wd_1350, wd_161, ⟨by decide +kernel, by decide +kernel⟩, by decide +kernel, by decide +kernel, am_rokB_ok (by decide +kernel)⟩, by show Option.map _ _ = _; decide +kernel, wd_1348, wd_1349, Or.inl ⟨by decide, rfl⟩⟩
theorem mf_160 : am_mf 160 := ⟨⟨wd_1356, wd_161, ⟨by decide +kernel, by decide +kernel⟩, by decide +kernel, by decide +kernel, am_rokB_ok (by decide +kernel)⟩, by show Option.map _ _ = _; decide +kernel, wd_1354, wd_1355, Or.inl ⟨by decide, rfl⟩⟩
theorem mf_161 : am_mf 161 := ⟨⟨wd_179, wd_153, ⟨by decide +kernel, by decide +kernel⟩, by decide +kernel, by decide +kernel, am_rokB_ok (by decide +kernel)⟩, by show Option.map _ _ = _; decide +kernel, wd_178, rfl, rfl⟩
theorem mf_162 : am_mf 162 := ⟨⟨wd_603, wd_153, ⟨by decide +kernel, by decide +kernel⟩, by decide +kernel, by decide +kernel, am_rokB_ok (by decide +kernel)⟩, by show Option.map _ _ = _; decide +kernel, wd_602, wd_0, Or.inl ⟨by decide, rfl⟩⟩
theorem mf_163 : am_mf 163 := ⟨⟨wd_599, wd_153, ⟨by decide +kernel, by decide +kernel⟩, by decide +kernel, by decide +kernel, am_rokB_ok (by decide +kernel)⟩, by show Option.map _ _ = _; decide +kernel, wd_597, wd_598, Or.inl ⟨by decide, rfl⟩⟩
theorem mf_164 : am_mf 164 := ⟨⟨wd_914, wd_153, ⟨by decide +kernel, by decide +kernel⟩, by decide +kernel, by decide +kernel, am_rokB_ok (by decide +kernel)⟩, by show Option.map _ _ = _; decide +kernel, wd_913, wd_31, Or.inl ⟨by decide, rfl⟩⟩
theorem mf_165 : am_mf 165 := ⟨⟨wd_607, wd_153, ⟨by decide +kernel, by decide +kernel⟩, by decide +kernel, by decide +kernel, am_rokB_ok (by decide +kernel)⟩, by show Option.map _ _ = _; decide +kernel, wd_605, wd_606, Or.inl ⟨by decide, rfl⟩⟩
theorem mf_166 : am_mf 166 := ⟨⟨wd_960, wd_153, ⟨by decide +kernel, by decide +kernel⟩, by decide +kernel, by decide +kernel, am_rokB_ok (by decide +kernel)⟩, by show Option.map _ _ = _; decide +kernel, wd_958, wd_959, Or.inl ⟨by decide, rfl⟩⟩
theorem mf_167 : am_mf 167 := ⟨⟨wd_964, wd_153, ⟨by decide +kernel, by decide +kernel⟩, by decide +kernel, by decide +kernel, am_rokB_ok (by decide +kernel)⟩, by show Option.map _ _ = _; decide +kernel, wd_962, wd_963, Or.inl ⟨by decide, rfl⟩⟩
theorem mf_168 : am_mf 168 := ⟨⟨wd_970, wd_153, ⟨by decide +kernel, by decide +kernel⟩, by decide +kernel, by decide +kernel, am_rokB_ok (by decide +kernel)⟩, by show Option.map _ _ = _; decide +kernel, wd_968, wd_969, Or.inl ⟨by decide, rfl⟩⟩
theorem mf_169 : am_mf 169 := ⟨⟨wd_979, wd_153, ⟨by decide +kernel, by decide +kernel⟩, by decide +kernel, by decide +kernel, am_rokB_ok (by decide +kernel)⟩, by show Option.map _ _ = _; decide +kernel, wd_977, wd_978, Or.inl ⟨by decide, rfl⟩⟩
theorem mf_170 : am_mf 170 := ⟨⟨wd_987, wd_153, ⟨by decide +kernel, by decide +kernel⟩, by decide +kernel, by decide +kernel, am_rokB_ok (by decide +kernel)⟩, by show Option.map _ _ = _; decide +kernel, wd_985, wd_986, Or.inl ⟨by decide, rfl⟩⟩
theorem mf_171 : am_mf 171 := ⟨⟨wd_992, wd_153, ⟨by decide +kernel, by decide +kernel⟩, by decide +kernel, by decide +kernel, am_rokB_ok (by decide +kernel)⟩, by show Option.map _ _ = _; decide +kernel, wd_990, wd_991, Or.inl ⟨by decide, rfl⟩⟩
theorem mf_172 : am_mf 172 := ⟨⟨wd_1000, wd_153, ⟨by decide +kernel, by decide +kernel⟩, by decide +kernel, by decide +kernel, am_rokB_ok (by decide +kernel)⟩, by show Option.map _ _ = _; decide +kernel, wd_998, wd_999, Or.inl ⟨by decide, rfl⟩⟩
theorem mf_173 : am_mf 173 := ⟨⟨wd_1008, wd_153, ⟨by decide +kernel, by decide +kernel⟩, by decide +kernel, by decide +kernel, am_rokB_ok (by decide +kernel)⟩, by show Option.map _ _ = _; decide +kernel, wd_1006, wd_1007, Or.inl ⟨by decide, rfl⟩⟩
theorem mf_174 : am_mf 174 := ⟨⟨wd_1027, wd_153, ⟨by decide +kernel, by decide +kernel⟩, by decide +kernel, by decide +kernel, am_rokB_ok (by decide +kernel)⟩, by show Option.map _ _ = _; decide +kernel, wd_1026, wd_37, Or.inl ⟨by decide, rfl⟩⟩
theorem mf_175 : am_mf 175 := ⟨⟨wd_1023, wd_153, ⟨by decide +kernel, by decide +kernel⟩, by decide +kernel, by decide +kernel, am_rokB_ok (by decide +kernel)⟩, by show Option.map _ _ = _; decide +kernel, wd_1022, wd_36, Or.inl ⟨by decide, rfl⟩⟩
theorem mf_176 : am_mf 176 := ⟨⟨wd_1012, wd_153, ⟨by decide +kernel, by decide +kernel⟩, by decide +kernel, by decide +kernel, am_rokB_ok (by decide +kernel)⟩, by show Option.map _ _ = _; decide +kernel, wd_1010, wd_1011, Or.inl ⟨by decide, rfl⟩⟩
theorem mf_177 : am_mf 177 := ⟨⟨wd_1037, wd_153, ⟨by decide +kernel, by decide +kernel⟩, by decide +kernel, by decide +kernel, am_rokB_ok (by decide +kernel)⟩, by show Option.map _ _ = _; decide +kernel, wd_1035, wd_1036, Or.inl ⟨by decide, rfl⟩⟩
theorem mf_178 : am_mf 178 := ⟨⟨wd_1045, wd_153, ⟨by decide +kernel, by decide +kernel⟩, by decide +kernel, by decide +kernel, am_rokB_ok (by decide +kernel)⟩, by show Option.map _ _ = _; decide +kernel, wd_1043, wd_1044, Or.inl ⟨by decide, rfl⟩⟩
theorem mf_179 : am_mf 179 := ⟨⟨wd_1053, wd_153, ⟨by decide +kernel, by decide +kernel⟩, by decide +kernel, by decide +kernel, am_rokB_ok (by decide +kernel)⟩, by show Option.map _ _ = _; decide +kernel, wd_1051, wd_1052, Or.inl ⟨by decide, rfl⟩⟩
theorem mf_180 : am_mf 180 := ⟨⟨wd_1058, wd_153, ⟨by decide +kernel, by decide +kernel⟩, by decide +kernel, by decide +kernel, am_rokB_ok (by decide +kernel)⟩, by show Option.map _ _ = _; decide +kernel, wd_1056, wd_1057, Or.inl ⟨by decide, rfl⟩⟩
theorem mf_181 : am_mf 181 := ⟨⟨wd_1066, wd_153, ⟨by decide +kernel, by decide +kernel⟩, by decide +kernel, by decide +kernel, am_rokB_ok (by decide +kernel)⟩, by show Option.map _ _ = _; decide +kernel, wd_1064, wd_1065, Or.inl ⟨by decide, rfl⟩⟩
theorem mf_182 : am_mf 182 := ⟨⟨wd_1077, wd_153, ⟨by decide +kernel, by decide +kernel⟩, by decide +kernel, by decide +kernel, am_rokB_ok (by decide +kernel)⟩, by show Option.map _ _ = _; decide +kernel, wd_1076⟩
theorem mf_183 : am_mf 183 := ⟨⟨wd_1085, wd_153, ⟨by decide +kernel, by decide +kernel⟩, by decide +kernel, by decide +kernel, am_rokB_ok (by decide +kernel)⟩, by show Option.map _ _ = _; decide +kernel, wd_1084, wd_38, Or.inl ⟨by decide, rfl⟩⟩
theorem mf_184 : am_mf 184 := ⟨⟨wd_1074, wd_153, ⟨by decide +kernel, by decide +kernel⟩, by decide +kernel, by decide +kernel, am_rokB_ok (by decide +kernel)⟩, by show Option.map _ _ = _; decide +kernel, wd_1072, wd_1073, Or.inl ⟨by decide, rfl⟩⟩
theorem mf_185 : am_mf 185 := ⟨⟨wd_1116, wd_153, ⟨by decide +kernel, by decide +kernel⟩, by decide +kernel, by decide +kernel, am_rokB_ok (by decide +kernel)⟩, by show Option.map _ _ = _; decide +kernel, wd_1115, wd_39, Or.inl ⟨by decide, rfl⟩⟩
theorem mf_186 : am_mf 186 := ⟨⟨wd_1112, wd_153, ⟨by decide +kernel, by decide +kernel⟩, by decide +kernel, by decide +kernel, am_rokB_ok (by decide +kernel)⟩, by show Option.map _ _ = _; decide +kernel, wd_1110, wd_1111, Or.inl ⟨by decide, rfl⟩⟩
theorem mf_187 : am_mf 187 := ⟨⟨wd_1123, wd_153, ⟨by decide +kernel, by decide +kernel⟩, by decide +kernel, by decide +kernel, am_rokB_ok (by decide +kernel)⟩, by show Option.map _ _ = _; decide +kernel, wd_1122⟩
theorem mf_188 : am_mf 188 := ⟨⟨wd_1127, wd_153, ⟨by decide +kernel, by decide +kernel⟩, by decide +kernel, by decide +kernel, am_rokB_ok (by decide +kernel)⟩, by show Option.map _ _ = _; decide +kernel, wd_1126⟩
theorem mf_189 : am_mf 189 := ⟨⟨wd_1120, wd_153, ⟨by decide +kernel, by decide +kernel⟩, by decide +kernel, by decide +kernel, am_rokB_ok (by decide +kernel)⟩, by show Option.map _ _ = _; decide +kernel, wd_1118, wd_1119, Or.inl ⟨by decide, rfl⟩⟩
theorem mf_190 : am_mf 190 := ⟨⟨wd_1135, wd_153, ⟨by decide +kernel, by decide +kernel⟩, by decide +kernel, by decide +kernel, am_rokB_ok (by decide +kernel)⟩, by show Option.map _ _ = _; decide +kernel, wd_1134, wd_40, Or.inl ⟨by decide, rfl⟩⟩
theorem mf_191 : am_mf 191 := ⟨⟨wd_1131, wd_153, ⟨by decide +kernel, by decide +kernel⟩, by decide +kernel, by decide +kernel, am_rokB_ok (by decide +kernel)⟩, by show Option.map _ _ = _; decide +kernel, wd_1129, wd_1130, Or.inl ⟨by decide, rfl⟩⟩
theorem mf_192 : am_mf 192 := ⟨⟨wd_1170, wd_153, ⟨by decide +kernel, by decide +kernel⟩, by decide +kernel, by decide +kernel, am_rokB_ok (by decide +kernel)⟩, by show Option.map _ _ = _; decide +kernel, wd_1168, wd_1169, Or.inl ⟨by decide, rfl⟩⟩
theorem mf_193 : am_mf 193 := ⟨⟨wd_1182, wd_153, ⟨by decide +kernel, by decide +kernel⟩, by decide +kernel, by decide +kernel, am_rokB_ok (by decide +kernel)⟩, by show Option.map _ _ = _; decide +kernel, wd_1180, wd_1181, Or.inl ⟨by decide, rfl⟩⟩
theorem mf_194 : am_mf 194 := ⟨⟨wd_1211, wd_153, ⟨by decide +kernel, by decide +kernel⟩, by decide +kernel, by decide +kernel, am_rokB_ok (by decide +kernel)⟩, by show Option.map _ _ = _; decide +kernel, wd_1209, wd_1210, Or.inl ⟨by decide, rfl⟩⟩
theorem mf_195 : am_mf 195 := ⟨⟨wd_1223, wd_153, ⟨by decide +kernel, by decide +kernel⟩, by decide +kernel, by decide +kernel, am_rokB_ok (by decide +kernel)⟩, by show Option.map _ _ = _; decide +kernel, wd_1221, wd_1222, Or.inl ⟨by decide, rfl⟩⟩
theorem mf_196 : am_mf 196 := ⟨⟨wd_1236, wd_153, ⟨by decide +kernel, by decide +kernel⟩, by decide +kernel, by decide +kernel, am_rokB_ok (by decide +kernel)⟩, by show Option.map _ _ = _; decide +kernel, wd_1235⟩
theorem mf_197 : am_mf 197 := ⟨⟨wd_1233, wd_153, ⟨by decide +kernel, by decide +kernel⟩, by decide +kernel, by decide +kernel, am_rokB_ok (by decide +kernel)⟩, by show Option.map _ _ = _; decide +kernel, wd_1231, wd_1232, Or.inl ⟨by decide, rfl⟩⟩
theorem mf_198 : am_mf 198 := ⟨⟨wd_1272, wd_153, ⟨by decide +kernel, by decide +kernel⟩, by decide +kernel, by decide +kernel, am_rokB_ok (by decide +kernel)⟩, by show Option.map _ _ = _; decide +kernel, wd_1270, wd_1271, Or.inl ⟨by decide, rfl⟩⟩
theorem mf_199 : am_mf 199 := ⟨⟨wd_1282, wd_153, ⟨by decide +kernel, by decide +kernel⟩, by decide +kernel, by decide +kernel, am_rokB_ok (by decide +kernel)⟩, by show Option.map _ _ = _; decide +kernel, wd_1281, wd_52, Or.inl ⟨by decide, rfl⟩⟩
theorem mf_200 : am_mf 200 := ⟨⟨wd_1278, wd_153, ⟨by decide +kernel, by decide +kernel⟩, by decide +kernel, by decide +kernel, am_rokB_ok (by decide +kernel)⟩, by show Option.map _ _ = _; decide +kernel, wd_1276, wd_1277, Or.inl ⟨by decide, rfl⟩⟩
theorem mf_201 : am_mf 201 := ⟨⟨wd_1287, wd_153, ⟨by decide +kernel, by decide +kernel⟩, by decide +kernel, by decide +kernel, am_rokB_ok (by decide +kernel)⟩, by show Option.map _ _ = _; decide +kernel, wd_1285, wd_1286, Or.inl ⟨by decide, rfl⟩⟩
theorem mf_202 : am_mf 202 := ⟨⟨wd_1333, wd_153, ⟨by decide +kernel, by decide +kernel⟩, by decide +kernel, by decide +kernel, am_rokB_ok (by decide +kernel)⟩, by show Option.map _ _ = _; decide +kernel, wd_1331, wd_1332, Or.inl ⟨by decide, rfl⟩⟩
theorem mf_203 : am_mf 203 := ⟨⟨wd_1342, wd_153, ⟨by decide +kernel, by decide +kernel⟩, by decide +kernel, by decide +kernel, am_rokB_ok (by decide +kernel)⟩, by show Option.map _ _ = _; decide +kernel, wd_1340, wd_1341, Or.inl ⟨by decide, rfl⟩⟩
theorem mf_204 : am_mf 204 := ⟨⟨wd_1346, wd_153, ⟨by decide +kernel, by decide +kernel⟩, by decide +kernel, by decide +kernel, am_rokB_ok (by decide +kernel)⟩, by show Option.map _ _ = _; decide +kernel, wd_1344, wd_1345, Or.inl ⟨by decide, rfl⟩⟩
theorem mf_205 : am_mf 205 := ⟨⟨wd_1361, wd_153, ⟨by decide +kernel, by decide +kernel⟩, by decide +kernel, by decide +kernel, am_rokB_ok (by decide +kernel)⟩, by show Option.map _ _ = _; decide +kernel, wd_1359, wd_1360, Or.inl ⟨by decide, rfl⟩⟩
theorem mf_206 : am_mf 206 := ⟨⟨wd_1365, wd_153, ⟨by decide +kernel, by decide +kernel⟩, by decide +kernel, by decide +kernel, am_rokB_ok (by decide +kernel)⟩, by show Option.map _ _ = _; decide +kernel, wd_1363, wd_1364, Or.inl ⟨by decide, rfl⟩⟩
theorem mf_207 : am_mf 207 := ⟨⟨wd_1373, wd_153, ⟨by decide +kernel, by decide +kernel⟩, by decide +kernel, by decide +kernel, am_rokB_ok (by decide +kernel)⟩, by show Option.map _ _ = _; decide +kernel, wd_1372, wd_57, Or.inl ⟨by decide, rfl⟩⟩
theorem mf_208 : am_mf 208 := ⟨⟨wd_1369, wd_153, ⟨by decide +kernel, by decide +kernel⟩, by decide +kernel, by decide +kernel, am_rokB_ok (by decide +kernel)⟩, by show Option.map _ _ = _; decide +kernel, wd_1367, wd_1368, Or.inl ⟨by decide, rfl⟩⟩
theorem mf_209 : am_mf 209 := ⟨⟨wd_1378, wd_153, ⟨by decide +kernel, by decide +kernel⟩, by decide +kernel, by decide +kernel, am_rokB_ok (by decide +kernel)⟩, by show Option.map _ _ = _; decide +kernel, wd_1376, wd_1377, Or.inl ⟨by decide, rfl⟩⟩
theorem mf_210 : am_mf 210 := ⟨⟨wd_1386, wd_153, ⟨by decide +kernel, by decide +kernel⟩, by decide +kernel, by decide +kernel, am_rokB_ok (by decide +kernel)⟩, by show Option.map _ _ = _; decide +kernel, wd_1385, wd_58, Or.inl ⟨by decide, rfl⟩⟩
theorem mf_211 : am_mf 211 := ⟨⟨wd_1382, wd_153, ⟨by decide +kernel, by decide +kernel⟩, by decide +kernel, by decide +kernel, am_rokB_ok (by decide +kernel)⟩, by show Option.map _ _ = _; decide +kernel, wd_1380, wd_1381, Or.inl ⟨by decide, rfl⟩⟩
theorem mf_212 : am_mf 212 := ⟨⟨wd_1390, wd_153, ⟨by decide +kernel, by decide +kernel⟩, by decide +kernel, by decide +kernel, am_rokB_ok (by decide +kernel)⟩, by show Option.map _ _ = _; decide +kernel, wd_1388, wd_1389, Or.inl ⟨by decide, rfl⟩⟩
theorem mf_213 : am_mf 213 := ⟨⟨wd_1417, wd_153, ⟨by decide +kernel, by decide +kernel⟩, by decide +kernel, by decide +kernel, am_rokB_ok (by decide +kernel)⟩, by show Option.map _ _ = _; decide +kernel, wd_1415, wd_1416, Or.inl ⟨by decide, rfl⟩⟩
theorem mf_214 : am_mf 214 := ⟨⟨wd_1433, wd_153, ⟨by decide +kernel, by decide +kernel⟩, by decide +kernel, by decide +kernel, am_rokB_ok (by decide +kernel)⟩, by show Option.map _ _ = _; decide +kernel, wd_1432, wd_62, Or.inl ⟨by decide, rfl⟩⟩
theorem mf_215 : am_mf 215 := ⟨⟨wd_1429, wd_153, ⟨by decide +kernel, by decide +kernel⟩, by decide +kernel, by decide +kernel, am_rokB_ok (by decide +kernel)⟩, by show Option.map _ _ = _; decide +kernel, wd_1428, wd_61, Or.inl ⟨by decide, rfl⟩⟩
theorem mf_216 : am_mf 216 := ⟨⟨wd_1441, wd_153, ⟨by decide +kernel, by decide +kernel⟩, by decide +kernel, by decide +kernel, am_rokB_ok (by decide +kernel)⟩, by show Option.map _ _ = _; decide +kernel, wd_1440, wd_63, Or.inl ⟨by decide, rfl⟩⟩
theorem mf_217 : am_mf 217 := ⟨⟨wd_1425, wd_153, ⟨by decide +kernel, by decide +kernel⟩, by decide +kernel, by decide +kernel, am_rokB_ok (by decide +kernel)⟩, by show Option.map _ _ = _; decide +kernel, wd_1423, wd_1424, Or.inl ⟨by decide, rfl⟩⟩
theorem mf_218 : am_mf 218 := ⟨⟨wd_1446, wd_153, ⟨by decide +kernel, by decide +kernel⟩, by decide +kernel, by decide +kernel, am_rokB_ok (by decide +kernel)⟩, by show Option.map _ _ = _; decide +kernel, wd_1444, wd_1445, Or.inl ⟨by decide, rfl⟩⟩
theorem mf_219 : am_mf 219 := ⟨⟨wd_1459, wd_153, ⟨by decide +kernel, by decide +kernel⟩, by decide +kernel, by decide +kernel, am_rokB_ok (by decide +kernel)⟩, by show Option.map _ _ = _; decide +kernel, wd_1458⟩
theorem mf_220 : am_mf 220 := ⟨⟨wd_1480, wd_153, ⟨by decide +kernel, by decide +kernel⟩, by decide +kernel, by decide +kernel, am_rokB_ok (by decide +kernel)⟩, by show Option.map _ _ = _; decide +kernel, wd_1479⟩
theorem mf_221 : am_mf 221 := ⟨⟨wd_1456, wd_153, ⟨by decide +kernel, by decide +kernel⟩, by decide +kernel, by decide +kernel, am_rokB_ok (by decide +kernel)⟩, by show Option.map _ _ = _; decide +kernel, wd_1454, wd_1455, Or.inl ⟨by decide, rfl⟩⟩
theorem mf_222 : am_mf 222 := ⟨⟨wd_1484, wd_153, ⟨by decide +kernel, by decide +kernel⟩, by decide +kernel, by decide +kernel, am_rokB_ok (by decide +kernel)⟩, by show Option.map _ _ = _; decide +kernel, wd_1482, wd_1483, Or.inl ⟨by decide, rfl⟩⟩
theorem mf_223 : am_mf 223 := ⟨⟨wd_1488, wd_153, ⟨by decide +kernel, by decide +kernel⟩, by decide +kernel, by decide +kernel, am_rokB_ok (by decide +kernel)⟩, by show Option.map _ _ = _; decide +kernel, wd_1486, wd_1487, Or.inl ⟨by decide, rfl⟩⟩
theorem mf_224 : am_mf 224 := ⟨⟨wd_1499, wd_153, ⟨by decide +kernel, by decide +kernel⟩, by decide +kernel, by decide +kernel, am_rokB_ok (by decide +kernel)⟩, by show Option.map _ _ = _; decide +kernel, wd_1497, wd_1498, Or.inl ⟨by decide, rfl⟩⟩
theorem mf_225 : am_mf 225 := ⟨⟨wd_1512, wd_153, ⟨by decide +kernel, by decide +kernel⟩, by decide +kernel, by decide +kernel, am_rokB_ok (by decide +kernel)⟩, by show Option.map _ _ = _; decide +kernel, wd_1510, wd_1511, Or.inl ⟨by decide, rfl⟩⟩
theorem mf_226 : am_mf 226 := ⟨⟨wd_1517, wd_153, ⟨by decide +kernel, by decide +kernel⟩, by decide +kernel, by decide +kernel, am_rokB_ok (by decide +kernel)⟩, by show Option.map _ _ = _; decide +kernel, wd_1515, wd_1516, Or.inl ⟨by decide, rfl⟩⟩
theorem mf_227 : am_mf 227 := ⟨⟨wd_1526, wd_153, ⟨by decide +kernel, by decide +kernel⟩, by decide +kernel, by decide +kernel, am_rokB_ok (by decide +kernel)⟩, by show Option.map _ _ = _; decide +kernel, wd_1524, wd_1525, Or.inl ⟨by decide, rfl⟩⟩
theorem mf_228 : am_mf 228 := ⟨⟨wd_1530, wd_153, ⟨by decide +kernel, by decide +kernel⟩, by decide +kernel, by decide +kernel, am_rokB_ok (by decide +kernel)⟩, by show Option.map _ _ = _; decide +kernel, wd_1528, wd_1529, Or.inl ⟨by decide, rfl⟩⟩
theorem mf_229 : am_mf 229 := ⟨⟨wd_1688, wd_165, ⟨by decide +kernel, by decide +kernel⟩, by decide +kernel, by decide +kernel, am_rokB_ok (by decide +kernel)⟩, by show Option.map _ _ = _; decide +kernel, wd_1687⟩
theorem mf_230 : am_mf 230 := ⟨⟨wd_1543, wd_165, ⟨by decide +kernel, by decide +kernel⟩, by decide +kernel, by decide +kernel, am_rokB_ok (by decide +kernel)⟩, by show Option.map _ _ = _; decide +kernel, wd_1542⟩
theorem mf_231 : am_mf 231 := ⟨⟨wd_1539, wd_165, ⟨by decide +kernel, by decide +kernel⟩, by decide +kernel, by decide +kernel, am_rokB_ok (by decide +kernel)⟩, by show Option.map _ _ = _; decide +kernel, wd_1538, rfl, rfl⟩
theorem mf_232 : am_mf 232 := ⟨⟨wd_1681, wd_165, ⟨by decide +kernel, by decide +kernel⟩, by decide +kernel, by decide +kernel, am_rokB_ok (by decide +kernel)⟩, by show Option.map _ _ = _; decide +kernel, wd_1679, wd_1680, Or.inl ⟨by decide, rfl⟩⟩
theorem mf_233 : am_mf 233 := ⟨⟨wd_1696, wd_165, ⟨by decide +kernel, by decide +kernel⟩, by decide +kernel, by decide +kernel, am_rokB_ok (by decide +kernel)⟩, by show Option.map _ _ = _; decide +kernel, wd_1695, wd_68, Or.inl ⟨by decide, rfl⟩⟩
theorem mf_234 : am_mf 234 := ⟨⟨wd_1699, wd_165, ⟨by decide +kernel, by decide +kernel⟩, by decide +kernel, by decide +kernel, am_rokB_ok (by decide +kernel)⟩, by show Option.map _ _ = _; decide +kernel, wd_1698⟩
theorem mf_235 : am_mf 235 := ⟨⟨wd_1709, wd_165, ⟨by decide +kernel, by decide +kernel⟩, by decide +kernel, by decide +kernel, am_rokB_ok (by decide +kernel)⟩, by show Option.map _ _ = _; decide +kernel, wd_1708⟩
theorem mf_236 : am_mf 236 := ⟨⟨wd_1703, wd_165, ⟨by decide +kernel, by decide +kernel⟩, by decide +kernel, by decide +kernel, am_rokB_ok (by decide +kernel)⟩, by show Option.map _ _ = _; decide +kernel, wd_1702, wd_69, Or.inl ⟨by decide, rfl⟩⟩
theorem mf_237 : am_mf 237 := ⟨⟨wd_1692, wd_165, ⟨by decide +kernel, by decide +kernel⟩, by decide +kernel, by decide +kernel, am_rokB_ok (by decide +kernel)⟩, by show Option.map _ _ = _; decide +kernel, wd_1691, wd_67, Or.inl ⟨by decide, rfl⟩⟩
theorem mf_238 : am_mf 238 := ⟨⟨wd_1722, wd_165, ⟨by decide +kernel, by decide +kernel⟩, by decide +kernel, by decide +kernel, am_rokB_ok (by decide +kernel)⟩, by show Option.map _ _ = _; decide +kernel, wd_1721, wd_72, Or.inl ⟨by decide, rfl⟩⟩
theorem mf_239 : am_mf 239 := ⟨⟨wd_1718, wd_165, ⟨by decide +kernel, by decide +kernel⟩, by decide +kernel, by decide +kernel, am_rokB_ok (by decide +kernel)⟩, by show Option.map _ _ = _; decide +kernel, wd_1717, wd_71, Or.inl ⟨by decide, rfl⟩⟩
theorem mf_240 : am_mf 240 := ⟨⟨wd_1714, wd_165, ⟨by decide +kernel, by decide +kernel⟩, by decide +kernel, by decide +kernel, am_rokB_ok (by decide +kernel)⟩, by show Option.map _ _ = _; decide +kernel, wd_1713, wd_70, Or.inl ⟨by decide, rfl⟩⟩
theorem mf_241 : am_mf 241 := ⟨⟨wd_1730, wd_165, ⟨by decide +kernel, by decide +kernel⟩, by decide +kernel, by decide +kernel, am_rokB_ok (by decide +kernel)⟩, by show Option.map _ _ = _; decide +kernel, wd_1729, wd_74, Or.inl ⟨by decide, rfl⟩⟩
theorem mf_242 : am_mf 242 := ⟨⟨wd_1873, wd_165, ⟨by decide +kernel, by decide +kernel⟩, by decide +kernel, by decide +kernel, am_rokB_ok (by decide +kernel)⟩, by show Option.map _ _ = _; decide +kernel, wd_1872⟩
theorem mf_243 : am_mf 243 := ⟨⟨wd_1774, wd_165, ⟨by decide +kernel, by decide +kernel⟩, by decide +kernel, by decide +kernel, am_rokB_ok (by decide +kernel)⟩, by show Option.map _ _ = _; decide +kernel, wd_1773, wd_85, Or.inl ⟨by decide, rfl⟩⟩
theorem mf_244 : am_mf 244 := ⟨⟨wd_1770, wd_165, ⟨by decide +kernel, by decide +kernel⟩, by decide +kernel, by decide +kernel, am_rokB_ok (by decide +kernel)⟩, by show Option.map _ _ = _; decide +kernel, wd_1769, wd_84, Or.inl ⟨by decide, rfl⟩⟩
theorem mf_245 : am_mf 245 := ⟨⟨wd_1778, wd_165, ⟨by decide +kernel, by decide +kernel⟩, by decide +kernel, by decide +kernel, am_rokB_ok (by decide +kernel)⟩, by show Option.map _ _ = _; decide +kernel, wd_1777, wd_86, Or.inl ⟨by decide, rfl⟩⟩
theorem mf_246 : am_mf 246 := ⟨⟨wd_1766, wd_165, ⟨by decide +kernel, by decide +kernel⟩, by decide +kernel, by decide +kernel, am_rokB_ok (by decide +kernel)⟩, by show Option.map _ _ = _; decide +kernel, wd_1765, wd_83, Or.inl ⟨by decide, rfl⟩⟩
theorem mf_247 : am_mf 247 := ⟨⟨wd_1790, wd_165, ⟨by decide +kernel, by decide +kernel⟩, by decide +kernel, by decide +kernel, am_rokB_ok (by decide +kernel)⟩, by show Option.map _ _ = _; decide +kernel, wd_1789, wd_89, Or.inl ⟨by decide, rfl⟩⟩
theorem mf_248 : am_mf 248 := ⟨⟨wd_1782, wd_165, ⟨by decide +kernel, by decide +kernel⟩, by decide +kernel, by decide +kernel, am_rokB_ok (by decide +kernel)⟩, by show Option.map _ _ = _; decide +kernel, wd_1781, wd_87, Or.inl ⟨by decide, rfl⟩⟩
theorem mf_249 : am_mf 249 := ⟨⟨wd_1758, wd_165, ⟨by decide +kernel, by decide +kernel⟩, by decide +kernel, by decide +kernel, am_rokB_ok (by decide +kernel)⟩, by show Option.map _ _ = _; decide +kernel, wd_1757, wd_81, Or.inl ⟨by decide, rfl⟩⟩
theorem mf_250 : am_mf 250 := ⟨⟨wd_1762, wd_165, ⟨by decide +kernel, by decide +kernel⟩, by decide +kernel, by decide +kernel, am_rokB_ok (by decide +kernel)⟩, by show Option.map _ _ = _; decide +kernel, wd_1761, wd_82, Or.inl ⟨by decide, rfl⟩⟩
theorem mf_251 : am_mf 251 := ⟨⟨wd_1786, wd_165, ⟨by decide +kernel, by decide +kernel⟩, by decide +kernel, by decide +kernel, am_rokB_ok (by decide +kernel)⟩, by show Option.map _ _ = _; decide +kernel, wd_1785, wd_88, Or.inl ⟨by decide, rfl⟩⟩
theorem mf_252 : am_mf 252 := ⟨⟨wd_1794, wd_165, ⟨by decide +kernel, by decide +kernel⟩, by decide +kernel, by decide +kernel, am_rokB_ok (by decide +kernel)⟩, by show Option.map _ _ = _; decide +kernel, wd_1793, wd_90, Or.inl ⟨by decide, rfl⟩⟩
theorem mf_253 : am_mf 253 := ⟨⟨wd_1726, wd_165, ⟨by decide +kernel, by decide +kernel⟩, by decide +kernel, by decide +kernel, am_rokB_ok (by decide +kernel)⟩, by show Option.map _ _ = _; decide +kernel, wd_1725, wd_73, Or.inl ⟨by decide, rfl⟩⟩
theorem mf_254 : am_mf 254 := ⟨⟨wd_1746, wd_165, ⟨by decide +kernel, by decide +kernel⟩, by decide +kernel, by decide +kernel, am_rokB_ok (by decide +kernel)⟩, by show Option.map _ _ = _; decide +kernel, wd_1745, wd_78, Or.inl ⟨by decide, rfl⟩⟩
theorem mf_255 : am_mf 255 := ⟨⟨wd_1742, wd_165, ⟨by decide +kernel, by decide +kernel⟩, by decide +kernel, by decide +kernel, am_rokB_ok (by decide +kernel)⟩, by show Option.map _ _ = _; decide +kernel, wd_1741, wd_77, Or.inl ⟨by decide, rfl⟩⟩
theorem mf_256 : am_mf 256 := ⟨⟨wd_1750, wd_165, ⟨by decide +kernel, by decide +kernel⟩, by decide +kernel, by decide +kernel, am_rokB_ok (by decide +kernel)⟩, by show Option.map _ _ = _; decide +kernel, wd_1749, wd_79, Or.inl ⟨by decide, rfl⟩⟩
theorem mf_257 : am_mf 257 := ⟨⟨wd_1754, wd_165, ⟨by decide +kernel, by decide +kernel⟩, by decide +kernel, by decide +kernel, am_rokB_ok (by decide +kernel)⟩, by show Option.map _ _ = _; decide +kernel, wd_1753, wd_80, Or.inl ⟨by decide, rfl⟩⟩
theorem mf_258 : am_mf 258 := ⟨⟨wd_1738, wd_165, ⟨by decide +kernel, by decide +kernel⟩, by decide +kernel, by decide +kernel, am_rokB_ok (by decide +kernel)⟩, by show Option.map _ _ = _; decide +kernel, wd_1737, wd_76, Or.inl ⟨by decide, rfl⟩⟩
theorem mf_259 : am_mf 259 := ⟨⟨wd_1734, wd_165, ⟨by decide +kernel, by decide +kernel⟩, by decide +kernel, by decide +kernel, am_rokB_ok (by decide +kernel)⟩, by show Option.map _ _ = _; decide +kernel, wd_1733, wd_75, Or.inl ⟨by decide, rfl⟩⟩
theorem mf_260 : am_mf 260 := ⟨⟨wd_1685, wd_165, ⟨by decide +kernel, by decide +kernel⟩, by decide +kernel, by decide +kernel, am_rokB_ok (by decide +kernel)⟩, by show Option.map _ _ = _; decide +kernel, wd_1683, wd_1684, Or.inl ⟨by decide, rfl⟩⟩
theorem mf_261 : am_mf 261 := ⟨⟨wd_1798, wd_165, ⟨by decide +kernel, by decide +kernel⟩, by decide +kernel, by decide +kernel, am_rokB_ok (by decide +kernel)⟩, by show Option.map _ _ = _; decide +kernel, wd_1796, wd_1797, Or.inl ⟨by decide, rfl⟩⟩
theorem mf_262 : am_mf 262 := ⟨⟨wd_1806, wd_165, ⟨by decide +kernel, by decide +kernel⟩, by decide +kernel, by decide +kernel, am_rokB_ok (by decide +kernel)⟩, by show Option.map _ _ = _; decide +kernel, wd_1805, wd_91, Or.inl ⟨by decide, rfl⟩⟩
theorem mf_263 : am_mf 263 := ⟨⟨wd_1817, wd_165, ⟨by decide +kernel, by decide +kernel⟩, by decide +kernel, by decide +kernel, am_rokB_ok (by decide +kernel)⟩, by show Option.map _ _ = _; decide +kernel, wd_1816⟩
theorem mf_264 : am_mf 264 := ⟨⟨wd_1810, wd_165, ⟨by decide +kernel, by decide +kernel⟩, by decide +kernel, by decide +kernel, am_rokB_ok (by decide +kernel)⟩, by show Option.map _ _ = _; decide +kernel, wd_1809, wd_92, Or.inl ⟨by decide, rfl⟩⟩
theorem mf_265 : am_mf 265 := ⟨⟨wd_1885, wd_165, ⟨by decide +kernel, by decide +kernel⟩, by decide +kernel, by decide +kernel, am_rokB_ok (by decide +kernel)⟩, by show Option.map _ _ = _; decide +kernel, wd_1884, wd_102, Or.inl ⟨by decide, rfl⟩⟩
theorem mf_266 : am_mf 266 := ⟨⟨wd_1842, wd_165, ⟨by decide +kernel, by decide +kernel⟩, by decide +kernel, by decide +kernel, am_rokB_ok (by decide +kernel)⟩, by show Option.map _ _ = _; decide +kernel, wd_1841, wd_97, Or.inl ⟨by decide, rfl⟩⟩
theorem mf_267 : am_mf 267 := ⟨⟨wd_1846, wd_165, ⟨by decide +kernel, by decide +kernel⟩, by decide +kernel, by decide +kernel, am_rokB_ok (by decide +kernel)⟩, by show Option.map _ _ = _; decide +kernel, wd_1845, wd_98, Or.inl ⟨by decide, rfl⟩⟩
theorem mf_268 : am_mf 268 := ⟨⟨wd_1838, wd_165, ⟨by decide +kernel, by decide +kernel⟩, by decide +kernel, by decide +kernel, am_rokB_ok (by decide +kernel)⟩, by show Option.map _ _ = _; decide +kernel, wd_1837, wd_96, Or.inl ⟨by decide, rfl⟩⟩
theorem mf_269 : am_mf 269 := ⟨⟨wd_1834, wd_165, ⟨by decide +kernel, by decide +kernel⟩, by decide +kernel, by decide +kernel, am_rokB_ok (by decide +kernel)⟩, by show Option.map _ _ = _; decide +kernel, wd_1833, wd_95, Or.inl ⟨by decide, rfl⟩⟩
theorem mf_270 : am_mf 270 := ⟨⟨wd_1830, wd_165, ⟨by decide +kernel, by decide +kernel⟩, by decide +kernel, by decide +kernel, am_rokB_ok (by decide +kernel)⟩, by show Option.map _ _ = _; decide +kernel, wd_1829, wd_94, Or.inl ⟨by decide, rfl⟩⟩
theorem mf_271 : am_mf 271 := ⟨⟨wd_1826, wd_165, ⟨by decide +kernel, by decide +kernel⟩, by decide +kernel, by decide +kernel, am_rokB_ok (by decide +kernel)⟩, by show Option.map _ _ = _; decide +kernel, wd_1825, wd_93, Or.inl ⟨by decide, rfl⟩⟩
theorem mf_272 : am_mf 272 := ⟨⟨wd_1858, wd_165, ⟨by decide +kernel, by decide +kernel⟩, by decide +kernel, by decide +kernel, am_rokB_ok (by decide +kernel)⟩, by show Option.map _ _ = _; decide +kernel, wd_1857, wd_99, Or.inl ⟨by decide, rfl⟩⟩
theorem mf_273 : am_mf 273 := ⟨⟨wd_1978, wd_165, ⟨by decide +kernel, by decide +kernel⟩, by decide +kernel, by decide +kernel, am_rokB_ok (by decide +kernel)⟩, by show Option.map _ _ = _; decide +kernel, wd_1977, wd_116, Or.inl ⟨by decide, rfl⟩⟩
theorem mf_274 : am_mf 274 := ⟨⟨wd_2023, wd_165, ⟨by decide +kernel, by decide +kernel⟩, by decide +kernel, by decide +kernel, am_rokB_ok (by decide +kernel)⟩, by show Option.map _ _ = _; decide +kernel, wd_2022⟩
theorem mf_275 : am_mf 275 := ⟨⟨wd_1802, wd_165, ⟨by decide +kernel, by decide +kernel⟩, by decide +kernel, by decide +kernel, am_rokB_ok (by decide +kernel)⟩, by show Option.map _ _ = _; decide +kernel, wd_1800, wd_1801, Or.inl ⟨by decide, rfl⟩⟩
theorem mf_276 : am_mf 276 := ⟨⟨wd_1814, wd_165, ⟨by decide +kernel, by decide +kernel⟩, by decide +kernel, by decide +kernel, am_rokB_ok (by decide +kernel)⟩, by show Option.map _ _ = _; decide +kernel, wd_1812, wd_1813, Or.inl ⟨by decide, rfl⟩⟩
theorem mf_277 : am_mf 277 := ⟨⟨wd_1822, wd_165, ⟨by decide +kernel, by decide +kernel⟩, by decide +kernel, by decide +kernel, am_rokB_ok (by decide +kernel)⟩, by show Option.map _ _ = _; decide +kernel, wd_1820, wd_1821, Or.inl ⟨by decide, rfl⟩⟩
theorem mf_278 : am_mf 278 := ⟨⟨wd_1850, wd_165, ⟨by decide +kernel, by decide +kernel⟩, by decide +kernel, by decide +kernel, am_rokB_ok (by decide +kernel)⟩, by show Option.map _ _ = _; decide +kernel, wd_1848, wd_1849, Or.inl ⟨by decide, rfl⟩⟩
theorem mf_279 : am_mf 279 := ⟨⟨wd_1854, wd_165, ⟨by decide +kernel, by decide +kernel⟩, by decide +kernel, by decide +kernel, am_rokB_ok (by decide +kernel)⟩, by show Option.map _ _ = _; decide +kernel, wd_1852, wd_1853, Or.inl ⟨by decide, rfl⟩⟩
theorem mf_280 : am_mf 280 := ⟨⟨wd_1866, wd_165, ⟨by decide +kernel, by decide +kernel⟩, by decide +kernel, by decide +kernel, am_rokB_ok (by decide +kernel)⟩, by show Option.map _ _ = _; decide +kernel, wd_1865, wd_100, Or.inl ⟨by decide, rfl⟩⟩
theorem mf_281 : am_mf 281 := ⟨⟨wd_1862, wd_165, ⟨by decide +kernel, by decide +kernel⟩, by decide +kernel, by decide +kernel, am_rokB_ok (by decide +kernel)⟩, by show Option.map _ _ = _; decide +kernel, wd_1860, wd_1861, Or.inl ⟨by decide, rfl⟩⟩
theorem mf_282 : am_mf 282 := ⟨⟨wd_1870, wd_165, ⟨by decide +kernel, by decide +kernel⟩, by decide +kernel, by decide +kernel, am_rokB_ok (by decide +kernel)⟩, by show Option.map _ _ = _; decide +kernel, wd_1868, wd_1869, Or.inl ⟨by decide, rfl⟩⟩
theorem mf_283 : am_mf 283 := ⟨⟨wd_1889, wd_165, ⟨by decide +kernel, by decide +kernel⟩, by decide +kernel, by decide +kernel, am_rokB_ok (by decide +kernel)⟩, by show Option.map _ _ = _; decide +kernel, wd_1888, wd_103, Or.inl ⟨by decide, rfl⟩⟩
theorem mf_284 : am_mf 284 := ⟨⟨wd_1986, wd_165, ⟨by decide +kernel, by decide +kernel⟩, by decide +kernel, by decide +kernel, am_rokB_ok (by decide +kernel)⟩, by show Option.map _ _ = _; decide +kernel, wd_1985, wd_118, Or.inl ⟨by decide, rfl⟩⟩
theorem mf_285 : am_mf 285 := ⟨⟨wd_1901, wd_165, ⟨by decide +kernel, by decide +kernel⟩, by decide +kernel, by decide +kernel, am_rokB_ok (by decide +kernel)⟩, by show Option.map _ _ = _; decide +kernel, wd_1900, wd_106, Or.inl ⟨by decide, rfl⟩⟩
theorem mf_286 : am_mf 286 := ⟨⟨wd_1881, wd_165, ⟨by decide +kernel, by decide +kernel⟩, by decide +kernel, by decide +kernel, am_rokB_ok (by decide +kernel)⟩, by show Option.map _ _ = _; decide +kernel, wd_1880, wd_101, Or.inl ⟨by decide, rfl⟩⟩
theorem mf_287 : am_mf 287 := ⟨⟨wd_1909, wd_165, ⟨by decide +kernel, by decide +kernel⟩, by decide +kernel, by decide +kernel, am_rokB_ok (by decide +kernel)⟩, by show Option.map _ _ = _; decide +kernel, wd_1908, wd_107, Or.inl ⟨by decide, rfl⟩⟩
theorem mf_288 : am_mf 288 := ⟨⟨wd_1921, wd_165, ⟨by decide +kernel, by decide +kernel⟩, by decide +kernel, by decide +kernel, am_rokB_ok (by decide +kernel)⟩, by show Option.map _ _ = _; decide +kernel, wd_1920, wd_109, Or.inl ⟨by decide, rfl⟩⟩
theorem mf_289 : am_mf 289 := ⟨⟨wd_1933, wd_165, ⟨by decide +kernel, by decide +kernel⟩, by decide +kernel, by decide +kernel, am_rokB_ok (by decide +kernel)⟩, by show Option.map _ _ = _; decide +kernel, wd_1932, wd_111, Or.inl ⟨by decide, rfl⟩⟩
theorem mf_290 : am_mf 290 := ⟨⟨wd_1893, wd_165, ⟨by decide +kernel, by decide +kernel⟩, by decide +kernel, by decide +kernel, am_rokB_ok (by decide +kernel)⟩, by show Option.map _ _ = _; decide +kernel, wd_1892, wd_104, Or.inl ⟨by decide, rfl⟩⟩
theorem mf_291 : am_mf 291 := ⟨⟨wd_1913, wd_165, ⟨by decide +kernel, by decide +kernel⟩, by decide +kernel, by decide +kernel, am_rokB_ok (by decide +kernel)⟩, by show Option.map _ _ = _; decide +kernel, wd_1912, wd_108, Or.inl ⟨by decide, rfl⟩⟩
theorem mf_292 : am_mf 292 := ⟨⟨wd_1925, wd_165, ⟨by decide +kernel, by decide +kernel⟩, by decide +kernel, by decide +kernel, am_rokB_ok (by decide +kernel)⟩, by show Option.map _ _ = _; decide +kernel, wd_1924, wd_110, Or.inl ⟨by decide, rfl⟩⟩
theorem mf_293 : am_mf 293 := ⟨⟨wd_1897, wd_165, ⟨by decide +kernel, by decide +kernel⟩, by decide +kernel, by decide +kernel, am_rokB_ok (by decide +kernel)⟩, by show Option.map _ _ = _; decide +kernel, wd_1896, wd_105, Or.inl ⟨by decide, rfl⟩⟩
theorem mf_294 : am_mf 294 := ⟨⟨wd_1877, wd_165, ⟨by decide +kernel, by decide +kernel⟩, by decide +kernel, by decide +kernel, am_rokB_ok (by decide +kernel)⟩, by show Option.map _ _ = _; decide +kernel, wd_1875, wd_1876, Or.inl ⟨by decide, rfl⟩⟩
theorem mf_295 : am_mf 295 := ⟨⟨wd_1905, wd_165, ⟨by decide +kernel, by decide +kernel⟩, by decide +kernel, by decide +kernel, am_rokB_ok (by decide +kernel)⟩, by show Option.map _ _ = _; decide +kernel, wd_1903, wd_1904, Or.inl ⟨by decide, rfl⟩⟩
theorem mf_296 : am_mf 296 := ⟨⟨wd_1917, wd_165, ⟨by decide +kernel, by decide +kernel⟩, by decide +kernel, by decide +kernel, am_rokB_ok (by decide +kernel)⟩, by show Option.map _ _ = _; decide +kernel, wd_1915, wd_1916, Or.inl ⟨by decide, rfl⟩⟩
theorem mf_297 : am_mf 297 := ⟨⟨wd_1929, wd_165, ⟨by decide +kernel, by decide +kernel⟩, by decide +kernel, by decide +kernel, am_rokB_ok (by decide +kernel)⟩, by show Option.map _ _ = _; decide +kernel, wd_1927, wd_1928, Or.inl ⟨by decide, rfl⟩⟩
theorem mf_298 : am_mf 298 := ⟨⟨wd_1938, wd_165, ⟨by decide +kernel, by decide +kernel⟩, by decide +kernel, by decide +kernel, am_rokB_ok (by decide +kernel)⟩, by show Option.map _ _ = _; decide +kernel, wd_1936, wd_1937, Or.inl ⟨by decide, rfl⟩⟩
theorem mf_299 : am_mf 299 := ⟨⟨wd_1943, wd_165, ⟨by decide +kernel, by decide +kernel⟩, by decide +kernel, by decide +kernel, am_rokB_ok (by decide +kernel)⟩, by show Option.map _ _ = _; decide +kernel, wd_1941, wd_1942, Or.inl ⟨by decide, rfl⟩⟩
theorem mf_300 : am_mf 300 := ⟨⟨wd_1961, wd_165, ⟨by decide +kernel, by decide +kernel⟩, by decide +kernel, by decide +kernel, am_rokB_ok (by decide +kernel)⟩, by show Option.map _ _ = _; decide +kernel, wd_1960, wd_114, Or.inl ⟨by decide, rfl⟩⟩
theorem mf_301 : am_mf 301 := ⟨⟨wd_1974, wd_165, ⟨by decide +kernel, by decide +kernel⟩, by decide +kernel, by decide +kernel, am_rokB_ok (by decide +kernel)⟩, by show Option.map _ _ = _; decide +kernel, wd_1973, wd_115, Or.inl ⟨by decide, rfl⟩⟩
theorem mf_302 : am_mf 302 := ⟨⟨wd_1957, wd_165, ⟨by decide +kernel, by decide +kernel⟩, by decide +kernel, by decide +kernel, am_rokB_ok (by decide +kernel)⟩, by show Option.map _ _ = _; decide +kernel, wd_1956, wd_113, Or.inl ⟨by decide, rfl⟩⟩
theorem mf_303 : am_mf 303 := ⟨⟨wd_1953, wd_165, ⟨by decide +kernel, by decide +kernel⟩, by decide +kernel, by decide +kernel, am_rokB_ok (by decide +kernel)⟩, by show Option.map _ _ = _; decide +kernel, wd_1952, wd_112, Or.inl ⟨by decide, rfl⟩⟩
theorem mf_304 : am_mf 304 := ⟨⟨wd_1982, wd_165, ⟨by decide +kernel, by decide +kernel⟩, by decide +kernel, by decide +kernel, am_rokB_ok (by decide +kernel)⟩, by show Option.map _ _ = _; decide +kernel, wd_1981, wd_117, Or.inl ⟨by decide, rfl⟩⟩
theorem mf_305 : am_mf 305 := ⟨⟨wd_1948, wd_165, ⟨by decide +kernel, by decide +kernel⟩, by decide +kernel, by decide +kernel, am_rokB_ok (by decide +kernel)⟩, by show Option.map _ _ = _; decide +kernel, wd_1946, wd_1947, Or.inl ⟨by decide, rfl⟩⟩
theorem mf_306 : am_mf 306 := ⟨⟨wd_1990, wd_165, ⟨by decide +kernel, by decide +kernel⟩, by decide +kernel, by decide +kernel, am_rokB_ok (by decide +kernel)⟩, by show Option.map _ _ = _; decide +kernel, wd_1988, wd_1989, Or.inl ⟨by decide, rfl⟩⟩
theorem mf_307 : am_mf 307 := ⟨⟨wd_2003, wd_165, ⟨by decide +kernel, by decide +kernel⟩, by decide +kernel, by decide +kernel, am_rokB_ok (by decide +kernel)⟩, by show Option.map _ _ = _; decide +kernel, wd_2002, wd_120, Or.inl ⟨by decide, rfl⟩⟩
theorem mf_308 : am_mf 308 := ⟨⟨wd_1999, wd_165, ⟨by decide +kernel, by decide +kernel⟩, by decide +kernel, by decide +kernel, am_rokB_ok (by decide +kernel)⟩, by show Option.map _ _ = _; decide +kernel, wd_1998, wd_119, Or.inl ⟨by decide, rfl⟩⟩
theorem mf_309 : am_mf 309 := ⟨⟨wd_1994, wd_165, ⟨by decide +kernel, by decide +kernel⟩, by decide +kernel, by decide +kernel, am_rokB_ok (by decide +kernel)⟩, by show Option.map _ _ = _; decide +kernel, wd_1992, wd_1993, Or.inl ⟨by decide, rfl⟩⟩
theorem mf_310 : am_mf 310 := ⟨⟨wd_2020, wd_165, ⟨by decide +kernel, by decide +kernel⟩, by decide +kernel, by decide +kernel, am_rokB_ok (by decide +kernel)⟩, by show Option.map _ _ = _; decide +kernel, wd_2019, wd_123, Or.inl ⟨by decide, rfl⟩⟩
theorem mf_311 : am_mf 311 := ⟨⟨wd_2016, wd_165, ⟨by decide +kernel, by decide +kernel⟩, by decide +kernel, by decide +kernel, am_rokB_ok (by decide +kernel)⟩, by show Option.map _ _ = _; decide +kernel, wd_2015, wd_122, Or.inl ⟨by decide, rfl⟩⟩
theorem mf_312 : am_mf 312 := ⟨⟨wd_2012, wd_165, ⟨by decide +kernel, by decide +kernel⟩, by decide +kernel, by decide +kernel, am_rokB_ok (by decide +kernel)⟩, by show Option.map _ _ = _; decide +kernel, wd_2011, wd_121, Or.inl ⟨by decide, rfl⟩⟩
theorem mf_313 : am_mf 313 := ⟨⟨wd_2008, wd_165, ⟨by decide +kernel, by decide +kernel⟩, by decide +kernel, by decide +kernel, am_rokB_ok (by decide +kernel)⟩, by show Option.map _ _ = _; decide +kernel, wd_2006, wd_2007, Or.inl ⟨by decide, rfl⟩⟩
theorem mf_314 : am_mf 314 := ⟨⟨wd_2027, wd_165, ⟨by decide +kernel, by decide +kernel⟩, by decide +kernel, by decide +kernel, am_rokB_ok (by decide +kernel)⟩, by show Option.map _ _ = _; decide +kernel, wd_2025, wd_2026, Or.inl ⟨by decide, rfl⟩⟩
theorem mf_315 : am_mf 315 := ⟨⟨wd_2039, wd_165, ⟨by decide +kernel, by decide +kernel⟩, by decide +kernel, by decide +kernel, am_rokB_ok (by decide +kernel)⟩, by show Option.map _ _ = _; decide +kernel, wd_2038, wd_125, Or.inl ⟨by decide, rfl⟩⟩
theorem mf_316 : am_mf 316 := ⟨⟨wd_2035, wd_165, ⟨by decide +kernel, by decide +kernel⟩, by decide +kernel, by decide +kernel, am_rokB_ok (by decide +kernel)⟩, by show Option.map _ _ = _; decide +kernel, wd_2034, wd_124, Or.inl ⟨by decide, rfl⟩⟩
theorem mf_317 : am_mf 317 := ⟨⟨wd_2031, wd_165, ⟨by decide +kernel, by decide +kernel⟩, by decide +kernel, by decide +kernel, am_rokB_ok (by decide +kernel)⟩, by show Option.map _ _ = _; decide +kernel, wd_2029, wd_2030, Or.inl ⟨by decide, rfl⟩⟩
theorem mf_318 : am_mf 318 := ⟨⟨wd_2051, wd_165, ⟨by decide +kernel, by decide +kernel⟩, by decide +kernel, by decide +kernel, am_rokB_ok (by decide +kernel)⟩, by show Option.map _ _ = _; decide +kernel, wd_2050, wd_127, Or.inl ⟨by decide, rfl⟩⟩
theorem mf_319 : am_mf 319 := ⟨⟨wd_2047, wd_165, ⟨by decide +kernel, by decide +kernel⟩, by decide +kernel, by decide +kernel, am_rokB_ok (by decide +kernel)⟩, by show Option.map _ _ = _; decide +kernel, wd_2046, wd_126, Or.inl ⟨by decide, rfl⟩⟩
theorem mf_320 : am_mf 320 := ⟨⟨wd_2043, wd_165, ⟨by decide +kernel, by decide +kernel⟩, by decide +kernel, by decide +kernel, am_rokB_ok (by decide +kernel)⟩, by show Option.map _ _ = _; decide +kernel, wd_2041, wd_2042, Or.inl ⟨by decide, rfl⟩⟩
theorem mf_321 : am_mf 321 := ⟨⟨wd_2055, wd_165, ⟨by decide +kernel, by decide +kernel⟩, by decide +kernel, by decide +kernel, am_rokB_ok (by decide +kernel)⟩, by show Option.map _ _ = _; decide +kernel, wd_2053, wd_2054, Or.inl ⟨by decide, rfl⟩⟩
theorem mf_322 : am_mf 322 := ⟨⟨wd_2074, wd_165, ⟨by decide +kernel, by decide +kernel⟩, by decide +kernel, by decide +kernel, am_rokB_ok (by decide +kernel)⟩, by show Option.map _ _ = _; decide +kernel, wd_2073, wd_130, Or.inl ⟨by decide, rfl⟩⟩
theorem mf_323 : am_mf 323 := ⟨⟨wd_2082, wd_165, ⟨by decide +kernel, by decide +kernel⟩, by decide +kernel, by decide +kernel, am_rokB_ok (by decide +kernel)⟩, by show Option.map _ _ = _; decide +kernel, wd_2081, wd_131, Or.inl ⟨by decide, rfl⟩⟩
theorem mf_324 : am_mf 324 := ⟨⟨wd_2070, wd_165, ⟨by decide +kernel, by decide +kernel⟩, by decide +kernel, by decide +kernel, am_rokB_ok (by decide +kernel)⟩, by show Option.map _ _ = _; decide +kernel, wd_2069, wd_129, Or.inl ⟨by decide, rfl⟩⟩
theorem mf_325 : am_mf 325 := ⟨⟨wd_2066, wd_165, ⟨by decide +kernel, by decide +kernel⟩, by decide +kernel, by decide +kernel, am_rokB_ok (by decide +kernel)⟩, by show Option.map _ _ = _; decide +kernel, wd_2065, wd_128, Or.inl ⟨by decide, rfl⟩⟩
theorem mf_326 : am_mf 326 := ⟨⟨wd_2062, wd_165, ⟨by decide +kernel, by decide +kernel⟩, by decide +kernel, by decide +kernel, am_rokB_ok (by decide +kernel)⟩, by show Option.map _ _ = _; decide +kernel, wd_2061⟩
theorem mf_327 : am_mf 327 := ⟨⟨wd_2059, wd_165, ⟨by decide +kernel, by decide +kernel⟩, by decide +kernel, by decide +kernel, am_rokB_ok (by decide +kernel)⟩, by show Option.map _ _ = _; decide +kernel, wd_2057, wd_2058, Or.inl ⟨by decide, rfl⟩⟩
theorem mf_328 : am_mf 328 := ⟨⟨wd_2078, wd_165, ⟨by decide +kernel, by decide +kernel⟩, by decide +kernel, by decide +kernel, am_rokB_ok (by decide +kernel)⟩, by show Option.map _ _ = _; decide +kernel, wd_2076, wd_2077, Or.inl ⟨by decide, rfl⟩⟩
theorem mf_329 : am_mf 329 := ⟨⟨wd_2086, wd_165, ⟨by decide +kernel, by decide +kernel⟩, by decide +kernel, by decide +kernel, am_rokB_ok (by decide +kernel)⟩, by show Option.map _ _ = _; decide +kernel, wd_2084, wd_2085, Or.inl ⟨by decide, rfl⟩⟩
theorem mf_330 : am_mf 330 := ⟨⟨wd_2118, wd_165, ⟨by decide +kernel, by decide +kernel⟩, by decide +kernel, by decide +kernel, am_rokB_ok (by decide +kernel)⟩, by show Option.map _ _ = _; decide +kernel, wd_2117⟩
theorem mf_331 : am_mf 331 := ⟨⟨wd_2115, wd_165, ⟨by decide +kernel, by decide +kernel⟩, by decide +kernel, by decide +kernel, am_rokB_ok (by decide +kernel)⟩, by show Option.map _ _ = _; decide +kernel, wd_2114⟩
theorem mf_332 : am_mf 332 := ⟨⟨wd_2112, wd_165, ⟨by decide +kernel, by decide +kernel⟩, by decide +kernel, by decide +kernel, am_rokB_ok (by decide +kernel)⟩, by show Option.map _ _ = _; decide +kernel, wd_2111, wd_136, Or.inl ⟨by decide, rfl⟩⟩
theorem mf_333 : am_mf 333 := ⟨⟨wd_2108, wd_165, ⟨by decide +kernel, by decide +kernel⟩, by decide +kernel, by decide +kernel, am_rokB_ok (by decide +kernel)⟩, by show Option.map _ _ = _; decide +kernel, wd_2107, wd_135, Or.inl ⟨by decide, rfl⟩⟩
theorem mf_334 : am_mf 334 := ⟨⟨wd_2104, wd_165, ⟨by decide +kernel, by decide +kernel⟩, by decide +kernel, by decide +kernel, am_rokB_ok (by decide +kernel)⟩, by show Option.map _ _ = _; decide +kernel, wd_2103, wd_134, Or.inl ⟨by decide, rfl⟩⟩
theorem mf_335 : am_mf 335 := ⟨⟨wd_2100, wd_165, ⟨by decide +kernel, by decide +kernel⟩, by decide +kernel, by decide +kernel, am_rokB_ok (by decide +kernel)⟩, by show Option.map _ _ = _; decide +kernel, wd_2099, wd_133, Or.inl ⟨by decide, rfl⟩⟩
theorem mf_336 : am_mf 336 := ⟨⟨wd_2096, wd_165, ⟨by decide +kernel, by decide +kernel⟩, by decide +kernel, by decide +kernel, am_rokB_ok (by decide +kernel)⟩, by show Option.map _ _ = _; decide +kernel, wd_2095, wd_132, Or.inl ⟨by decide, rfl⟩⟩
theorem mf_337 : am_mf 337 := ⟨⟨wd_2090, wd_165, ⟨by decide +kernel, by decide +kernel⟩, by decide +kernel, by decide +kernel, am_rokB_ok (by decide +kernel)⟩, by show Option.map _ _ = _; decide +kernel, wd_2088, wd_2089, Or.inl ⟨by decide, rfl⟩⟩
theorem mf_338 : am_mf 338 := ⟨⟨wd_2125, wd_165, ⟨by decide +kernel, by decide +kernel⟩, by decide +kernel, by decide +kernel, am_rokB_ok (by decide +kernel)⟩, by show Option.map _ _ = _; decide +kernel, wd_2123, wd_2124, Or.inl ⟨by decide, rfl⟩⟩
theorem mf_339 : am_mf 339 := ⟨⟨wd_2129, wd_165, ⟨by decide +kernel, by decide +kernel⟩, by decide +kernel, by decide +kernel, am_rokB_ok (by decide +kernel)⟩, by show Option.map _ _ = _; decide +kernel, wd_2127, wd_2128, Or.inl ⟨by decide, rfl⟩⟩
theorem mf_340 : am_mf 340 := ⟨⟨wd_2137, wd_165, ⟨by decide +kernel, by decide +kernel⟩, by decide +kernel, by decide +kernel, am_rokB_ok (by decide +kernel)⟩, by show Option.map _ _ = _; decide +kernel, wd_2136, wd_137, Or.inl ⟨by decide, rfl⟩⟩
theorem mf_341 : am_mf 341 := ⟨⟨wd_2133, wd_165, ⟨by decide +kernel, by decide +kernel⟩, by decide +kernel, by decide +kernel, am_rokB_ok (by decide +kernel)⟩, by show Option.map _ _ = _; decide +kernel, wd_2131, wd_2132, Or.inl ⟨by decide, rfl⟩⟩
theorem mf_342 : am_mf 342 := ⟨⟨wd_2141, wd_165, ⟨by decide +kernel, by decide +kernel⟩, by decide +kernel, by decide +kernel, am_rokB_ok (by decide +kernel)⟩, by show Option.map _ _ = _; decide +kernel, wd_2139, wd_2140, Or.inl ⟨by decide, rfl⟩⟩
theorem mf_343 : am_mf 343 := ⟨⟨wd_2145, wd_165, ⟨by decide +kernel, by decide +kernel⟩, by decide +kernel, by decide +kernel, am_rokB_ok (by decide +kernel)⟩, by show Option.map _ _ = _; decide +kernel, wd_2143, wd_2144, Or.inl ⟨by decide, rfl⟩⟩
theorem mf_344 : am_mf 344 := ⟨⟨wd_2153, wd_165, ⟨by decide +kernel, by decide +kernel⟩, by decide +kernel, by decide +kernel, am_rokB_ok (by decide +kernel)⟩, by show Option.map _ _ = _; decide +kernel, wd_2152, wd_138, Or.inl ⟨by decide, rfl⟩⟩
theorem mf_345 : am_mf 345 := ⟨⟨wd_2157, wd_165, ⟨by decide +kernel, by decide +kernel⟩, by decide +kernel, by decide +kernel, am_rokB_ok (by decide +kernel)⟩, by show Option.map _ _ = _; decide +kernel, wd_2156, wd_139, Or.inl ⟨by decide, rfl⟩⟩
theorem mf_346 : am_mf 346 := ⟨⟨wd_2149, wd_165, ⟨by decide +kernel, by decide +kernel⟩, by decide +kernel, by decide +kernel, am_rokB_ok (by decide +kernel)⟩, by show Option.map _ _ = _; decide +kernel, wd_2147, wd_2148, Or.inl ⟨by decide, rfl⟩⟩
theorem mf_347 : am_mf 347 := ⟨⟨wd_2161, wd_165, ⟨by decide +kernel, by decide +kernel⟩, by decide +kernel, by decide +kernel, am_rokB_ok (by decide +kernel)⟩, by show Option.map _ _ = _; decide +kernel, wd_2159, wd_2160, Or.inl ⟨by decide, rfl⟩⟩
theorem mf_348 : am_mf 348 := ⟨⟨wd_2173, wd_165, ⟨by decide +kernel, by decide +kernel⟩, by decide +kernel, by decide +kernel, am_rokB_ok (by decide +kernel)⟩, by show Option.map _ _ = _; decide +kernel, wd_2172, wd_141, Or.inl ⟨by decide, rfl⟩⟩
theorem mf_349 : am_mf 349 := ⟨⟨wd_2169, wd_165, ⟨by decide +kernel, by decide +kernel⟩, by decide +kernel, by decide +kernel, am_rokB_ok (by decide +kernel)⟩, by show Option.map _ _ = _; decide +kernel, wd_2168, wd_140, Or.inl ⟨by decide, rfl⟩⟩
theorem mf_350 : am_mf 350 := ⟨⟨wd_2165, wd_165, ⟨by decide +kernel, by decide +kernel⟩, by decide +kernel, by decide +kernel, am_rokB_ok (by decide +kernel)⟩, by show Option.map _ _ = _; decide +kernel, wd_2163, wd_2164, Or.inl ⟨by decide, rfl⟩⟩
theorem mf_351 : am_mf 351 := ⟨⟨wd_2193, wd_165, ⟨by decide +kernel, by decide +kernel⟩, by decide +kernel, by decide +kernel, am_rokB_ok (by decide +kernel)⟩, by show Option.map _ _ = _; decide +kernel, wd_2192, wd_145, Or.inl ⟨by decide, rfl⟩⟩
theorem mf_352 : am_mf 352 := ⟨⟨wd_2189, wd_165, ⟨by decide +kernel, by decide +kernel⟩, by decide +kernel, by decide +kernel, am_rokB_ok (by decide +kernel)⟩, by show Option.map _ _ = _; decide +kernel, wd_2188, wd_144, Or.inl ⟨by decide, rfl⟩⟩
theorem mf_353 : am_mf 353 := ⟨⟨wd_2185, wd_165, ⟨by decide +kernel, by decide +kernel⟩, by decide +kernel, by decide +kernel, am_rokB_ok (by decide +kernel)⟩, by show Option.map _ _ = _; decide +kernel, wd_2184, wd_143, Or.inl ⟨by decide, rfl⟩⟩
theorem mf_354 : am_mf 354 := ⟨⟨wd_2181, wd_165, ⟨by decide +kernel, by decide +kernel⟩, by decide +kernel, by decide +kernel, am_rokB_ok (by decide +kernel)⟩, by show Option.map _ _ = _; decide +kernel, wd_2180, wd_142, Or.inl ⟨by decide, rfl⟩⟩
theorem mf_355 : am_mf 355 := ⟨⟨wd_2177, wd_165, ⟨by decide +kernel, by decide +kernel⟩, by decide +kernel, by decide +kernel, am_rokB_ok (by decide +kernel)⟩, by show Option.map _ _ = _; decide +kernel, wd_2175, wd_2176, Or.inl ⟨by decide, rfl⟩⟩
theorem mf_356 : am_mf 356 := ⟨⟨wd_2197, wd_165, ⟨by decide +kernel, by decide +kernel⟩, by decide +kernel, by decide +kernel, am_rokB_ok (by decide +kernel)⟩, by show Option.map _ _ = _; decide +kernel, wd_2195, wd_2196, Or.inl ⟨by decide, rfl⟩⟩
theorem mf_357 : am_mf 357 := ⟨⟨wd_2205, wd_165, ⟨by decide +kernel, by decide +kernel⟩, by decide +kernel, by decide +kernel, am_rokB_ok (by decide +kernel)⟩, by show Option.map _ _ = _; decide +kernel, wd_2204, wd_146, Or.inl ⟨by decide, rfl⟩⟩
theorem mf_358 : am_mf 358 := ⟨⟨wd_2212, wd_165, ⟨by decide +kernel, by decide +kernel⟩, by decide +kernel, by decide +kernel, am_rokB_ok (by decide +kernel)⟩, by show Option.map _ _ = _; decide +kernel, wd_2211, wd_147, Or.inl ⟨by decide, rfl⟩⟩
theorem mf_359 : am_mf 359 := ⟨⟨wd_2201, wd_165, ⟨by decide +kernel, by decide +kernel⟩, by decide +kernel, by decide +kernel, am_rokB_ok (by decide +kernel)⟩, by show Option.map _ _ = _; decide +kernel, wd_2199, wd_2200, Or.inl ⟨by decide, rfl⟩⟩
theorem mf_360 : am_mf 360 := ⟨⟨wd_2224, wd_165, ⟨by decide +kernel, by decide +kernel⟩, by decide +kernel, by decide +kernel, am_rokB_ok (by decide +kernel)⟩, by show Option.map _ _ = _; decide +kernel, wd_2223, wd_148, Or.inl ⟨by decide, rfl⟩⟩
theorem mf_361 : am_mf 361 := ⟨⟨wd_2219, wd_165, ⟨by decide +kernel, by decide +kernel⟩, by decide +kernel, by decide +kernel, am_rokB_ok (by decide +kernel)⟩, by show Option.map _ _ = _; decide +kernel, wd_2217, wd_2218, Or.inl ⟨by decide, rfl⟩⟩
theorem mf_362 : am_mf 362 := ⟨⟨wd_2236, wd_165, ⟨by decide +kernel, by decide +kernel⟩, by decide +kernel, by decide +kernel, am_rokB_ok (by decide +kernel)⟩, by show Option.map _ _ = _; decide +kernel, wd_2235, wd_150, Or.inl ⟨by decide, rfl⟩⟩
theorem mf_363 : am_mf 363 := ⟨⟨wd_2239, wd_165, ⟨by decide +kernel, by decide +kernel⟩, by decide +kernel, by decide +kernel, am_rokB_ok (by decide +kernel)⟩, by show Option.map _ _ = _; decide +kernel, wd_2238⟩
theorem mf_364 : am_mf 364 := ⟨⟨wd_2242, wd_165, ⟨by decide +kernel, by decide +kernel⟩, by decide +kernel, by decide +kernel, am_rokB_ok (by decide +kernel)⟩, by show Option.map _ _ = _; decide +kernel, wd_2241⟩
theorem mf_365 : am_mf 365 := ⟨⟨wd_2232, wd_165, ⟨by decide +kernel, by decide +kernel⟩, by decide +kernel, by decide +kernel, am_rokB_ok (by decide +kernel)⟩, by show Option.map _ _ = _; decide +kernel, wd_2231, wd_149, Or.inl ⟨by decide, rfl⟩⟩
theorem mf_366 : am_mf 366 := ⟨⟨wd_2228, wd_165, ⟨by decide +kernel, by decide +kernel⟩, by decide +kernel, by decide +kernel, am_rokB_ok (by decide +kernel)⟩, by show Option.map _ _ = _; decide +kernel, wd_2226, wd_2227, Or.inl ⟨by decide, rfl⟩⟩
theorem mf_367 : am_mf 367 := ⟨⟨wd_2246, wd_165, ⟨by decide +kernel, by decide +kernel⟩, by decide +kernel, by decide +kernel, am_rokB_ok (by decide +kernel)⟩, by show Option.map _ _ = _; decide +kernel, wd_2244, wd_2245, Or.inl ⟨by decide, rfl⟩⟩
theorem mf_368 : am_mf 368 := ⟨⟨wd_2258, wd_165, ⟨by decide +kernel, by decide +kernel⟩, by decide +kernel, by decide +kernel, am_rokB_ok (by decide +kernel)⟩, by show Option.map _ _ = _; decide +kernel, wd_2257⟩
theorem mf_369 : am_mf 369 := ⟨⟨wd_2250, wd_165, ⟨by decide +kernel, by decide +kernel⟩, by decide +kernel, by decide +kernel, am_rokB_ok (by decide +kernel)⟩, by show Option.map _ _ = _; decide +kernel, wd_2248, wd_2249, Or.inl ⟨by decide, rfl⟩⟩
theorem mf_370 : am_mf 370 := ⟨⟨wd_2254, wd_165, ⟨by decide +kernel, by decide +kernel⟩, by decide +kernel, by decide +kernel, am_rokB_ok (by decide +kernel)⟩, by show Option.map _ _ = _; decide +kernel, wd_2252, wd_2253, Or.inl ⟨by decide, rfl⟩⟩
theorem mf_371 : am_mf 371 := ⟨⟨wd_2262, wd_165, ⟨by decide +kernel, by decide +kernel⟩, by decide +kernel, by decide +kernel, am_rokB_ok (by decide +kernel)⟩, by show Option.map _ _ = _; decide +kernel, wd_2260, wd_2261, Or.inl ⟨by decide, rfl⟩⟩
theorem mf_372 : am_mf 372 := ⟨⟨wd_2266, wd_165, ⟨by decide +kernel, by decide +kernel⟩, by decide +kernel, by decide +kernel, am_rokB_ok (by decide +kernel)⟩, by show Option.map _ _ = _; decide +kernel, wd_2264, wd_2265, Or.inl ⟨by decide, rfl⟩⟩
theorem mf_373 : am_mf 373 := ⟨⟨wd_2270, wd_165, ⟨by decide +kernel, by decide +kernel⟩, by decide +kernel, by decide +kernel, am_rokB_ok (by decide +kernel)⟩, by show Option.map _ _ = _; decide +kernel, wd_2268, wd_2269, Or.inl ⟨by decide, rfl⟩⟩
theorem mf_374 : am_mf 374 := ⟨⟨wd_2278, wd_165, ⟨by decide +kernel, by decide +kernel⟩, by decide +kernel, by decide +kernel, am_rokB_ok (by decide +kernel)⟩, by show Option.map _ _ = _; decide +kernel, wd_2277, wd_151, Or.inl ⟨by decide, rfl⟩⟩
theorem mf_375 : am_mf 375 := ⟨⟨wd_2274, wd_165, ⟨by decide +kernel, by decide +kernel⟩, by decide +kernel, by decide +kernel, am_rokB_ok (by decide +kernel)⟩, by show Option.map _ _ = _; decide +kernel, wd_2272, wd_2273, Or.inl ⟨by decide, rfl⟩⟩
theorem mf_376 : am_mf 376 := trivial
theorem mf_377 : am_mf 377 := trivial
theorem mf_r0 : ∀ j, j < 30 → am_mf (0 + j) := by
  intro j hj
  match j, hj with
  | 0, _ => exact mf_0
  | 1, _ => exact mf_1
  | 2, _ => exact mf_2
  | 3, _ => exact mf_3
  | 4, _ => exact mf_4
  | 5, _ => exact mf_5
  | 6, _ => exact mf_6
  | 7, _ => exact mf_7
  | 8, _ => exact mf_8
  | 9, _ => exact mf_9
  | 10, _ => exact mf_10
  | 11, _ => exact mf_11
  | 12, _ => exact mf_12
  | 13, _ => exact mf_13
  | 14, _ => exact mf_14
  | 15, _ => exact mf_15
  | 16, _ => exact mf_16
  | 17, _ => exact mf_17
  | 18, _ => exact mf_18
  | 19, _ => exact mf_19
  | 20, _ => exact mf_20
  | 21, _ => exact mf_21
  | 22, _ => exact mf_22
  | 23, _ => exact mf_23
  | 24, _ => exact mf_24
  | 25, _ => exact mf_25
  | 26, _ => exact mf_26
  | 27, _ => exact mf_27
  | 28, _ => exact mf_28
  | 29, _ => exact mf_29
  | j + 30, hj => exact absurd hj (by omega)
theorem mf_r30 : ∀ j, j < 30 → am_mf (30 + j) := by
  intro j hj
  match j, hj with
  | 0, _ => exact mf_30
  | 1, _ => exact mf_31
  | 2, _ => exact mf_32
  | 3, _ => exact mf_33
  | 4, _ => exact mf_34
  | 5, _ => exact mf_35
  | 6, _ => exact mf_36
  | 7, _ => exact mf_37
  | 8, _ => exact mf_38
  | 9, _ => exact mf_39
  | 10, _ => exact mf_40
  | 11, _ => exact mf_41
  | 12, _ => exact mf_42
  | 13, _ => exact mf_43
  | 14, _ => exact mf_44
  | 15, _ => exact mf_45
  | 16, _ => exact mf_46
  | 17, _ => exact mf_47
  | 18, _ => exact mf_48
  | 19, _ => exact mf_49
  | 20, _ => exact mf_50
  | 21, _ => exact mf_51
  | 22, _ => exact mf_52
  | 23, _ => exact mf_53
  | 24, _ => exact mf_54
  | 25, _ => exact mf_55
  | 26, _ => exact mf_56
  | 27, _ => exact mf_57
  | 28, _ => exact mf_58
  | 29, _ => exact mf_59
  | j + 30, hj => exact absurd hj (by omega)
theorem mf_r60 : ∀ j, j < 30 → am_mf (60 + j) := by
  intro j hj
  match j, hj with
  | 0, _ => exact mf_60
  | 1, _ => exact mf_61
  | 2, _ => exact mf_62
  | 3, _ => exact mf_63
  | 4, _ => exact mf_64
  | 5, _ => exact mf_65
  | 6, _ => exact mf_66
  | 7, _ => exact mf_67
  | 8, _ => exact mf_68
  | 9, _ => exact mf_69
  | 10, _ => exact mf_70
  | 11, _ => exact mf_71
  | 12, _ => exact mf_72
  | 13, _ => exact mf_73
  | 14, _ => exact mf_74
  | 15, _ => exact mf_75
  | 16, _ => exact mf_76
  | 17, _ => exact mf_77
  | 18, _ => exact mf_78
  | 19, _ => exact mf_79
  | 20, _ => exact mf_80
  | 21, _ => exact mf_81
  | 22, _ => exact mf_82
  | 23, _ => exact mf_83
  | 24, _ => exact mf_84
  | 25, _ => exact mf_85
  | 26, _ => exact mf_86
  | 27, _ => exact mf_87
  | 28, _ => exact mf_88
  | 29, _ => exact mf_89
  | j + 30, hj => exact absurd hj (by omega)
theorem mf_r90 : ∀ j, j < 30 → am_mf (90 + j) := by
  intro j hj
  match j, hj with
  | 0, _ => exact mf_90
  | 1, _ => exact mf_91
  | 2, _ => exact mf_92
  | 3, _ => exact mf_93
  | 4, _ => exact mf_94
  | 5, _ => exact mf_95
  | 6, _ => exact mf_96
  | 7, _ => exact mf_97
  | 8, _ => exact mf_98
  | 9, _ => exact mf_99
  | 10, _ => exact mf_100
  | 11, _ => exact mf_101
  | 12, _ => exact mf_102
  | 13, _ => exact mf_103
  | 14, _ => exact mf_104
  | 15, _ => exact mf_105
  | 16, _ => exact mf_106
  | 17, _ => exact mf_107
  | 18, _ => exact mf_108
  | 19, _ => exact mf_109
  | 20, _ => exact mf_110
  | 21, _ => exact mf_111
  | 22, _ => exact mf_112
  | 23, _ => exact mf_113
  | 24, _ => exact mf_114
  | 25, _ => exact mf_115
  | 26, _ => exact mf_116
  | 27, _ => exact mf_117
  | 28, _ => exact mf_118
  | 29, _ => exact mf_119
  | j + 30, hj => exact absurd hj (by omega)
theorem mf_r120 : ∀ j, j < 30 → am_mf (120 + j) := by
  intro j hj
  match j, hj with
  | 0, _ => exact mf_120
  | 1, _ => exact mf_121
  | 2, _ => exact mf_122
  | 3, _ => exact mf_123
  | 4, _ => exact mf_124
  | 5, _ => exact mf_125
  | 6, _ => exact mf_126
  | 7, _ => exact mf_127
  | 8, _ => exact mf_128
  | 9, _ => exact mf_129
  | 10, _ => exact mf_130
  | 11, _ => exact mf_131
  | 12, _ => exact mf_132
  | 13, _ => exact mf_133
  | 14, _ => exact mf_134
  | 15, _ => exact mf_135
  | 16, _ => exact mf_136
  | 17, _ => exact mf_137
  | 18, _ => exact mf_138
  | 19, _ => exact mf_139
  | 20, _ => exact mf_140
  | 21, _ => exact mf_141
  | 22, _ => exact mf_142
  | 23, _ => exact mf_143
  | 24, _ => exact mf_144
  | 25, _ => exact mf_145
  | 26, _ => exact mf_146
  | 27, _ => exact mf_147
  | 28, _ => exact mf_148
  | 29, _ => exact mf_149
  | j + 30, hj => exact absurd hj (by omega)
theorem mf_r150 : ∀ j, j < 30 → am_mf (150 + j) := by
  intro j hj
  match j, hj with
  | 0, _ => exact mf_150
  | 1, _ => exact mf_151
  | 2, _ => exact mf_152
  | 3, _ => exact mf_153
  | 4, _ => exact mf_154
  | 5, _ => exact mf_155
  | 6, _ => exact mf_156
  | 7, _ => exact mf_157
  | 8, _ => exact mf_158
  | 9, _ => exact mf_159
  | 10, _ => exact mf_160
  | 11, _ => exact mf_161
  | 12, _ => exact mf_162
  | 13, _ => exact mf_163
  | 14, _ => exact mf_164
  | 15, _ => exact mf_165
  | 16, _ => exact mf_166
  | 17, _ => exact mf_167
  | 18, _ => exact mf_168
  | 19, _ => exact mf_169
  | 20, _ => exact mf_170
  | 21, _ => exact mf_171
  | 22, _ => exact mf_172
  | 23, _ => exact mf_173
  | 24, _ => exact mf_174
  | 25, _ => exact mf_175
  | 26, _ => exact mf_176
  | 27, _ => exact mf_177
  | 28, _ => exact mf_178
  | 29, _ => exact mf_179
  | j + 30, hj => exact absurd hj (by omega)
theorem mf_r180 : ∀ j, j < 30 → am_mf (180 + j) := by
  intro j hj
  match j, hj with
  | 0, _ => exact mf_180
  | 1, _ => exact mf_181
  | 2, _ => exact mf_182
  | 3, _ => exact mf_183
  | 4, _ => exact mf_184
  | 5, _ => exact mf_185
  | 6, _ => exact mf_186
  | 7, _ => exact mf_187
  | 8, _ => exact mf_188
  | 9, _ => exact mf_189
  | 10, _ => exact mf_190
  | 11, _ => exact mf_191
  | 12, _ => exact mf_192
  | 13, _ => exact mf_193
  | 14, _ => exact mf_194
  | 15, _ => exact mf_195
  | 16, _ => exact mf_196
  | 17, _ => exact mf_197
  | 18, _ => exact mf_198
  | 19, _ => exact mf_199
  | 20, _ => exact mf_200
  | 21, _ => exact mf_201
  | 22, _ => exact mf_202
  | 23, _ => exact mf_203
  | 24, _ => exact mf_204
  | 25, _ => exact mf_205
  | 26, _ => exact mf_206
  | 27, _ => exact mf_207
  | 28, _ => exact mf_208
  | 29, _ => exact mf_209
  | j + 30, hj => exact absurd hj (by omega)
theorem mf_r210 : ∀ j, j < 30 → am_mf (210 + j) := by
  intro j hj
  match j, hj with
  | 0, _ => exact mf_210
  | 1, _ => exact mf_211
  | 2, _ => exact mf_212
  | 3, _ => exact mf_213
  | 4, _ => exact mf_214
  | 5, _ => exact mf_215
  | 6, _ => exact mf_216
  | 7, _ => exact mf_217
  | 8, _ => exact mf_218
  | 9, _ => exact mf_219
  | 10, _ => exact mf_220
  | 11, _ => exact mf_221
  | 12, _ => exact mf_222
  | 13, _ => exact mf_223
  | 14, _ => exact mf_224
  | 15, _ => exact mf_225
  | 16, _ => exact mf_226
  | 17, _ => exact mf_227
  | 18, _ => exact mf_228
  | 19, _ => exact mf_229
  | 20, _ => exact mf_230
  | 21, _ => exact mf_231
  | 22, _ => exact mf_232
  | 23, _ => exact mf_233
  | 24, _ => exact mf_234
  | 25, _ => exact mf_235
  | 26, _ => exact mf_236
  | 27, _ => exact mf_237
  | 28, _ => exact mf_238
  | 29, _ => exact mf_239
  | j + 30, hj => exact absurd hj (by omega)
theorem mf_r240 : ∀ j, j < 30 → am_mf (240 + j) := by
  intro j hj
  match j, hj with
  | 0, _ => exact mf_240
  | 1, _ => exact mf_241
  | 2, _ => exact mf_242
  | 3, _ => exact mf_243
  | 4, _ => exact mf_244
  | 5, _ => exact mf_245
  | 6, _ => exact mf_246
  | 7, _ => exact mf_247
  | 8, _ => exact mf_248
  | 9, _ => exact mf_249
  | 10, _ => exact mf_250
  | 11, _ => exact mf_251
  | 12, _ => exact mf_252
  | 13, _ => exact mf_253
  | 14, _ => exact mf_254
  | 15, _ => exact mf_255
  | 16, _ => exact mf_256
  | 17, _ => exact mf_257
  | 18, _ => exact mf_258
  | 19, _ => exact mf_259
  | 20, _ => exact mf_260
  | 21, _ => exact mf_261
  | 22, _ => exact mf_262
  | 23, _ => exact mf_263
  | 24, _ => exact mf_264
  | 25, _ => exact mf_265
  | 26, _ => exact mf_266
  | 27, _ => exact mf_267
  | 28, _ => exact mf_268
  | 29, _ => exact mf_269
  | j + 30, hj => exact absurd hj (by omega)
theorem mf_r270 : ∀ j, j < 30 → am_mf (270 + j) := by
  intro j hj
  match j, hj with
  | 0, _ => exact mf_270
  | 1, _ => exact mf_271
  | 2, _ => exact mf_272
  | 3, _ => exact mf_273
  | 4, _ => exact mf_274
  | 5, _ => exact mf_275
  | 6, _ => exact mf_276
  | 7, _ => exact mf_277
  | 8, _ => exact mf_278
  | 9, _ => exact mf_279
  | 10, _ => exact mf_280
  | 11, _ => exact mf_281
  | 12, _ => exact mf_282
  | 13, _ => exact mf_283
  | 14, _ => exact mf_284
  | 15, _ => exact mf_285
  | 16, _ => exact mf_286
  | 17, _ => exact mf_287
  | 18, _ => exact mf_288
  | 19, _ => exact mf_289
  | 20, _ => exact mf_290
  | 21, _ => exact mf_291
  | 22, _ => exact mf_292
  | 23, _ => exact mf_293
  | 24, _ => exact mf_294
  | 25, _ => exact mf_295
  | 26, _ => exact mf_296
  | 27, _ => exact mf_297
  | 28, _ => exact mf_298
  | 29, _ => exact mf_299
  | j + 30, hj => exact absurd hj (by omega)
theorem mf_r300 : ∀ j, j < 30 → am_mf (300 + j) := by
  intro j hj
  match j, hj with
  | 0, _ => exact mf_300
  | 1, _ => exact mf_301
  | 2, _ => exact mf_302
  | 3, _ => exact mf_303
  | 4, _ => exact mf_304
  | 5, _ => exact mf_305
  | 6, _ => exact mf_306
  | 7, _ => exact mf_307
  | 8, _ => exact mf_308
  | 9, _ => exact mf_309
  | 10, _ => exact mf_310
  | 11, _ => exact mf_311
  | 12, _ => exact mf_312
  | 13, _ => exact mf_313
  | 14, _ => exact mf_314
  | 15, _ => exact mf_315
  | 16, _ => exact mf_316
  | 17, _ => exact mf_317
  | 18, _ => exact mf_318
  | 19, _ => exact mf_319
  | 20, _ => exact mf_320
  | 21, _ => exact mf_321
  | 22, _ => exact mf_322
  | 23, _ => exact mf_323
  | 24, _ => exact mf_324
  | 25, _ => exact mf_325
  | 26, _ => exact mf_326
  | 27, _ => exact mf_327
  | 28, _ => exact mf_328
  | 29, _ => exact mf_329
  | j + 30, hj => exact absurd hj (by omega)
theorem mf_r330 : ∀ j, j < 30 → am_mf (330 + j) := by
  intro j hj
  match j, hj with
  | 0, _ => exact mf_330
  | 1, _ => exact mf_331
  | 2, _ => exact mf_332
  | 3, _ => exact mf_333
  | 4, _ => exact mf_334
  | 5, _ => exact mf_335
  | 6, _ => exact mf_336
  | 7, _ => exact mf_337
  | 8, _ => exact mf_338
  | 9, _ => exact mf_339
  | 10, _ => exact mf_340
  | 11, _ => exact mf_341
  | 12, _ => exact mf_342
  | 13, _ => exact mf_343
  | 14, _ => exact mf_344
  | 15, _ => exact mf_345
  | 16, _ => exact mf_346
  | 17, _ => exact mf_347
  | 18, _ => exact mf_348
  | 19, _ => exact mf_349
  | 20, _ => exact mf_350
  | 21, _ => exact mf_351
  | 22, _ => exact mf_352
  | 23, _ => exact mf_353
  | 24, _ => exact mf_354
  | 25, _ => exact mf_355
  | 26, _ => exact mf_356
  | 27, _ => exact mf_357
  | 28, _ => exact mf_358
  | 29, _ => exact mf_359
  | j + 30, hj => exact absurd hj (by omega)
theorem mf_r360 : ∀ j, j < 18 → am_mf (360 + j) := by
  intro j hj
  match j, hj with
  | 0, _ => exact mf_360
  | 1, _ => exact mf_361
  | 2, _ => exact mf_362
  | 3, _ => exact mf_363
  | 4, _ => exact mf_364
  | 5, _ => exact mf_365
  | 6, _ => exact mf_366
  | 7, _ => exact mf_367
  | 8, _ => exact mf_368
  | 9, _ => exact mf_369
  | 10, _ => exact mf_370
  | 11, _ => exact mf_371
  | 12, _ => exact mf_372
  | 13, _ => exact mf_373
  | 14, _ => exact mf_374
  | 15, _ => exact mf_375
  | 16, _ => exact mf_376
  | 17, _ => exact mf_377
  | j + 18, hj => exact absurd hj (by omega)
set_option maxRecDepth 100000 in
theorem mf_all : ∀ j, j < 378 → am_mf j := by
  intro j hn
  rcases Nat.lt_or_ge j 30 with h | h
  · have z := mf_r0 (j - 0) (by omega)
    rwa [show 0 + (j - 0) = j by omega] at z
  rcases Nat.lt_or_ge j 60 with h | h
  · have z := mf_r30 (j - 30) (by omega)
    rwa [show 30 + (j - 30) = j by omega] at z
  rcases Nat.lt_or_ge j 90 with h | h
  · have z := mf_r60 (j - 60) (by omega)
    rwa [show 60 + (j - 60) = j by omega] at z
  rcases Nat.lt_or_ge j 120 with h | h
  · have z := mf_r90 (j - 90) (by omega)
    rwa [show 90 + (j - 90) = j by omega] at z
  rcases Nat.lt_or_ge j 150 with h | h
  · have z := mf_r120 (j - 120) (by omega)
    rwa [show 120 + (j - 120) = j by omega] at z
  rcases Nat.lt_or_ge j 180 with h | h
  · have z := mf_r150 (j - 150) (by omega)
    rwa [show 150 + (j - 150) = j by omega] at z
  rcases Nat.lt_or_ge j 210 with h | h
  · have z := mf_r180 (j - 180) (by omega)
    rwa [show 180 + (j - 180) = j by omega] at z
  rcases Nat.lt_or_ge j 240 with h | h
  · have z := mf_r210 (j - 210) (by omega)
    rwa [show 210 + (j - 210) = j by omega] at z
  rcases Nat.lt_or_ge j 270 with h | h
  · have z := mf_r240 (j - 240) (by omega)
    rwa [show 240 + (j - 240) = j by omega] at z
  rcases Nat.lt_or_ge j 300 with h | h
  · have z := mf_r270 (j - 270) (by omega)
    rwa [show 270 + (j - 270) = j by omega] at z
  rcases Nat.lt_or_ge j 330 with h | h
  · have z := mf_r300 (j - 300) (by omega)
    rwa [show 300 + (j - 300) = j by omega] at z
  rcases Nat.lt_or_ge j 360 with h | h
  · have z := mf_r330 (j - 330) (by omega)
    rwa [show 330 + (j - 330) = j by omega] at z
  rcases Nat.lt_or_ge j 378 with h | h
  · have z := mf_r360 (j - 360) (by omega)
    rwa [show 360 + (j - 360) = j by omega] at z
  omega
set_option maxRecDepth 100000 in
theorem am_mfs : ∀ j, am_mf j := by
  intro j
  rcases Nat.lt_or_ge j 378 with h | h
  · exact mf_all j h
  · have hz : am_mk j = (9, 0, 0) := by
      unfold am_mk
      rw [List.getD_eq_getElem?_getD, List.getElem?_eq_none (show am_mkl.length ≤ j from h)]
      rfl
    unfold am_mf
    rw [hz]
    trivial
