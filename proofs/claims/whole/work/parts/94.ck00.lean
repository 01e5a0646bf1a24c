theorem am_ckB_app {k : Nat} : ∀ (a b : List (Option am_E)) (pc : Nat), am_ckB k pc (a ++ b) = (am_ckB k pc a && am_ckB k (pc + a.length) b) := by
  intro a
  induction a with
  | nil => intro b pc; rfl
  | cons x a ih =>
    intro b pc
    match x with
    | none =>
      show am_ckB k (pc + 1) (a ++ b) = (am_ckB k (pc + 1) a && am_ckB k (pc + (a.length + 1)) b)
      rw [ih, show pc + 1 + a.length = pc + (a.length + 1) by omega]
    | some e =>
      show (_ && am_ckB k (pc + 1) (a ++ b)) = ((_ && am_ckB k (pc + 1) a) && am_ckB k (pc + (a.length + 1)) b)
      rw [ih, show pc + 1 + a.length = pc + (a.length + 1) by omega]
      simp only [Bool.and_assoc]
theorem am_ck_cut {k pc n : Nat} {es : List (Option am_E)} (hn : n ≤ es.length) (h1 : am_ckB k pc (es.take n) = true) (h2 : am_ckB k (pc + n) (es.drop n) = true) : am_ckB k pc es = true := by
  have e := am_ckB_app (k := k) (es.take n) (es.drop n) pc
  rw [List.take_append_drop, List.length_take, Nat.min_eq_left hn, h1, h2] at e
  exact e
set_option maxRecDepth 100000 in
theorem lk_0 : am_ckB 0 0 ((co_L_law.drop 0).take 100) = true := by decide +kernel
set_option maxRecDepth 100000 in
theorem lk_1 : am_ckB 0 100 ((co_L_law.drop 100).take 100) = true := by decide +kernel
set_option maxRecDepth 100000 in
theorem lk_2 : am_ckB 0 200 ((co_L_law.drop 200).take 100) = true := by decide +kernel
set_option maxRecDepth 100000 in
theorem lk_3 : am_ckB 0 300 ((co_L_law.drop 300).take 100) = true := by decide +kernel
set_option maxRecDepth 100000 in
theorem lk_4 : am_ckB 0 400 ((co_L_law.drop 400).take 100) = true := by decide +kernel
set_option maxRecDepth 100000 in
theorem lk_5 : am_ckB 0 500 ((co_L_law.drop 500).take 100) = true := by decide +kernel
set_option maxRecDepth 100000 in
theorem lk_6 : am_ckB 0 600 ((co_L_law.drop 600).take 100) = true := by decide +kernel
set_option maxRecDepth 100000 in
theorem lk_7 : am_ckB 0 700 ((co_L_law.drop 700).take 100) = true := by decide +kernel
set_option maxRecDepth 100000 in
theorem lk_8 : am_ckB 0 800 ((co_L_law.drop 800).take 100) = true := by decide +kernel
set_option maxRecDepth 100000 in
theorem lk_9 : am_ckB 0 900 ((co_L_law.drop 900).take 100) = true := by decide +kernel
set_option maxRecDepth 100000 in
theorem lk_10 : am_ckB 0 1000 ((co_L_law.drop 1000).take 100) = true := by decide +kernel
set_option maxRecDepth 100000 in
theorem lk_11 : am_ckB 0 1100 ((co_L_law.drop 1100).take 100) = true := by decide +kernel
set_option maxRecDepth 100000 in
theorem lk_12 : am_ckB 0 1200 ((co_L_law.drop 1200).take 100) = true := by decide +kernel
set_option maxRecDepth 100000 in
theorem lk_13 : am_ckB 0 1300 ((co_L_law.drop 1300).take 100) = true := by decide +kernel
set_option maxRecDepth 100000 in
theorem lk_14 : am_ckB 0 1400 ((co_L_law.drop 1400).take 100) = true := by decide +kernel
set_option maxRecDepth 100000 in
theorem lk_15 : am_ckB 0 1500 ((co_L_law.drop 1500).take 100) = true := by decide +kernel
set_option maxRecDepth 100000 in
theorem lk_16 : am_ckB 0 1600 ((co_L_law.drop 1600).take 100) = true := by decide +kernel
set_option maxRecDepth 100000 in
theorem lj_16 : am_ckB 0 1600 (co_L_law.drop 1600) = true := by decide +kernel
set_option maxRecDepth 100000 in
theorem lj_15 : am_ckB 0 1500 (co_L_law.drop 1500) = true := am_ck_cut (n := 100) (by decide +kernel) lk_15 (by rw [List.drop_drop]; exact lj_16)
set_option maxRecDepth 100000 in
theorem lj_14 : am_ckB 0 1400 (co_L_law.drop 1400) = true := am_ck_cut (n := 100) (by decide +kernel) lk_14 (by rw [List.drop_drop]; exact lj_15)
set_option maxRecDepth 100000 in
theorem lj_13 : am_ckB 0 1300 (co_L_law.drop 1300) = true := am_ck_cut (n := 100) (by decide +kernel) lk_13 (by rw [List.drop_drop]; exact lj_14)
set_option maxRecDepth 100000 in
theorem lj_12 : am_ckB 0 1200 (co_L_law.drop 1200) = true := am_ck_cut (n := 100) (by decide +kernel) lk_12 (by rw [List.drop_drop]; exact lj_13)
set_option maxRecDepth 100000 in
theorem lj_11 : am_ckB 0 1100 (co_L_law.drop 1100) = true := am_ck_cut (n := 100) (by decide +kernel) lk_11 (by rw [List.drop_drop]; exact lj_12)
set_option maxRecDepth 100000 in
theorem lj_10 : am_ckB 0 1000 (co_L_law.drop 1000) = true := am_ck_cut (n := 100) (by decide +kernel) lk_10 (by rw [List.drop_drop]; exact lj_11)
set_option maxRecDepth 100000 in
theorem lj_9 : am_ckB 0 900 (co_L_law.drop 900) = true := am_ck_cut (n := 100) (by decide +kernel) lk_9 (by rw [List.drop_drop]; exact lj_10)
set_option maxRecDepth 100000 in
theorem lj_8 : am_ckB 0 800 (co_L_law.drop 800) = true := am_ck_cut (n := 100) (by decide +kernel) lk_8 (by rw [List.drop_drop]; exact lj_9)
set_option maxRecDepth 100000 in
theorem lj_7 : am_ckB 0 700 (co_L_law.drop 700) = true := am_ck_cut (n := 100) (by decide +kernel) lk_7 (by rw [List.drop_drop]; exact lj_8)
set_option maxRecDepth 100000 in
theorem lj_6 : am_ckB 0 600 (co_L_law.drop 600) = true := am_ck_cut (n := 100) (by decide +kernel) lk_6 (by rw [List.drop_drop]; exact lj_7)
set_option maxRecDepth 100000 in
theorem lj_5 : am_ckB 0 500 (co_L_law.drop 500) = true := am_ck_cut (n := 100) (by decide +kernel) lk_5 (by rw [List.drop_drop]; exact lj_6)
set_option maxRecDepth 100000 in
theorem lj_4 : am_ckB 0 400 (co_L_law.drop 400) = true := am_ck_cut (n := 100) (by decide +kernel) lk_4 (by rw [List.drop_drop]; exact lj_5)
set_option maxRecDepth 100000 in
theorem lj_3 : am_ckB 0 300 (co_L_law.drop 300) = true := am_ck_cut (n := 100) (by decide +kernel) lk_3 (by rw [List.drop_drop]; exact lj_4)
set_option maxRecDepth 100000 in
theorem lj_2 : am_ckB 0 200 (co_L_law.drop 200) = true := am_ck_cut (n := 100) (by decide +kernel) lk_2 (by rw [List.drop_drop]; exact lj_3)
set_option maxRecDepth 100000 in
theorem lj_1 : am_ckB 0 100 (co_L_law.drop 100) = true := am_ck_cut (n := 100) (by decide +kernel) lk_1 (by rw [List.drop_drop]; exact lj_2)
set_option maxRecDepth 100000 in
theorem lj_0 : am_ckB 0 0 (co_L_law.drop 0) = true := am_ck_cut (n := 100) (by decide +kernel) lk_0 (by rw [List.drop_drop]; exact lj_1)
set_option maxRecDepth 100000 in
theorem ck_L_law : am_gd 0 := am_gd_of am_mfs (show am_ckB 0 0 co_L_law = true from lj_0) (wc_0 wd_175 (wc_0 wd_177 (wc_0 wd_1535 (wc_0 wd_1537 (wc_0 wd_596 (wc_0 wd_1678 (wc_0 wd_604 (wc_0 wd_1682 (wc_0 wd_957 (wc_0 wd_1795 (wc_0 wd_961 (wc_0 wd_1799 (wc_0 wd_967 (wc_0 wd_1811 (wc_0 wd_976 (wc_0 wd_1819 (wc_0 wd_984 (wc_0 wd_1847 (wc_0 wd_989 (wc_0 wd_1851 (wc_0 wd_997 (wc_0 wd_1859 (wc_0 wd_1005 (wc_0 wd_1867 (wc_0 wd_1009 (wc_0 wd_1874 (wc_0 wd_1034 (wc_0 wd_1902 (wc_0 wd_1042 (wc_0 wd_1914 (wc_0 wd_1050 (wc_0 wd_1926 (wc_0 wd_1055 (wc_0 wd_1935 (wc_0 wd_1063 (wc_0 wd_1940 (wc_0 wd_1071 (wc_0 wd_1945 (wc_0 wd_1109 (wc_0 wd_1987 (wc_0 wd_1117 (wc_0 wd_1991 (wc_0 wd_1128 (wc_0 wd_2005 (wc_0 wd_1167 (wc_0 wd_2024 (wc_0 wd_1179 (wc_0 wd_2028 (wc_0 wd_1208 (wc_0 wd_2040 (wc_0 wd_1220 (wc_0 wd_2052 (wc_0 wd_1230 (wc_0 wd_2056 (wc_0 wd_1269 (wc_0 wd_2075 (wc_0 wd_1275 (wc_0 wd_2083 (wc_0 wd_1284 (wc_0 wd_2087 (wc_0 wd_1330 (wc_0 wd_2122 (wc_0 wd_1339 (wc_0 wd_2126 (wc_0 wd_1343 (wc_0 wd_2130 (wc_0 wd_1358 (wc_0 wd_2138 (wc_0 wd_1362 (wc_0 wd_2142 (wc_0 wd_1366 (wc_0 wd_2146 (wc_0 wd_1375 (wc_0 wd_2158 (wc_0 wd_1379 (wc_0 wd_2162 (wc_0 wd_1387 (wc_0 wd_2174 (wc_0 wd_1414 (wc_0 wd_2194 (wc_0 wd_1422 (wc_0 wd_2198 (wc_0 wd_1443 (wc_0 wd_2216 (wc_0 wd_1453 (wc_0 wd_2225 (wc_0 wd_1481 (wc_0 wd_2243 (wc_0 wd_1485 (wc_0 wd_2247 (wc_0 wd_2279 (wc_0 wd_1496 (wc_0 wd_2279 (wc_0 wd_2251 (wc_0 wd_1509 (wc_0 wd_2259 (wc_0 wd_1514 (wc_0 wd_2263 (wc_0 wd_1523 (wc_0 wd_2267 (wc_0 wd_1527 (wc_0 wd_2271 (wc_e)))))))))))))))))))))))))))))))))))))))))))))))))))))))))))))))))))))))))))))))))))))))))))))))))))))))
set_option maxRecDepth 100000 in
theorem ck_X0_init : am_gd 1 := am_gd_of am_mfs (by decide +kernel) (wc_0 wd_367 (wc_0 wd_222 (wc_0 wd_371 (wc_0 wd_222 (wc_0 wd_372 (wc_0 wd_222 (wc_0 wd_373 (wc_0 wd_222 (wc_0 wd_374 (wc_0 wd_222 (wc_0 wd_376 (wc_0 wd_368 (wc_0 wd_369 (wc_e))))))))))))))
set_option maxRecDepth 100000 in
theorem ck_J7_fill_53178 : am_gd 2 := am_gd_of am_mfs (by decide +kernel) (wc_e)
set_option maxRecDepth 100000 in
theorem ck_X1_hasClass : am_gd 3 := am_gd_of am_mfs (by decide +kernel) (wc_0 wd_195 (wc_e))
set_option maxRecDepth 100000 in
theorem ck_X1_parentCount : am_gd 4 := am_gd_of am_mfs (by decide +kernel) (wc_0 wd_207 (wc_e))
set_option maxRecDepth 100000 in
theorem ck_X1_parentAt : am_gd 5 := am_gd_of am_mfs (by decide +kernel) (wc_0 wd_804 (wc_0 wd_208 (wc_e)))
set_option maxRecDepth 100000 in
theorem ck_X1_ancestors : am_gd 6 := am_gd_of am_mfs (by decide +kernel) (wc_0 wd_825 (wc_0 wd_804 (wc_0 wd_808 (wc_e))))
set_option maxRecDepth 100000 in
theorem ck_X0_isMember : am_gd 7 := am_gd_of am_mfs (by decide +kernel) (wc_e)
set_option maxRecDepth 100000 in
theorem ck_X0_add : am_gd 8 := am_gd_of am_mfs (by decide +kernel) (wc_0 wd_1148 (wc_0 wd_1148 (wc_0 wd_371 (wc_0 wd_372 (wc_e)))))
set_option maxRecDepth 100000 in
theorem ck_X6_sizeOf : am_gd 9 := am_gd_of am_mfs (by decide +kernel) (wc_0 wd_314 (wc_e))
set_option maxRecDepth 100000 in
theorem ck_X6_at : am_gd 10 := am_gd_of am_mfs (by decide +kernel) (wc_0 wd_314 (wc_0 wd_315 (wc_e)))
set_option maxRecDepth 100000 in
theorem ck_X0_addOrderOf : am_gd 11 := am_gd_of am_mfs (by decide +kernel) (wc_0 wd_369 (wc_0 wd_1155 (wc_0 wd_369 (wc_0 wd_1155 (wc_0 wd_369 (wc_0 wd_1156 (wc_0 wd_369 (wc_0 wd_1156 (wc_0 wd_1144 (wc_e))))))))))
set_option maxRecDepth 100000 in
theorem ck_X0_gather : am_gd 12 := am_gd_of am_mfs (by decide +kernel) (wc_0 wd_371 (wc_0 wd_1140 (wc_0 wd_372 (wc_0 wd_1140 (wc_0 wd_368 (wc_0 wd_1141 (wc_0 wd_370 (wc_0 wd_368 (wc_0 wd_1142 (wc_0 wd_368 (wc_0 wd_1143 (wc_0 wd_1144 (wc_0 wd_368 (wc_0 wd_1143 (wc_0 wd_1144 (wc_0 wd_1151 (wc_e)))))))))))))))))
set_option maxRecDepth 100000 in
theorem ck_X0_isDemanded : am_gd 13 := am_gd_of am_mfs (by decide +kernel) (wc_0 wd_1148 (wc_0 wd_1148 (wc_0 wd_371 (wc_e))))
set_option maxRecDepth 100000 in
theorem ck_J6_bitCount_0f7a4 : am_gd 14 := am_gd_of am_mfs (by decide +kernel) (wc_0 wd_1164 (wc_0 wd_1165 (wc_0 wd_1165 (wc_0 wd_1166 (wc_e)))))
set_option maxRecDepth 100000 in
theorem ck_X0_size : am_gd 15 := am_gd_of am_mfs (by decide +kernel) (wc_0 wd_371 (wc_0 wd_1161 (wc_e)))
set_option maxRecDepth 100000 in
theorem ck_X0_at : am_gd 16 := am_gd_of am_mfs (by decide +kernel) (wc_0 wd_1175 (wc_e))
set_option maxRecDepth 100000 in
theorem ck_X0_ringAt : am_gd 17 := am_gd_of am_mfs (by decide +kernel) (wc_0 wd_375 (wc_0 wd_374 (wc_0 wd_374 (wc_e))))
set_option maxRecDepth 100000 in
theorem ck_X0_distance : am_gd 18 := am_gd_of am_mfs (by decide +kernel) (wc_0 wd_1148 (wc_0 wd_1148 (wc_0 wd_373 (wc_e))))
set_option maxRecDepth 100000 in
theorem ck_X0_measure : am_gd 19 := am_gd_of am_mfs (by decide +kernel) (wc_0 wd_373 (wc_0 wd_1175 (wc_0 wd_1191 (wc_0 wd_1191 (wc_0 wd_373 (wc_0 wd_1191 (wc_0 wd_1195 (wc_e))))))))
set_option maxRecDepth 100000 in
theorem ck_X0_startOfRing : am_gd 20 := am_gd_of am_mfs (by decide +kernel) (wc_0 wd_1191 (wc_0 wd_1191 (wc_e)))
set_option maxRecDepth 100000 in
theorem ck_X0_nextOfRing : am_gd 21 := am_gd_of am_mfs (by decide +kernel) (wc_0 wd_1175 (wc_0 wd_1191 (wc_e)))
set_option maxRecDepth 100000 in
theorem ck_X0_findRing : am_gd 22 := am_gd_of am_mfs (by decide +kernel) (wc_0 wd_1187 (wc_0 wd_375 (wc_0 wd_1196 (wc_0 wd_1191 (wc_0 wd_375 (wc_0 wd_374 (wc_0 wd_374 (wc_0 wd_375 (wc_0 wd_375 (wc_0 wd_375 (wc_0 wd_1200 (wc_e))))))))))))
set_option maxRecDepth 100000 in
theorem ck_X0_endingsBehind : am_gd 23 := am_gd_of am_mfs (by decide +kernel) (wc_0 wd_370 (wc_0 wd_372 (wc_0 wd_376 (wc_0 wd_376 (wc_e)))))
set_option maxRecDepth 100000 in
theorem ck_X0_rowsThatMeetAll : am_gd 24 := am_gd_of am_mfs (by decide +kernel) (wc_0 wd_370 (wc_0 wd_370 (wc_0 wd_376 (wc_0 wd_376 (wc_0 wd_370 (wc_0 wd_370 (wc_0 wd_370 (wc_0 wd_376 (wc_0 wd_1216 (wc_0 wd_376 (wc_e)))))))))))
set_option maxRecDepth 100000 in
theorem ck_X0_rowsAheadOfOrder : am_gd 25 := am_gd_of am_mfs (by decide +kernel) (wc_0 wd_1229 (wc_0 wd_369 (wc_0 wd_1155 (wc_0 wd_369 (wc_0 wd_1156 (wc_0 wd_1216 (wc_e)))))))
set_option maxRecDepth 100000 in
theorem ck_X1_init : am_gd 26 := am_gd_of am_mfs (by decide +kernel) (wc_0 wd_194 (wc_0 wd_222 (wc_0 wd_207 (wc_0 wd_222 (wc_0 wd_208 (wc_0 wd_222 (wc_0 wd_209 (wc_e))))))))
set_option maxRecDepth 100000 in
theorem ck_X1_clear : am_gd 27 := am_gd_of am_mfs (by decide +kernel) (wc_0 wd_195 (wc_0 wd_203 (wc_0 wd_207 (wc_0 wd_622 (wc_0 wd_208 (wc_0 wd_622 (wc_0 wd_209 (wc_0 wd_622 (wc_e)))))))))
set_option maxRecDepth 100000 in
theorem ck_X1_copyFrom : am_gd 28 := am_gd_of am_mfs (by decide +kernel) (wc_0 wd_195 (wc_0 wd_195 (wc_0 wd_203 (wc_0 wd_203 (wc_0 wd_207 (wc_0 wd_207 (wc_0 wd_207 (wc_0 wd_906 (wc_0 wd_208 (wc_0 wd_208 (wc_0 wd_208 (wc_0 wd_906 (wc_0 wd_209 (wc_0 wd_209 (wc_0 wd_209 (wc_0 wd_906 (wc_e)))))))))))))))))
set_option maxRecDepth 100000 in
theorem ck_X1_parentPlace : am_gd 29 := am_gd_of am_mfs (by decide +kernel) (wc_0 wd_804 (wc_0 wd_808 (wc_e)))
set_option maxRecDepth 100000 in
theorem ck_X1_listParents : am_gd 30 := am_gd_of am_mfs (by decide +kernel) (wc_0 wd_804 (wc_0 wd_808 (wc_e)))
set_option maxRecDepth 100000 in
theorem ck_X11_isMethod : am_gd 31 := am_gd_of am_mfs (by decide +kernel) (wc_e)
set_option maxRecDepth 100000 in
theorem ck_X1_definitionAt : am_gd 32 := am_gd_of am_mfs (by decide +kernel) (wc_0 wd_829 (wc_0 wd_209 (wc_e)))
set_option maxRecDepth 100000 in
theorem ck_X1_links : am_gd 33 := am_gd_of am_mfs (by decide +kernel) (wc_0 wd_195 (wc_0 wd_804 (wc_e)))
set_option maxRecDepth 100000 in
theorem ck_X1_definitionCount : am_gd 34 := am_gd_of am_mfs (by decide +kernel) (wc_0 wd_209 (wc_e))
set_option maxRecDepth 100000 in
theorem ck_X1_appendParent : am_gd 35 := am_gd_of am_mfs (by decide +kernel) (wc_0 wd_804 (wc_0 wd_208 (wc_0 wd_207 (wc_e))))
set_option maxRecDepth 100000 in
theorem ck_X1_addParent : am_gd 36 := am_gd_of am_mfs (by decide +kernel) (wc_0 wd_825 (wc_0 wd_1018 (wc_0 wd_804 (wc_0 wd_1019 (wc_e)))))
set_option maxRecDepth 100000 in
theorem ck_X1_removeParent : am_gd 37 := am_gd_of am_mfs (by decide +kernel) (wc_0 wd_825 (wc_0 wd_825 (wc_0 wd_1018 (wc_0 wd_804 (wc_0 wd_208 (wc_0 wd_208 (wc_0 wd_207 (wc_e))))))))
set_option maxRecDepth 100000 in
theorem ck_X1_turnParents : am_gd 38 := am_gd_of am_mfs (by decide +kernel) (wc_0 wd_825 (wc_0 wd_804 (wc_0 wd_208 (wc_0 wd_208 (wc_0 wd_208 (wc_0 wd_208 (wc_e)))))))
set_option maxRecDepth 100000 in
theorem ck_X1_putDefinition : am_gd 39 := am_gd_of am_mfs (by decide +kernel) (wc_0 wd_825 (wc_0 wd_829 (wc_0 wd_209 (wc_0 wd_209 (wc_e)))))
set_option maxRecDepth 100000 in
theorem ck_X1_putMood : am_gd 40 := am_gd_of am_mfs (by decide +kernel) (wc_0 wd_203 (wc_e))
set_option maxRecDepth 100000 in
theorem ck_X1_doDeed : am_gd 41 := am_gd_of am_mfs (by decide +kernel) (wc_0 wd_1094 (wc_0 wd_1095 (wc_0 wd_1096 (wc_0 wd_1097 (wc_0 wd_1098 (wc_0 wd_1099 (wc_0 wd_1100 (wc_e))))))))
set_option maxRecDepth 100000 in
theorem ck_X2_init : am_gd 42 := am_gd_of am_mfs (by decide +kernel) (wc_0 wd_282 (wc_0 wd_283 (wc_0 wd_284 (wc_0 wd_285 (wc_e)))))
set_option maxRecDepth 100000 in
theorem ck_X2_copyFrom : am_gd 43 := am_gd_of am_mfs (by decide +kernel) (wc_0 wd_285 (wc_0 wd_285 (wc_0 wd_1522 (wc_0 wd_289 (wc_0 wd_289 (wc_0 wd_292 (wc_0 wd_292 (wc_0 wd_295 (wc_0 wd_295 (wc_e))))))))))
set_option maxRecDepth 100000 in
theorem ck_X6_init : am_gd 44 := am_gd_of am_mfs (by decide +kernel) (wc_0 wd_312 (wc_0 wd_222 (wc_0 wd_313 (wc_0 wd_222 (wc_0 wd_314 (wc_0 wd_222 (wc_0 wd_315 (wc_0 wd_222 (wc_0 wd_316 (wc_0 wd_222 (wc_0 wd_317 (wc_0 wd_222 (wc_0 wd_318 (wc_0 wd_222 (wc_0 wd_319 (wc_0 wd_222 (wc_0 wd_320 (wc_0 wd_222 (wc_0 wd_321 (wc_e))))))))))))))))))))
set_option maxRecDepth 100000 in
theorem ck_X3_init : am_gd 45 := am_gd_of am_mfs (by decide +kernel) (wc_0 wd_492 (wc_0 wd_493 (wc_0 wd_494 (wc_0 wd_495 (wc_0 wd_222 (wc_0 wd_496 (wc_0 wd_503 (wc_e))))))))
set_option maxRecDepth 100000 in
theorem ck_X3_tally : am_gd 46 := am_gd_of am_mfs (by decide +kernel) (wc_0 wd_496 (wc_0 wd_1468 (wc_0 wd_497 (wc_0 wd_497 (wc_0 wd_497 (wc_0 wd_497 (wc_0 wd_496 (wc_0 wd_496 (wc_e)))))))))
set_option maxRecDepth 100000 in
theorem ck_X6_hasOrder : am_gd 47 := am_gd_of am_mfs (by decide +kernel) (wc_0 wd_314 (wc_e))
set_option maxRecDepth 100000 in
theorem ck_X6_layRows : am_gd 48 := am_gd_of am_mfs (by decide +kernel) (wc_0 wd_936 (wc_0 wd_318 (wc_0 wd_940 (wc_0 wd_319 (wc_0 wd_321 (wc_0 wd_318 (wc_0 wd_941 (wc_0 wd_317 (wc_0 wd_321 (wc_0 wd_320 (wc_0 wd_318 (wc_0 wd_317 (wc_e)))))))))))))
set_option maxRecDepth 100000 in
theorem ck_X6_firstFree : am_gd 49 := am_gd_of am_mfs (by decide +kernel) (wc_0 wd_321 (wc_0 wd_320 (wc_0 wd_320 (wc_0 wd_320 (wc_e)))))
set_option maxRecDepth 100000 in
theorem ck_X6_takeFromAll : am_gd 50 := am_gd_of am_mfs (by decide +kernel) (wc_0 wd_320 (wc_0 wd_319 (wc_0 wd_319 (wc_0 wd_318 (wc_0 wd_319 (wc_0 wd_320 (wc_0 wd_317 (wc_0 wd_319 (wc_0 wd_321 (wc_0 wd_320 (wc_e)))))))))))
set_option maxRecDepth 100000 in
theorem ck_X6_isAllTaken : am_gd 51 := am_gd_of am_mfs (by decide +kernel) (wc_0 wd_320 (wc_e))
set_option maxRecDepth 100000 in
theorem ck_X6_settle : am_gd 52 := am_gd_of am_mfs (by decide +kernel) (wc_0 wd_314 (wc_0 wd_313 (wc_0 wd_928 (wc_0 wd_932 (wc_0 wd_315 (wc_0 wd_945 (wc_0 wd_315 (wc_0 wd_949 (wc_0 wd_945 (wc_0 wd_313 (wc_0 wd_953 (wc_0 wd_314 (wc_0 wd_313 (wc_0 wd_313 (wc_e)))))))))))))))
set_option maxRecDepth 100000 in
theorem ck_X6_settleSwapped : am_gd 53 := am_gd_of am_mfs (by decide +kernel) (wc_0 wd_316 (wc_0 wd_920 (wc_0 wd_316 (wc_0 wd_316 (wc_0 wd_316 (wc_0 wd_316 (wc_0 wd_316 (wc_0 wd_924 (wc_e)))))))))
set_option maxRecDepth 100000 in
theorem ck_X6_settleWithout : am_gd 54 := am_gd_of am_mfs (by decide +kernel) (wc_0 wd_316 (wc_0 wd_316 (wc_0 wd_920 (wc_0 wd_924 (wc_e)))))
set_option maxRecDepth 100000 in
theorem ck_X3_orderedIf : am_gd 55 := am_gd_of am_mfs (by decide +kernel) (wc_0 wd_196 (wc_0 wd_495 (wc_0 wd_1473 (wc_0 wd_495 (wc_0 wd_1477 (wc_e))))))
set_option maxRecDepth 100000 in
theorem ck_X3_learn : am_gd 56 := am_gd_of am_mfs (by decide +kernel) (wc_0 wd_503 (wc_0 wd_503 (wc_0 wd_1464 (wc_0 wd_499 (wc_0 wd_501 (wc_0 wd_496 (wc_0 wd_496 (wc_0 wd_1469 (wc_0 wd_501 (wc_0 wd_496 (wc_0 wd_501 (wc_0 wd_499 (wc_0 wd_196 (wc_0 wd_496 (wc_0 wd_499 (wc_e))))))))))))))))
set_option maxRecDepth 100000 in
theorem ck_X4_init : am_gd 57 := am_gd_of am_mfs (by decide +kernel) (wc_0 wd_466 (wc_0 wd_467 (wc_0 wd_468 (wc_0 wd_469 (wc_0 wd_222 (wc_0 wd_470 (wc_0 wd_222 (wc_0 wd_471 (wc_e)))))))))
set_option maxRecDepth 100000 in
theorem ck_X4_placesOf : am_gd 58 := am_gd_of am_mfs (by decide +kernel) (wc_e)
set_option maxRecDepth 100000 in
theorem ck_X4_mendFrom : am_gd 59 := am_gd_of am_mfs (by decide +kernel) (wc_0 wd_197 (wc_0 wd_1399 (wc_0 wd_1400 (wc_0 wd_1401 (wc_0 wd_1402 (wc_0 wd_469 (wc_0 wd_1405 (wc_0 wd_470 (wc_0 wd_1395 (wc_e))))))))))
set_option maxRecDepth 100000 in
theorem ck_X4_noteLinks : am_gd 60 := am_gd_of am_mfs (by decide +kernel) (wc_0 wd_197 (wc_0 wd_470 (wc_0 wd_471 (wc_0 wd_471 (wc_0 wd_1413 (wc_e))))))
set_option maxRecDepth 100000 in
theorem ck_X4_learn : am_gd 61 := am_gd_of am_mfs (by decide +kernel) (wc_0 wd_474 (wc_0 wd_474 (wc_0 wd_472 (wc_0 wd_472 (wc_0 wd_1395 (wc_0 wd_472 (wc_0 wd_1409 (wc_e))))))))
set_option maxRecDepth 100000 in
theorem ck_X4_linkAt : am_gd 62 := am_gd_of am_mfs (by decide +kernel) (wc_0 wd_472 (wc_0 wd_471 (wc_0 wd_471 (wc_e))))
set_option maxRecDepth 100000 in
theorem ck_X5_init : am_gd 63 := am_gd_of am_mfs (by decide +kernel) (wc_0 wd_401 (wc_0 wd_222 (wc_0 wd_402 (wc_0 wd_222 (wc_0 wd_403 (wc_0 wd_222 (wc_0 wd_404 (wc_e))))))))
set_option maxRecDepth 100000 in
theorem ck_X5_sizeOf : am_gd 64 := am_gd_of am_mfs (by decide +kernel) (wc_0 wd_402 (wc_e))
set_option maxRecDepth 100000 in
theorem ck_X5_at : am_gd 65 := am_gd_of am_mfs (by decide +kernel) (wc_0 wd_1252 (wc_0 wd_403 (wc_e)))
set_option maxRecDepth 100000 in
theorem ck_X5_append : am_gd 66 := am_gd_of am_mfs (by decide +kernel) (wc_0 wd_402 (wc_0 wd_403 (wc_0 wd_402 (wc_0 wd_402 (wc_e)))))
set_option maxRecDepth 100000 in
theorem ck_X5_appendByDepth : am_gd 67 := am_gd_of am_mfs (by decide +kernel) (wc_0 wd_1250 (wc_0 wd_1251 (wc_0 wd_1252 (wc_0 wd_1256 (wc_0 wd_1242 (wc_e))))))
