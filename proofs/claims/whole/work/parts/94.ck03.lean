set_option maxRecDepth 100000 in
theorem ck_X12_whyNot : am_gd 300 := am_gd_of am_mfs (by decide +kernel) (wc_0 wd_1944 (wc_0 wd_1962 (wc_0 wd_1686 (wc_0 wd_1963 (wc_0 wd_1964 (wc_0 wd_1686 (wc_0 wd_1963 (wc_0 wd_1944 (wc_0 wd_1944 (wc_0 wd_1878 (wc_0 wd_1965 (wc_0 wd_1966 (wc_0 wd_1686 (wc_0 wd_1965 (wc_0 wd_1944 (wc_0 wd_1944 (wc_0 wd_1906 (wc_0 wd_1967 (wc_0 wd_1968 (wc_0 wd_1686 (wc_0 wd_1967 (wc_0 wd_1944 (wc_0 wd_1944 (wc_0 wd_1918 (wc_0 wd_1969 (wc_0 wd_1970 (wc_0 wd_1686 (wc_0 wd_1944 (wc_0 wd_1944 (wc_0 wd_1944 (wc_0 wd_1969 (wc_0 wd_1963 (wc_0 wd_1930 (wc_e))))))))))))))))))))))))))))))))))
set_option maxRecDepth 100000 in
theorem ck_X12_does : am_gd 301 := am_gd_of am_mfs (by decide +kernel) (wc_0 wd_1545 (wc_0 wd_1890 (wc_0 wd_1882 (wc_0 wd_1910 (wc_0 wd_1922 (wc_0 wd_1545 (wc_e)))))))
set_option maxRecDepth 100000 in
theorem ck_X12_tells : am_gd 302 := am_gd_of am_mfs (by decide +kernel) (wc_0 wd_1569 (wc_0 wd_1586 (wc_0 wd_1587 (wc_0 wd_1958 (wc_0 wd_1569 (wc_0 wd_1569 (wc_0 wd_1587 (wc_0 wd_1971 (wc_0 wd_1586 (wc_e))))))))))
set_option maxRecDepth 100000 in
theorem ck_X12_noTray : am_gd 303 := am_gd_of am_mfs (by decide +kernel) (wc_0 wd_1949 (wc_0 wd_1686 (wc_0 wd_1585 (wc_e))))
set_option maxRecDepth 100000 in
theorem ck_X12_links : am_gd 304 := am_gd_of am_mfs (by decide +kernel) (wc_0 wd_1545 (wc_0 wd_1545 (wc_e)))
set_option maxRecDepth 100000 in
theorem ck_X12_judge : am_gd 305 := am_gd_of am_mfs (by decide +kernel) (wc_0 wd_1544 (wc_0 wd_1949 (wc_0 wd_1686 (wc_0 wd_1950 (wc_0 wd_1886 (wc_0 wd_1954 (wc_0 wd_1823 (wc_0 wd_1975 (wc_0 wd_1979 (wc_0 wd_1983 (wc_0 wd_1569 (wc_0 wd_1569 (wc_e)))))))))))))
set_option maxRecDepth 100000 in
theorem ck_X12_perform : am_gd 306 := am_gd_of am_mfs (by decide +kernel) (wc_0 wd_1544 (wc_0 wd_1950 (wc_0 wd_1886 (wc_0 wd_1954 (wc_0 wd_1898 (wc_e))))))
set_option maxRecDepth 100000 in
theorem ck_X12_draw : am_gd 307 := am_gd_of am_mfs (by decide +kernel) (wc_0 wd_2004 (wc_0 wd_1570 (wc_0 wd_1570 (wc_0 wd_1570 (wc_e)))))
set_option maxRecDepth 100000 in
theorem ck_X12_drawn : am_gd 308 := am_gd_of am_mfs (by decide +kernel) (wc_0 wd_2000 (wc_0 wd_2000 (wc_0 wd_2000 (wc_0 wd_2000 (wc_e)))))
set_option maxRecDepth 100000 in
theorem ck_X12_day : am_gd 309 := am_gd_of am_mfs (by decide +kernel) (wc_0 wd_1544 (wc_0 wd_1995 (wc_0 wd_1686 (wc_0 wd_1886 (wc_0 wd_1570 (wc_0 wd_1996 (wc_0 wd_1958 (wc_0 wd_1971 (wc_0 wd_1898 (wc_e))))))))))
set_option maxRecDepth 100000 in
theorem ck_X12_demandsRow : am_gd 310 := am_gd_of am_mfs (by decide +kernel) (wc_0 wd_1571 (wc_0 wd_1565 (wc_0 wd_1565 (wc_e))))
set_option maxRecDepth 100000 in
theorem ck_X12_laysDemands : am_gd 311 := am_gd_of am_mfs (by decide +kernel) (wc_0 wd_1571 (wc_0 wd_1827 (wc_0 wd_1839 (wc_0 wd_1567 (wc_0 wd_1563 (wc_0 wd_1564 (wc_0 wd_1563 (wc_0 wd_2017 (wc_0 wd_1567 (wc_0 wd_1571 (wc_0 wd_1566 (wc_e))))))))))))
set_option maxRecDepth 100000 in
theorem ck_X12_noDemands : am_gd 312 := am_gd_of am_mfs (by decide +kernel) (wc_0 wd_1803 (wc_0 wd_1823 (wc_0 wd_1562 (wc_0 wd_2013 (wc_e)))))
set_option maxRecDepth 100000 in
theorem ck_X12_demands : am_gd 313 := am_gd_of am_mfs (by decide +kernel) (wc_0 wd_1544 (wc_0 wd_2009 (wc_0 wd_1571 (wc_0 wd_2021 (wc_e)))))
set_option maxRecDepth 100000 in
theorem ck_X12_demand : am_gd 314 := am_gd_of am_mfs (by decide +kernel) (wc_0 wd_1544 (wc_0 wd_1803 (wc_0 wd_2009 (wc_0 wd_1571 (wc_0 wd_1871 (wc_e))))))
set_option maxRecDepth 100000 in
theorem ck_X12_isRing : am_gd 315 := am_gd_of am_mfs (by decide +kernel) (wc_0 wd_1572 (wc_0 wd_1571 (wc_0 wd_1572 (wc_0 wd_1871 (wc_0 wd_1572 (wc_0 wd_1545 (wc_0 wd_1871 (wc_0 wd_1571 (wc_0 wd_1871 (wc_0 wd_1572 (wc_0 wd_2036 (wc_e))))))))))))
set_option maxRecDepth 100000 in
theorem ck_X12_laysRing : am_gd 316 := am_gd_of am_mfs (by decide +kernel) (wc_0 wd_1545 (wc_0 wd_1545 (wc_0 wd_1572 (wc_0 wd_2036 (wc_e)))))
set_option maxRecDepth 100000 in
theorem ck_X12_ring : am_gd 317 := am_gd_of am_mfs (by decide +kernel) (wc_0 wd_1544 (wc_0 wd_1803 (wc_0 wd_2009 (wc_0 wd_2032 (wc_0 wd_1572 (wc_e))))))
set_option maxRecDepth 100000 in
theorem ck_X12_canStand : am_gd 318 := am_gd_of am_mfs (by decide +kernel) (wc_0 wd_1871 (wc_0 wd_1871 (wc_0 wd_1871 (wc_0 wd_1571 (wc_0 wd_1871 (wc_e))))))
set_option maxRecDepth 100000 in
theorem ck_X12_laysWays : am_gd 319 := am_gd_of am_mfs (by decide +kernel) (wc_0 wd_2048 (wc_0 wd_1573 (wc_0 wd_1573 (wc_e))))
set_option maxRecDepth 100000 in
theorem ck_X12_ways : am_gd 320 := am_gd_of am_mfs (by decide +kernel) (wc_0 wd_1544 (wc_0 wd_2009 (wc_0 wd_1863 (wc_0 wd_2044 (wc_0 wd_1573 (wc_e))))))
set_option maxRecDepth 100000 in
theorem ck_X12_rank : am_gd 321 := am_gd_of am_mfs (by decide +kernel) (wc_0 wd_1544 (wc_0 wd_2009 (wc_0 wd_1562 (wc_0 wd_1863 (wc_0 wd_2044 (wc_0 wd_1560 (wc_0 wd_1561 (wc_0 wd_2048 (wc_0 wd_1573 (wc_e))))))))))
set_option maxRecDepth 100000 in
theorem ck_X12_goesDeep : am_gd 322 := am_gd_of am_mfs (by decide +kernel) (wc_0 wd_1574 (wc_0 wd_1575 (wc_0 wd_1575 (wc_0 wd_1575 (wc_0 wd_1545 (wc_0 wd_1807 (wc_0 wd_2071 (wc_e))))))))
set_option maxRecDepth 100000 in
theorem ck_X12_placeOld : am_gd 323 := am_gd_of am_mfs (by decide +kernel) (wc_0 wd_1575 (wc_0 wd_1574 (wc_e)))
set_option maxRecDepth 100000 in
theorem ck_X12_laysBroad : am_gd 324 := am_gd_of am_mfs (by decide +kernel) (wc_0 wd_1574 (wc_0 wd_1575 (wc_0 wd_1575 (wc_0 wd_1545 (wc_0 wd_1574 (wc_0 wd_1574 (wc_0 wd_1807 (wc_0 wd_1871 (wc_0 wd_1574 (wc_0 wd_1575 (wc_0 wd_1575 (wc_0 wd_1575 (wc_e)))))))))))))
set_option maxRecDepth 100000 in
theorem ck_X12_laysOld : am_gd 325 := am_gd_of am_mfs (by decide +kernel) (wc_0 wd_1575 (wc_0 wd_2067 (wc_0 wd_2071 (wc_0 wd_1575 (wc_0 wd_1575 (wc_0 wd_1574 (wc_0 wd_1871 (wc_0 wd_1574 (wc_0 wd_1574 (wc_0 wd_1575 (wc_0 wd_1574 (wc_0 wd_1575 (wc_0 wd_1575 (wc_0 wd_1574 (wc_0 wd_1871 (wc_0 wd_1574 (wc_0 wd_1574 (wc_0 wd_1574 (wc_0 wd_1575 (wc_0 wd_1575 (wc_0 wd_1574 (wc_0 wd_1574 (wc_e)))))))))))))))))))))))
set_option maxRecDepth 100000 in
theorem ck_X12_isKind : am_gd 326 := am_gd_of am_mfs (by decide +kernel) (wc_0 wd_1949 (wc_0 wd_1686 (wc_e)))
set_option maxRecDepth 100000 in
theorem ck_X12_old : am_gd 327 := am_gd_of am_mfs (by decide +kernel) (wc_0 wd_1544 (wc_0 wd_1803 (wc_0 wd_2060 (wc_0 wd_2063 (wc_0 wd_1575 (wc_0 wd_1574 (wc_e)))))))
set_option maxRecDepth 100000 in
theorem ck_X12_breaks : am_gd 328 := am_gd_of am_mfs (by decide +kernel) (wc_0 wd_1544 (wc_0 wd_1803 (wc_0 wd_2060 (wc_0 wd_2009 (wc_0 wd_2063 (wc_0 wd_1571 (wc_0 wd_1871 (wc_0 wd_2079 (wc_0 wd_2079 (wc_e))))))))))
set_option maxRecDepth 100000 in
theorem ck_X12_same : am_gd 329 := am_gd_of am_mfs (by decide +kernel) (wc_0 wd_1544 (wc_0 wd_2060 (wc_0 wd_1823 (wc_0 wd_1545 (wc_0 wd_2063 (wc_0 wd_1562 (wc_0 wd_1560 (wc_0 wd_1561 (wc_0 wd_1574 (wc_e))))))))))
set_option maxRecDepth 100000 in
theorem ck_X12_keptIn : am_gd 330 := am_gd_of am_mfs (by decide +kernel) (wc_0 wd_2119 (wc_0 wd_2119 (wc_0 wd_2120 (wc_0 wd_2120 (wc_e)))))
set_option maxRecDepth 100000 in
theorem ck_X12_between : am_gd 331 := am_gd_of am_mfs (by decide +kernel) (wc_0 wd_2116 (wc_e))
set_option maxRecDepth 100000 in
theorem ck_X12_reckons : am_gd 332 := am_gd_of am_mfs (by decide +kernel) (wc_0 wd_1545 (wc_0 wd_1545 (wc_0 wd_1545 (wc_0 wd_1576 (wc_0 wd_1577 (wc_0 wd_1576 (wc_0 wd_1576 (wc_0 wd_1576 (wc_0 wd_1576 (wc_0 wd_1576 (wc_0 wd_1576 (wc_0 wd_1576 (wc_0 wd_1576 (wc_0 wd_1576 (wc_0 wd_2113 (wc_0 wd_1576 (wc_e)))))))))))))))))
set_option maxRecDepth 100000 in
theorem ck_X12_laysWords : am_gd 333 := am_gd_of am_mfs (by decide +kernel) (wc_0 wd_1577 (wc_0 wd_1577 (wc_0 wd_1561 (wc_0 wd_1577 (wc_0 wd_1577 (wc_0 wd_1577 (wc_e)))))))
set_option maxRecDepth 100000 in
theorem ck_X12_isSeen : am_gd 334 := am_gd_of am_mfs (by decide +kernel) (wc_0 wd_2105 (wc_0 wd_1545 (wc_0 wd_2109 (wc_e))))
set_option maxRecDepth 100000 in
theorem ck_X12_laysCall : am_gd 335 := am_gd_of am_mfs (by decide +kernel) (wc_0 wd_1579 (wc_0 wd_1560 (wc_0 wd_1545 (wc_0 wd_1561 (wc_0 wd_2101 (wc_0 wd_1578 (wc_0 wd_1579 (wc_0 wd_1579 (wc_0 wd_1579 (wc_e))))))))))
set_option maxRecDepth 100000 in
theorem ck_X12_saysOf : am_gd 336 := am_gd_of am_mfs (by decide +kernel) (wc_0 wd_2097 (wc_0 wd_1579 (wc_0 wd_2121 (wc_0 wd_1579 (wc_0 wd_1578 (wc_0 wd_2105 (wc_0 wd_1577 (wc_0 wd_1545 (wc_0 wd_2109 (wc_0 wd_1944 (wc_0 wd_1577 (wc_0 wd_2116 (wc_e)))))))))))))
set_option maxRecDepth 100000 in
theorem ck_X12_call : am_gd 337 := am_gd_of am_mfs (by decide +kernel) (wc_0 wd_1544 (wc_0 wd_1803 (wc_0 wd_1815 (wc_0 wd_2091 (wc_0 wd_1823 (wc_0 wd_1562 (wc_0 wd_2092 (wc_0 wd_1545 (wc_0 wd_2093 (wc_e))))))))))
set_option maxRecDepth 100000 in
theorem ck_X12_through : am_gd 338 := am_gd_of am_mfs (by decide +kernel) (wc_0 wd_1544 (wc_0 wd_1803 (wc_0 wd_1815 (wc_0 wd_1823 (wc_0 wd_1562 (wc_0 wd_1545 (wc_0 wd_2097 (wc_0 wd_1579 (wc_0 wd_1561 (wc_0 wd_1578 (wc_e)))))))))))
set_option maxRecDepth 100000 in
theorem ck_X12_serves : am_gd 339 := am_gd_of am_mfs (by decide +kernel) (wc_0 wd_1544 (wc_0 wd_1803 (wc_0 wd_1815 (wc_0 wd_1823 (wc_0 wd_1545 (wc_0 wd_1545 (wc_0 wd_2097 (wc_0 wd_1579 (wc_0 wd_1561 (wc_0 wd_1578 (wc_e)))))))))))
set_option maxRecDepth 100000 in
theorem ck_X12_deadOnes : am_gd 340 := am_gd_of am_mfs (by decide +kernel) (wc_0 wd_1823 (wc_0 wd_1545 (wc_0 wd_1545 (wc_0 wd_2097 (wc_0 wd_1579 (wc_0 wd_1561 (wc_0 wd_1578 (wc_0 wd_1545 (wc_0 wd_1545 (wc_0 wd_1871 (wc_e)))))))))))
set_option maxRecDepth 100000 in
theorem ck_X12_dead : am_gd 341 := am_gd_of am_mfs (by decide +kernel) (wc_0 wd_1544 (wc_0 wd_2134 (wc_e)))
set_option maxRecDepth 100000 in
theorem ck_X12_firstDead : am_gd 342 := am_gd_of am_mfs (by decide +kernel) (wc_0 wd_1544 (wc_0 wd_2134 (wc_e)))
set_option maxRecDepth 100000 in
theorem ck_X12_common : am_gd 343 := am_gd_of am_mfs (by decide +kernel) (wc_0 wd_1544 (wc_0 wd_1803 (wc_0 wd_1803 (wc_0 wd_1823 (wc_0 wd_1562 (wc_0 wd_1562 (wc_0 wd_1560 (wc_0 wd_1561 (wc_0 wd_1855 (wc_0 wd_1561 (wc_e)))))))))))
set_option maxRecDepth 100000 in
theorem ck_X12_noWould : am_gd 344 := am_gd_of am_mfs (by decide +kernel) (wc_0 wd_1950 (wc_0 wd_1586 (wc_0 wd_1586 (wc_0 wd_1587 (wc_0 wd_1803 (wc_0 wd_1871 (wc_e)))))))
set_option maxRecDepth 100000 in
theorem ck_X12_laysWould : am_gd 345 := am_gd_of am_mfs (by decide +kernel) (wc_0 wd_1823 (wc_0 wd_1586 (wc_0 wd_1567 (wc_0 wd_1567 (wc_0 wd_1566 (wc_0 wd_1587 (wc_0 wd_1831 (wc_0 wd_1562 (wc_e)))))))))
set_option maxRecDepth 100000 in
theorem ck_X12_would : am_gd 346 := am_gd_of am_mfs (by decide +kernel) (wc_0 wd_1544 (wc_0 wd_2150 (wc_0 wd_2154 (wc_e))))
set_option maxRecDepth 100000 in
theorem ck_X12_wouldOrder : am_gd 347 := am_gd_of am_mfs (by decide +kernel) (wc_0 wd_1544 (wc_0 wd_2150 (wc_0 wd_2154 (wc_0 wd_1560 (wc_0 wd_1561 (wc_e))))))
set_option maxRecDepth 100000 in
theorem ck_X12_trades : am_gd 348 := am_gd_of am_mfs (by decide +kernel) (wc_0 wd_1566 (wc_0 wd_1566 (wc_0 wd_1566 (wc_0 wd_1566 (wc_e)))))
set_option maxRecDepth 100000 in
theorem ck_X12_wouldFrom : am_gd 349 := am_gd_of am_mfs (by decide +kernel) (wc_0 wd_1567 (wc_0 wd_1831 (wc_0 wd_1562 (wc_0 wd_1567 (wc_0 wd_2170 (wc_0 wd_2166 (wc_0 wd_2170 (wc_e))))))))
set_option maxRecDepth 100000 in
theorem ck_X12_wouldWays : am_gd 350 := am_gd_of am_mfs (by decide +kernel) (wc_0 wd_1544 (wc_0 wd_2150 (wc_0 wd_2154 (wc_0 wd_2166 (wc_e)))))
set_option maxRecDepth 100000 in
theorem ck_X12_isTaken : am_gd 351 := am_gd_of am_mfs (by decide +kernel) (wc_0 wd_1581 (wc_0 wd_1580 (wc_e)))
set_option maxRecDepth 100000 in
theorem ck_X12_isWhole : am_gd 352 := am_gd_of am_mfs (by decide +kernel) (wc_0 wd_1545 (wc_0 wd_1567 (wc_0 wd_1545 (wc_0 wd_2190 (wc_0 wd_1566 (wc_0 wd_1567 (wc_0 wd_1807 (wc_0 wd_1567 (wc_0 wd_1567 (wc_0 wd_1831 (wc_0 wd_1562 (wc_e))))))))))))
set_option maxRecDepth 100000 in
theorem ck_X12_repairsBy : am_gd 353 := am_gd_of am_mfs (by decide +kernel) (wc_0 wd_2186 (wc_0 wd_1979 (wc_0 wd_1580 (wc_0 wd_1581 (wc_0 wd_1581 (wc_0 wd_1581 (wc_0 wd_2182 (wc_0 wd_1581 (wc_0 wd_1581 (wc_e))))))))))
set_option maxRecDepth 100000 in
theorem ck_X12_laysRepairs : am_gd 354 := am_gd_of am_mfs (by decide +kernel) (wc_0 wd_1581 (wc_0 wd_2182 (wc_e)))
set_option maxRecDepth 100000 in
theorem ck_X12_repairs : am_gd 355 := am_gd_of am_mfs (by decide +kernel) (wc_0 wd_1544 (wc_0 wd_2178 (wc_e)))
set_option maxRecDepth 100000 in
theorem ck_X12_repair : am_gd 356 := am_gd_of am_mfs (by decide +kernel) (wc_0 wd_1544 (wc_0 wd_2178 (wc_0 wd_1580 (wc_0 wd_1545 (wc_0 wd_1545 (wc_0 wd_1807 (wc_e)))))))
set_option maxRecDepth 100000 in
theorem ck_X12_noTold : am_gd 357 := am_gd_of am_mfs (by decide +kernel) (wc_0 wd_1950 (wc_0 wd_1586 (wc_0 wd_2206 (wc_0 wd_1686 (wc_0 wd_1823 (wc_0 wd_1586 (wc_0 wd_1587 (wc_0 wd_2207 (wc_0 wd_1803 (wc_0 wd_1562 (wc_0 wd_2207 (wc_0 wd_2207 (wc_0 wd_2208 (wc_0 wd_1815 (wc_e)))))))))))))))
set_option maxRecDepth 100000 in
theorem ck_X12_moodsOf : am_gd 358 := am_gd_of am_mfs (by decide +kernel) (wc_0 wd_1586 (wc_0 wd_1587 (wc_0 wd_2213 (wc_0 wd_2213 (wc_0 wd_2214 (wc_0 wd_2093 (wc_0 wd_2214 (wc_0 wd_2215 (wc_e)))))))))
set_option maxRecDepth 100000 in
theorem ck_X12_moods : am_gd 359 := am_gd_of am_mfs (by decide +kernel) (wc_0 wd_1544 (wc_0 wd_2202 (wc_0 wd_2209 (wc_e))))
set_option maxRecDepth 100000 in
theorem ck_X12_mostAlike : am_gd 360 := am_gd_of am_mfs (by decide +kernel) (wc_0 wd_1582 (wc_0 wd_2093 (wc_0 wd_1871 (wc_0 wd_1871 (wc_0 wd_1582 (wc_0 wd_1582 (wc_e)))))))
set_option maxRecDepth 100000 in
theorem ck_X12_attempt : am_gd 361 := am_gd_of am_mfs (by decide +kernel) (wc_0 wd_1544 (wc_0 wd_2202 (wc_0 wd_2209 (wc_0 wd_2220 (wc_0 wd_1545 (wc_0 wd_1562 (wc_0 wd_2221 (wc_e))))))))
set_option maxRecDepth 100000 in
theorem ck_X12_goesLots : am_gd 362 := am_gd_of am_mfs (by decide +kernel) (wc_0 wd_1823 (wc_0 wd_1975 (wc_0 wd_2021 (wc_0 wd_1583 (wc_0 wd_1545 (wc_0 wd_1583 (wc_0 wd_1584 (wc_0 wd_1584 (wc_0 wd_1803 (wc_0 wd_1545 (wc_0 wd_1922 (wc_0 wd_2233 (wc_0 wd_1922 (wc_e))))))))))))))
set_option maxRecDepth 100000 in
theorem ck_X12_wholeOf : am_gd 363 := am_gd_of am_mfs (by decide +kernel) (wc_0 wd_1944 (wc_e))
set_option maxRecDepth 100000 in
theorem ck_X12_divisor : am_gd 364 := am_gd_of am_mfs (by decide +kernel) (wc_0 wd_2240 (wc_e))
set_option maxRecDepth 100000 in
theorem ck_X12_part : am_gd 365 := am_gd_of am_mfs (by decide +kernel) (wc_0 wd_1583 (wc_0 wd_1584 (wc_0 wd_2233 (wc_0 wd_1583 (wc_0 wd_1584 (wc_0 wd_2237 (wc_0 wd_2237 (wc_0 wd_2240 (wc_e)))))))))
set_option maxRecDepth 100000 in
theorem ck_X12_chance : am_gd 366 := am_gd_of am_mfs (by decide +kernel) (wc_0 wd_1544 (wc_0 wd_1686 (wc_0 wd_1949 (wc_0 wd_1686 (wc_0 wd_2229 (wc_e))))))
set_option maxRecDepth 100000 in
theorem ck_X12_mean : am_gd 367 := am_gd_of am_mfs (by decide +kernel) (wc_0 wd_1544 (wc_0 wd_1686 (wc_0 wd_1949 (wc_0 wd_1686 (wc_0 wd_2229 (wc_e))))))
set_option maxRecDepth 100000 in
theorem ck_X12_cut : am_gd 368 := am_gd_of am_mfs (by decide +kernel) (wc_e)
set_option maxRecDepth 100000 in
theorem ck_X12_numbers : am_gd 369 := am_gd_of am_mfs (by decide +kernel) (wc_0 wd_1544 (wc_0 wd_1949 (wc_0 wd_1686 (wc_0 wd_1949 (wc_0 wd_1686 (wc_0 wd_1995 (wc_0 wd_1686 (wc_0 wd_1585 (wc_0 wd_1586 (wc_0 wd_1587 (wc_e)))))))))))
set_option maxRecDepth 100000 in
theorem ck_X12_write : am_gd 370 := am_gd_of am_mfs (by decide +kernel) (wc_0 wd_1544 (wc_0 wd_1950 (wc_0 wd_1586 (wc_0 wd_1686 (wc_0 wd_2255 (wc_0 wd_1587 (wc_0 wd_1585 (wc_0 wd_2256 (wc_0 wd_1587 (wc_e))))))))))
set_option maxRecDepth 100000 in
theorem ck_X12_lists : am_gd 371 := am_gd_of am_mfs (by decide +kernel) (wc_0 wd_1544 (wc_0 wd_1949 (wc_0 wd_1686 (wc_0 wd_1803 (wc_0 wd_1950 (wc_0 wd_1823 (wc_0 wd_1562 (wc_0 wd_1560 (wc_0 wd_1586 (wc_0 wd_1560 (wc_0 wd_1586 (wc_0 wd_1587 (wc_0 wd_1561 (wc_e))))))))))))))
set_option maxRecDepth 100000 in
theorem ck_X12_image : am_gd 372 := am_gd_of am_mfs (by decide +kernel) (wc_0 wd_1544 (wc_0 wd_1686 (wc_0 wd_1545 (wc_0 wd_1545 (wc_0 wd_1546 (wc_e))))))
set_option maxRecDepth 100000 in
theorem ck_X12_restore : am_gd 373 := am_gd_of am_mfs (by decide +kernel) (wc_0 wd_1544 (wc_0 wd_1686 (wc_0 wd_1546 (wc_0 wd_1545 (wc_0 wd_1545 (wc_0 wd_1545 (wc_e)))))))
set_option maxRecDepth 100000 in
theorem ck_X12_definitions : am_gd 374 := am_gd_of am_mfs (by decide +kernel) (wc_0 wd_1545 (wc_0 wd_1545 (wc_e)))
set_option maxRecDepth 100000 in
theorem ck_X12_count : am_gd 375 := am_gd_of am_mfs (by decide +kernel) (wc_0 wd_1544 (wc_0 wd_1823 (wc_0 wd_1545 (wc_0 wd_1979 (wc_0 wd_2275 (wc_0 wd_1545 (wc_0 wd_1975 (wc_0 wd_1975 (wc_0 wd_1545 (wc_0 wd_1549 (wc_0 wd_1545 (wc_e))))))))))))
set_option maxRecDepth 100000 in
theorem ck_J9_max_7cf53 : am_gd 376 := am_gd_of am_mfs (by decide +kernel) (wc_e)
set_option maxRecDepth 100000 in
theorem ck_J9_min_7cf53 : am_gd 377 := am_gd_of am_mfs (by decide +kernel) (wc_e)
