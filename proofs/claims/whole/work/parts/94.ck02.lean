set_option maxRecDepth 100000 in
theorem ck_X11_through : am_gd 202 := am_gd_of am_mfs (by decide +kernel) (wc_0 wd_543 (wc_0 wd_286 (wc_0 wd_965 (wc_0 wd_971 (wc_0 wd_544 (wc_0 wd_1224 (wc_0 wd_550 (wc_0 wd_543 (wc_0 wd_286 (wc_0 wd_206 (wc_0 wd_1334 (wc_0 wd_550 (wc_0 wd_1335 (wc_e))))))))))))))
set_option maxRecDepth 100000 in
theorem ck_X11_serves : am_gd 203 := am_gd_of am_mfs (by decide +kernel) (wc_0 wd_543 (wc_0 wd_286 (wc_0 wd_965 (wc_0 wd_971 (wc_0 wd_543 (wc_0 wd_286 (wc_0 wd_201 (wc_0 wd_550 (wc_0 wd_543 (wc_0 wd_286 (wc_0 wd_206 (wc_0 wd_1334 (wc_0 wd_550 (wc_0 wd_1335 (wc_e)))))))))))))))
set_option maxRecDepth 100000 in
theorem ck_X11_dead : am_gd 204 := am_gd_of am_mfs (by decide +kernel) (wc_0 wd_550 (wc_0 wd_1347 (wc_0 wd_550 (wc_0 wd_1353 (wc_e)))))
set_option maxRecDepth 100000 in
theorem ck_X11_firstDead : am_gd 205 := am_gd_of am_mfs (by decide +kernel) (wc_0 wd_550 (wc_0 wd_1347 (wc_0 wd_550 (wc_0 wd_1353 (wc_e)))))
set_option maxRecDepth 100000 in
theorem ck_X11_common : am_gd 206 := am_gd_of am_mfs (by decide +kernel) (wc_0 wd_543 (wc_0 wd_286 (wc_0 wd_965 (wc_0 wd_543 (wc_0 wd_286 (wc_0 wd_965 (wc_0 wd_544 (wc_0 wd_1224 (wc_0 wd_544 (wc_0 wd_1224 (wc_0 wd_544 (wc_0 wd_1283 (wc_0 wd_544 (wc_0 wd_988 (wc_0 wd_544 (wc_0 wd_993 (wc_e)))))))))))))))))
set_option maxRecDepth 100000 in
theorem ck_X11_wouldCode : am_gd 207 := am_gd_of am_mfs (by decide +kernel) (wc_0 wd_1113 (wc_0 wd_555 (wc_0 wd_528 (wc_0 wd_528 (wc_0 wd_1086 (wc_0 wd_543 (wc_0 wd_286 (wc_0 wd_201 (wc_0 wd_553 (wc_e))))))))))
set_option maxRecDepth 100000 in
theorem ck_X11_would : am_gd 208 := am_gd_of am_mfs (by decide +kernel) (wc_0 wd_1370 (wc_0 wd_544 (wc_0 wd_553 (wc_0 wd_555 (wc_0 wd_528 (wc_0 wd_1374 (wc_e)))))))
set_option maxRecDepth 100000 in
theorem ck_X11_wouldOrder : am_gd 209 := am_gd_of am_mfs (by decide +kernel) (wc_0 wd_1370 (wc_0 wd_544 (wc_0 wd_553 (wc_0 wd_555 (wc_0 wd_528 (wc_0 wd_1374 (wc_0 wd_544 (wc_0 wd_988 (wc_e)))))))))
set_option maxRecDepth 100000 in
theorem ck_X11_turnTold : am_gd 210 := am_gd_of am_mfs (by decide +kernel) (wc_0 wd_554 (wc_0 wd_553 (wc_e)))
set_option maxRecDepth 100000 in
theorem ck_X11_wouldWays : am_gd 211 := am_gd_of am_mfs (by decide +kernel) (wc_0 wd_1370 (wc_0 wd_555 (wc_0 wd_528 (wc_0 wd_1383 (wc_0 wd_544 (wc_0 wd_554 (wc_0 wd_1374 (wc_e))))))))
set_option maxRecDepth 100000 in
theorem ck_X11_repairs : am_gd 212 := am_gd_of am_mfs (by decide +kernel) (wc_0 wd_551 (wc_0 wd_543 (wc_0 wd_286 (wc_0 wd_1391 (wc_0 wd_551 (wc_0 wd_473 (wc_e)))))))
set_option maxRecDepth 100000 in
theorem ck_X11_repair : am_gd 213 := am_gd_of am_mfs (by decide +kernel) (wc_0 wd_551 (wc_0 wd_543 (wc_0 wd_286 (wc_0 wd_1391 (wc_0 wd_551 (wc_0 wd_1418 (wc_e)))))))
set_option maxRecDepth 100000 in
theorem ck_X11_canBeTold : am_gd 214 := am_gd_of am_mfs (by decide +kernel) (wc_0 wd_1434 (wc_0 wd_543 (wc_0 wd_286 (wc_0 wd_201 (wc_0 wd_544 (wc_0 wd_1224 (wc_0 wd_1435 (wc_0 wd_1436 (wc_0 wd_1437 (wc_e))))))))))
set_option maxRecDepth 100000 in
theorem ck_X11_toldCode : am_gd 215 := am_gd_of am_mfs (by decide +kernel) (wc_0 wd_1113 (wc_0 wd_555 (wc_0 wd_528 (wc_0 wd_528 (wc_0 wd_528 (wc_0 wd_1086 (wc_0 wd_1430 (wc_e))))))))
set_option maxRecDepth 100000 in
theorem ck_X11_moodsOf : am_gd 216 := am_gd_of am_mfs (by decide +kernel) (wc_0 wd_528 (wc_0 wd_1086 (wc_0 wd_550 (wc_0 wd_1434 (wc_0 wd_1435 (wc_0 wd_1436 (wc_0 wd_1290 (wc_0 wd_1435 (wc_0 wd_1442 (wc_e))))))))))
set_option maxRecDepth 100000 in
theorem ck_X11_moods : am_gd 217 := am_gd_of am_mfs (by decide +kernel) (wc_0 wd_1426 (wc_0 wd_555 (wc_0 wd_1438 (wc_e))))
set_option maxRecDepth 100000 in
theorem ck_X11_attempt : am_gd 218 := am_gd_of am_mfs (by decide +kernel) (wc_0 wd_1426 (wc_0 wd_555 (wc_0 wd_1438 (wc_0 wd_543 (wc_0 wd_286 (wc_0 wd_201 (wc_0 wd_544 (wc_0 wd_1224 (wc_0 wd_550 (wc_0 wd_1447 (wc_e)))))))))))
set_option maxRecDepth 100000 in
theorem ck_X11_lotsCode : am_gd 219 := am_gd_of am_mfs (by decide +kernel) (wc_e)
set_option maxRecDepth 100000 in
theorem ck_X11_inLowestTerms : am_gd 220 := am_gd_of am_mfs (by decide +kernel) (wc_e)
set_option maxRecDepth 100000 in
theorem ck_X11_chance : am_gd 221 := am_gd_of am_mfs (by decide +kernel) (wc_0 wd_1457 (wc_0 wd_552 (wc_0 wd_543 (wc_0 wd_286 (wc_0 wd_1460 (wc_0 wd_552 (wc_0 wd_500 (wc_0 wd_552 (wc_0 wd_498 (wc_0 wd_1478 (wc_e)))))))))))
set_option maxRecDepth 100000 in
theorem ck_X11_mean : am_gd 222 := am_gd_of am_mfs (by decide +kernel) (wc_0 wd_1457 (wc_0 wd_552 (wc_0 wd_543 (wc_0 wd_286 (wc_0 wd_1460 (wc_0 wd_552 (wc_0 wd_502 (wc_0 wd_552 (wc_0 wd_498 (wc_0 wd_1478 (wc_e)))))))))))
set_option maxRecDepth 100000 in
theorem ck_X11_numbers : am_gd 223 := am_gd_of am_mfs (by decide +kernel) (wc_0 wd_1075 (wc_0 wd_555 (wc_0 wd_1489 (wc_e))))
set_option maxRecDepth 100000 in
theorem ck_X11_write : am_gd 224 := am_gd_of am_mfs (by decide +kernel) (wc_0 wd_1113 (wc_0 wd_555 (wc_0 wd_528 (wc_0 wd_1500 (wc_0 wd_555 (wc_0 wd_1501 (wc_0 wd_555 (wc_0 wd_1086 (wc_e)))))))))
set_option maxRecDepth 100000 in
theorem ck_X11_lists : am_gd 225 := am_gd_of am_mfs (by decide +kernel) (wc_0 wd_1075 (wc_0 wd_543 (wc_0 wd_286 (wc_0 wd_965 (wc_0 wd_555 (wc_0 wd_1078 (wc_0 wd_544 (wc_0 wd_1224 (wc_0 wd_555 (wc_0 wd_528 (wc_0 wd_544 (wc_0 wd_1283 (wc_0 wd_1513 (wc_0 wd_555 (wc_0 wd_544 (wc_0 wd_988 (wc_0 wd_1501 (wc_e))))))))))))))))))
set_option maxRecDepth 100000 in
theorem ck_X11_image : am_gd 226 := am_gd_of am_mfs (by decide +kernel) (wc_0 wd_556 (wc_0 wd_556 (wc_0 wd_277 (wc_0 wd_279 (wc_0 wd_556 (wc_0 wd_543 (wc_0 wd_1518 (wc_e))))))))
set_option maxRecDepth 100000 in
theorem ck_X11_restore : am_gd 227 := am_gd_of am_mfs (by decide +kernel) (wc_0 wd_556 (wc_0 wd_543 (wc_0 wd_556 (wc_0 wd_1518 (wc_0 wd_545 (wc_0 wd_907 (wc_0 wd_911 (wc_e))))))))
set_option maxRecDepth 100000 in
theorem ck_X11_count : am_gd 228 := am_gd_of am_mfs (by decide +kernel) (wc_0 wd_543 (wc_0 wd_286 (wc_0 wd_201 (wc_0 wd_1105 (wc_0 wd_1531 (wc_0 wd_206 (wc_0 wd_544 (wc_0 wd_201 (wc_0 wd_1101 (wc_0 wd_544 (wc_0 wd_201 (wc_0 wd_1101 (wc_0 wd_545 (wc_0 wd_352 (wc_0 wd_539 (wc_0 wd_543 (wc_0 wd_297 (wc_e))))))))))))))))))
set_option maxRecDepth 100000 in
theorem ck_X12_within : am_gd 229 := am_gd_of am_mfs (by decide +kernel) (wc_e)
set_option maxRecDepth 100000 in
theorem ck_X12_plain : am_gd 230 := am_gd_of am_mfs (by decide +kernel) (wc_e)
set_option maxRecDepth 100000 in
theorem ck_X12_init : am_gd 231 := am_gd_of am_mfs (by decide +kernel) (wc_0 wd_1540 (wc_0 wd_222 (wc_0 wd_1545 (wc_0 wd_1677 (wc_0 wd_1546 (wc_0 wd_222 (wc_0 wd_1547 (wc_0 wd_222 (wc_0 wd_1548 (wc_0 wd_1558 (wc_0 wd_222 (wc_0 wd_1560 (wc_0 wd_222 (wc_0 wd_1561 (wc_0 wd_222 (wc_0 wd_1562 (wc_0 wd_222 (wc_0 wd_1563 (wc_0 wd_222 (wc_0 wd_1564 (wc_0 wd_222 (wc_0 wd_1565 (wc_0 wd_222 (wc_0 wd_1566 (wc_0 wd_222 (wc_0 wd_1568 (wc_0 wd_222 (wc_0 wd_1571 (wc_0 wd_222 (wc_0 wd_1572 (wc_0 wd_222 (wc_0 wd_1573 (wc_0 wd_222 (wc_0 wd_1574 (wc_0 wd_222 (wc_0 wd_1576 (wc_0 wd_222 (wc_0 wd_1577 (wc_0 wd_222 (wc_0 wd_1578 (wc_0 wd_222 (wc_0 wd_1580 (wc_0 wd_222 (wc_0 wd_1582 (wc_0 wd_222 (wc_0 wd_1585 (wc_0 wd_222 (wc_0 wd_1586 (wc_0 wd_537 (wc_0 wd_1587 (wc_0 wd_1545 (wc_0 wd_1541 (wc_e)))))))))))))))))))))))))))))))))))))))))))))))))))))
set_option maxRecDepth 100000 in
theorem ck_X12_feed : am_gd 232 := am_gd_of am_mfs (by decide +kernel) (wc_0 wd_1544 (wc_0 wd_1549 (wc_0 wd_1547 (wc_0 wd_1549 (wc_0 wd_1549 (wc_0 wd_1549 (wc_0 wd_1549 (wc_e))))))))
set_option maxRecDepth 100000 in
theorem ck_X12_see : am_gd 233 := am_gd_of am_mfs (by decide +kernel) (wc_0 wd_1552 (wc_0 wd_1547 (wc_e)))
set_option maxRecDepth 100000 in
theorem ck_X12_isSmall : am_gd 234 := am_gd_of am_mfs (by decide +kernel) (wc_e)
set_option maxRecDepth 100000 in
theorem ck_X12_isDigit : am_gd 235 := am_gd_of am_mfs (by decide +kernel) (wc_e)
set_option maxRecDepth 100000 in
theorem ck_X12_keyAt : am_gd 236 := am_gd_of am_mfs (by decide +kernel) (wc_0 wd_1705 (wc_0 wd_1706 (wc_0 wd_1550 (wc_0 wd_1551 (wc_0 wd_1547 (wc_0 wd_1550 (wc_0 wd_1706 (wc_0 wd_1706 (wc_0 wd_1550 (wc_0 wd_1551 (wc_0 wd_1706 (wc_e))))))))))))
set_option maxRecDepth 100000 in
theorem ck_X12_next : am_gd 237 := am_gd_of am_mfs (by decide +kernel) (wc_0 wd_1551 (wc_0 wd_1550 (wc_0 wd_1550 (wc_0 wd_1693 (wc_0 wd_1550 (wc_0 wd_1693 (wc_0 wd_1550 (wc_0 wd_1550 (wc_0 wd_1550 (wc_0 wd_1551 (wc_0 wd_1550 (wc_0 wd_1552 (wc_0 wd_1553 (wc_0 wd_1550 (wc_0 wd_1693 (wc_0 wd_1697 (wc_0 wd_1551 (wc_0 wd_1693 (wc_0 wd_1697 (wc_0 wd_1551 (wc_0 wd_1551 (wc_0 wd_1700 (wc_0 wd_1553 (wc_0 wd_1550 (wc_0 wd_1693 (wc_0 wd_1707 (wc_0 wd_1554 (wc_0 wd_1551 (wc_0 wd_1693 (wc_0 wd_1707 (wc_0 wd_1551 (wc_0 wd_1550 (wc_0 wd_1554 (wc_0 wd_1551 (wc_0 wd_1693 (wc_0 wd_1554 (wc_0 wd_1551 (wc_0 wd_1551 (wc_0 wd_1551 (wc_0 wd_1550 (wc_0 wd_1553 (wc_0 wd_1551 (wc_0 wd_1551 (wc_0 wd_1553 (wc_0 wd_1705 (wc_0 wd_1550 (wc_0 wd_1693 (wc_0 wd_1706 (wc_0 wd_1553 (wc_e))))))))))))))))))))))))))))))))))))))))))))))))))
set_option maxRecDepth 100000 in
theorem ck_X12_fails : am_gd 238 := am_gd_of am_mfs (by decide +kernel) (wc_0 wd_1555 (wc_0 wd_1553 (wc_0 wd_1555 (wc_0 wd_1550 (wc_0 wd_1556 (wc_e))))))
set_option maxRecDepth 100000 in
theorem ck_X12_is : am_gd 239 := am_gd_of am_mfs (by decide +kernel) (wc_0 wd_1555 (wc_0 wd_1553 (wc_e)))
set_option maxRecDepth 100000 in
theorem ck_X12_eats : am_gd 240 := am_gd_of am_mfs (by decide +kernel) (wc_0 wd_1715 (wc_0 wd_1689 (wc_e)))
set_option maxRecDepth 100000 in
theorem ck_X12_takes : am_gd 241 := am_gd_of am_mfs (by decide +kernel) (wc_0 wd_1715 (wc_0 wd_1719 (wc_0 wd_1554 (wc_0 wd_1686 (wc_0 wd_1719 (wc_0 wd_1554 (wc_0 wd_1555 (wc_0 wd_1689 (wc_e)))))))))
set_option maxRecDepth 100000 in
theorem ck_X12_isIn : am_gd 242 := am_gd_of am_mfs (by decide +kernel) (wc_e)
set_option maxRecDepth 100000 in
theorem ck_X12_wordOf : am_gd 243 := am_gd_of am_mfs (by decide +kernel) (wc_0 wd_1559 (wc_0 wd_1559 (wc_e)))
set_option maxRecDepth 100000 in
theorem ck_X12_codes : am_gd 244 := am_gd_of am_mfs (by decide +kernel) (wc_0 wd_1555 (wc_0 wd_1548 (wc_0 wd_1548 (wc_0 wd_1548 (wc_e)))))
set_option maxRecDepth 100000 in
theorem ck_X12_goesIn : am_gd 245 := am_gd_of am_mfs (by decide +kernel) (wc_0 wd_1719 (wc_0 wd_1555 (wc_0 wd_1689 (wc_0 wd_1555 (wc_e)))))
set_option maxRecDepth 100000 in
theorem ck_X12_readAtom : am_gd 246 := am_gd_of am_mfs (by decide +kernel) (wc_0 wd_1715 (wc_0 wd_1554 (wc_0 wd_1767 (wc_0 wd_1689 (wc_0 wd_1555 (wc_0 wd_1553 (wc_0 wd_1771 (wc_0 wd_1553 (wc_0 wd_1771 (wc_0 wd_1767 (wc_0 wd_1689 (wc_0 wd_1715 (wc_0 wd_1775 (wc_0 wd_1755 (wc_0 wd_1711 (wc_0 wd_1719 (wc_0 wd_1715 (wc_0 wd_1779 (wc_0 wd_1719 (wc_e))))))))))))))))))))
set_option maxRecDepth 100000 in
theorem ck_X12_readBoth : am_gd 247 := am_gd_of am_mfs (by decide +kernel) (wc_0 wd_1791 (wc_0 wd_1711 (wc_0 wd_1791 (wc_0 wd_1767 (wc_e)))))
set_option maxRecDepth 100000 in
theorem ck_X12_readIf : am_gd 248 := am_gd_of am_mfs (by decide +kernel) (wc_0 wd_1775 (wc_0 wd_1783 (wc_0 wd_1711 (wc_0 wd_1719 (wc_0 wd_1755 (wc_0 wd_1711 (wc_0 wd_1719 (wc_0 wd_1755 (wc_0 wd_1711 (wc_0 wd_1719 (wc_0 wd_1767 (wc_e))))))))))))
set_option maxRecDepth 100000 in
theorem ck_X12_readSum : am_gd 249 := am_gd_of am_mfs (by decide +kernel) (wc_0 wd_1759 (wc_0 wd_1715 (wc_0 wd_1715 (wc_0 wd_1553 (wc_0 wd_1689 (wc_0 wd_1759 (wc_0 wd_1767 (wc_e))))))))
set_option maxRecDepth 100000 in
theorem ck_X12_readTerm : am_gd 250 := am_gd_of am_mfs (by decide +kernel) (wc_0 wd_1763 (wc_0 wd_1711 (wc_0 wd_1763 (wc_0 wd_1767 (wc_e)))))
set_option maxRecDepth 100000 in
theorem ck_X12_readTruth : am_gd 251 := am_gd_of am_mfs (by decide +kernel) (wc_0 wd_1787 (wc_0 wd_1711 (wc_0 wd_1787 (wc_0 wd_1767 (wc_e)))))
set_option maxRecDepth 100000 in
theorem ck_X12_readUnit : am_gd 252 := am_gd_of am_mfs (by decide +kernel) (wc_0 wd_1715 (wc_0 wd_1775 (wc_0 wd_1791 (wc_0 wd_1767 (wc_0 wd_1715 (wc_0 wd_1775 (wc_0 wd_1783 (wc_0 wd_1711 (wc_0 wd_1719 (wc_0 wd_1755 (wc_0 wd_1715 (wc_0 wd_1715 (wc_0 wd_1715 (wc_0 wd_1715 (wc_0 wd_1715 (wc_0 wd_1689 (wc_0 wd_1719 (wc_0 wd_1755 (wc_0 wd_1767 (wc_e))))))))))))))))))))
set_option maxRecDepth 100000 in
theorem ck_X12_named : am_gd 253 := am_gd_of am_mfs (by decide +kernel) (wc_0 wd_1711 (wc_0 wd_1719 (wc_0 wd_1727 (wc_e))))
set_option maxRecDepth 100000 in
theorem ck_X12_isUpAlready : am_gd 254 := am_gd_of am_mfs (by decide +kernel) (wc_0 wd_1548 (wc_0 wd_1548 (wc_e)))
set_option maxRecDepth 100000 in
theorem ck_X12_readClass : am_gd 255 := am_gd_of am_mfs (by decide +kernel) (wc_0 wd_1548 (wc_0 wd_1719 (wc_0 wd_1555 (wc_0 wd_1689 (wc_0 wd_1715 (wc_0 wd_1548 (wc_0 wd_1554 (wc_0 wd_1554 (wc_0 wd_1743 (wc_0 wd_1719 (wc_0 wd_1719 (wc_0 wd_1555 (wc_0 wd_1548 (wc_0 wd_1554 (wc_0 wd_1548 (wc_0 wd_1689 (wc_0 wd_1555 (wc_0 wd_1548 (wc_e)))))))))))))))))))
set_option maxRecDepth 100000 in
theorem ck_X12_readMethod : am_gd 256 := am_gd_of am_mfs (by decide +kernel) (wc_0 wd_1689 (wc_0 wd_1727 (wc_0 wd_1548 (wc_0 wd_1723 (wc_0 wd_1715 (wc_0 wd_1711 (wc_0 wd_1711 (wc_0 wd_1719 (wc_0 wd_1555 (wc_0 wd_1548 (wc_e)))))))))))
set_option maxRecDepth 100000 in
theorem ck_X12_readLaw : am_gd 257 := am_gd_of am_mfs (by decide +kernel) (wc_0 wd_1689 (wc_0 wd_1711 (wc_0 wd_1719 (wc_0 wd_1548 (wc_0 wd_1559 (wc_0 wd_1755 (wc_0 wd_1783 (wc_0 wd_1555 (wc_0 wd_1548 (wc_0 wd_1548 (wc_0 wd_1548 (wc_0 wd_1548 (wc_e)))))))))))))
set_option maxRecDepth 100000 in
theorem ck_X12_readLine : am_gd 258 := am_gd_of am_mfs (by decide +kernel) (wc_0 wd_1555 (wc_0 wd_1715 (wc_0 wd_1739 (wc_0 wd_1715 (wc_0 wd_1747 (wc_0 wd_1715 (wc_0 wd_1715 (wc_0 wd_1553 (wc_0 wd_1751 (wc_0 wd_1719 (wc_e)))))))))))
set_option maxRecDepth 100000 in
theorem ck_X12_closes : am_gd 259 := am_gd_of am_mfs (by decide +kernel) (wc_0 wd_1711 (wc_0 wd_1719 (wc_0 wd_1548 (wc_e))))
set_option maxRecDepth 100000 in
theorem ck_X12_house : am_gd 260 := am_gd_of am_mfs (by decide +kernel) (wc_0 wd_1544 (wc_0 wd_1549 (wc_0 wd_1686 (wc_0 wd_1552 (wc_0 wd_1549 (wc_0 wd_1551 (wc_0 wd_1555 (wc_0 wd_1548 (wc_0 wd_1541 (wc_0 wd_1689 (wc_0 wd_1711 (wc_0 wd_1719 (wc_0 wd_1548 (wc_0 wd_1723 (wc_0 wd_1731 (wc_0 wd_1555 (wc_0 wd_1553 (wc_0 wd_1735 (wc_0 wd_1731 (wc_0 wd_1555 (wc_0 wd_1557 (wc_0 wd_1555 (wc_0 wd_1556 (wc_0 wd_1558 (wc_0 wd_1555 (wc_0 wd_1555 (wc_0 wd_1545 (wc_0 wd_1548 (wc_0 wd_1545 (wc_e))))))))))))))))))))))))))))))
set_option maxRecDepth 100000 in
theorem ck_X12_fault : am_gd 261 := am_gd_of am_mfs (by decide +kernel) (wc_0 wd_1544 (wc_0 wd_1557 (wc_0 wd_1558 (wc_e))))
set_option maxRecDepth 100000 in
theorem ck_X12_isClass : am_gd 262 := am_gd_of am_mfs (by decide +kernel) (wc_0 wd_1545 (wc_0 wd_1686 (wc_e)))
set_option maxRecDepth 100000 in
theorem ck_X12_isMethod : am_gd 263 := am_gd_of am_mfs (by decide +kernel) (wc_0 wd_1818 (wc_0 wd_1686 (wc_e)))
set_option maxRecDepth 100000 in
theorem ck_X12_parentAt : am_gd 264 := am_gd_of am_mfs (by decide +kernel) (wc_0 wd_1545 (wc_e))
set_option maxRecDepth 100000 in
theorem ck_X12_placeOfParent : am_gd 265 := am_gd_of am_mfs (by decide +kernel) (wc_0 wd_1545 (wc_0 wd_1807 (wc_e)))
set_option maxRecDepth 100000 in
theorem ck_X12_laysRows : am_gd 266 := am_gd_of am_mfs (by decide +kernel) (wc_0 wd_1567 (wc_0 wd_1563 (wc_0 wd_1564 (wc_0 wd_1563 (wc_0 wd_1560 (wc_0 wd_1566 (wc_0 wd_1560 (wc_0 wd_1566 (wc_0 wd_1565 (wc_0 wd_1563 (wc_0 wd_1561 (wc_0 wd_1566 (wc_0 wd_1563 (wc_0 wd_1567 (wc_0 wd_1567 (wc_0 wd_1564 (wc_0 wd_1567 (wc_0 wd_1563 (wc_0 wd_1567 (wc_0 wd_1567 (wc_0 wd_1567 (wc_0 wd_1565 (wc_0 wd_1567 (wc_0 wd_1566 (wc_e)))))))))))))))))))))))))
set_option maxRecDepth 100000 in
theorem ck_X12_givenBy : am_gd 267 := am_gd_of am_mfs (by decide +kernel) (wc_0 wd_1563 (wc_0 wd_1564 (wc_0 wd_1565 (wc_0 wd_1563 (wc_0 wd_1567 (wc_0 wd_1563 (wc_0 wd_1564 (wc_0 wd_1565 (wc_e)))))))))
set_option maxRecDepth 100000 in
theorem ck_X12_merges : am_gd 268 := am_gd_of am_mfs (by decide +kernel) (wc_0 wd_1561 (wc_0 wd_1560 (wc_0 wd_1839 (wc_0 wd_1567 (wc_0 wd_1564 (wc_0 wd_1563 (wc_0 wd_1567 (wc_0 wd_1843 (wc_0 wd_1560 (wc_0 wd_1561 (wc_0 wd_1560 (wc_0 wd_1560 (wc_0 wd_1567 (wc_0 wd_1563 (wc_0 wd_1564 (wc_0 wd_1565 (wc_0 wd_1563 (wc_0 wd_1563 (wc_e)))))))))))))))))))
set_option maxRecDepth 100000 in
theorem ck_X12_laysOrder : am_gd 269 := am_gd_of am_mfs (by decide +kernel) (wc_0 wd_1567 (wc_0 wd_1562 (wc_0 wd_1566 (wc_0 wd_1560 (wc_0 wd_1562 (wc_0 wd_1835 (wc_e)))))))
set_option maxRecDepth 100000 in
theorem ck_X12_laysParents : am_gd 270 := am_gd_of am_mfs (by decide +kernel) (wc_0 wd_1545 (wc_0 wd_1567 (wc_0 wd_1567 (wc_0 wd_1566 (wc_0 wd_1807 (wc_e))))))
set_option maxRecDepth 100000 in
theorem ck_X12_laysOrders : am_gd 271 := am_gd_of am_mfs (by decide +kernel) (wc_0 wd_1545 (wc_0 wd_1827 (wc_0 wd_1831 (wc_e))))
set_option maxRecDepth 100000 in
theorem ck_X12_placeIn : am_gd 272 := am_gd_of am_mfs (by decide +kernel) (wc_0 wd_1560 (wc_0 wd_1561 (wc_e)))
set_option maxRecDepth 100000 in
theorem ck_X12_statesOf : am_gd 273 := am_gd_of am_mfs (by decide +kernel) (wc_0 wd_1545 (wc_0 wd_1562 (wc_e)))
set_option maxRecDepth 100000 in
theorem ck_X12_bitsOf : am_gd 274 := am_gd_of am_mfs (by decide +kernel) (wc_e)
set_option maxRecDepth 100000 in
theorem ck_X12_parent : am_gd 275 := am_gd_of am_mfs (by decide +kernel) (wc_0 wd_1544 (wc_0 wd_1803 (wc_0 wd_1545 (wc_0 wd_1807 (wc_e)))))
set_option maxRecDepth 100000 in
theorem ck_X12_defines : am_gd 276 := am_gd_of am_mfs (by decide +kernel) (wc_0 wd_1544 (wc_0 wd_1803 (wc_0 wd_1815 (wc_0 wd_1545 (wc_e)))))
set_option maxRecDepth 100000 in
theorem ck_X12_state : am_gd 277 := am_gd_of am_mfs (by decide +kernel) (wc_0 wd_1544 (wc_0 wd_1803 (wc_0 wd_1823 (wc_0 wd_1562 (wc_e)))))
set_option maxRecDepth 100000 in
theorem ck_X12_order : am_gd 278 := am_gd_of am_mfs (by decide +kernel) (wc_0 wd_1544 (wc_0 wd_1803 (wc_0 wd_1823 (wc_0 wd_1560 (wc_0 wd_1561 (wc_e))))))
set_option maxRecDepth 100000 in
theorem ck_X12_place : am_gd 279 := am_gd_of am_mfs (by decide +kernel) (wc_0 wd_1544 (wc_0 wd_1803 (wc_0 wd_1803 (wc_0 wd_1823 (wc_0 wd_1855 (wc_e))))))
set_option maxRecDepth 100000 in
theorem ck_X12_aboveOf : am_gd 280 := am_gd_of am_mfs (by decide +kernel) (wc_0 wd_1545 (wc_0 wd_1807 (wc_0 wd_1863 (wc_e))))
set_option maxRecDepth 100000 in
theorem ck_X12_above : am_gd 281 := am_gd_of am_mfs (by decide +kernel) (wc_0 wd_1544 (wc_0 wd_1803 (wc_0 wd_1863 (wc_e))))
set_option maxRecDepth 100000 in
theorem ck_X12_below : am_gd 282 := am_gd_of am_mfs (by decide +kernel) (wc_0 wd_1544 (wc_0 wd_1803 (wc_0 wd_1545 (wc_0 wd_1863 (wc_0 wd_1871 (wc_e))))))
set_option maxRecDepth 100000 in
theorem ck_X12_stores : am_gd 283 := am_gd_of am_mfs (by decide +kernel) (wc_0 wd_1568 (wc_0 wd_1545 (wc_e)))
set_option maxRecDepth 100000 in
theorem ck_X12_isAgain : am_gd 284 := am_gd_of am_mfs (by decide +kernel) (wc_0 wd_1545 (wc_0 wd_1568 (wc_e)))
set_option maxRecDepth 100000 in
theorem ck_X12_notes : am_gd 285 := am_gd_of am_mfs (by decide +kernel) (wc_0 wd_1545 (wc_0 wd_1545 (wc_0 wd_1545 (wc_0 wd_1545 (wc_0 wd_1545 (wc_0 wd_1545 (wc_0 wd_1568 (wc_0 wd_1545 (wc_e)))))))))
set_option maxRecDepth 100000 in
theorem ck_X12_whyGive : am_gd 286 := am_gd_of am_mfs (by decide +kernel) (wc_0 wd_1803 (wc_0 wd_1686 (wc_0 wd_1882 (wc_0 wd_1545 (wc_e)))))
set_option maxRecDepth 100000 in
theorem ck_X12_whyTake : am_gd 287 := am_gd_of am_mfs (by decide +kernel) (wc_0 wd_1803 (wc_0 wd_1803 (wc_0 wd_1882 (wc_e))))
set_option maxRecDepth 100000 in
theorem ck_X12_whySwap : am_gd 288 := am_gd_of am_mfs (by decide +kernel) (wc_0 wd_1803 (wc_0 wd_1545 (wc_0 wd_1686 (wc_e))))
set_option maxRecDepth 100000 in
theorem ck_X12_whyDefine : am_gd 289 := am_gd_of am_mfs (by decide +kernel) (wc_0 wd_1803 (wc_0 wd_1815 (wc_0 wd_1934 (wc_0 wd_1686 (wc_0 wd_1934 (wc_0 wd_1545 (wc_e)))))))
set_option maxRecDepth 100000 in
theorem ck_X12_goesGive : am_gd 290 := am_gd_of am_mfs (by decide +kernel) (wc_0 wd_1545 (wc_0 wd_1545 (wc_0 wd_1545 (wc_e))))
set_option maxRecDepth 100000 in
theorem ck_X12_goesTake : am_gd 291 := am_gd_of am_mfs (by decide +kernel) (wc_0 wd_1545 (wc_0 wd_1545 (wc_0 wd_1545 (wc_0 wd_1807 (wc_e)))))
set_option maxRecDepth 100000 in
theorem ck_X12_goesSwap : am_gd 292 := am_gd_of am_mfs (by decide +kernel) (wc_0 wd_1807 (wc_0 wd_1545 (wc_0 wd_1807 (wc_0 wd_1545 (wc_e)))))
set_option maxRecDepth 100000 in
theorem ck_X12_endsWith : am_gd 293 := am_gd_of am_mfs (by decide +kernel) (wc_0 wd_1898 (wc_0 wd_1823 (wc_0 wd_1562 (wc_e))))
set_option maxRecDepth 100000 in
theorem ck_X12_give : am_gd 294 := am_gd_of am_mfs (by decide +kernel) (wc_0 wd_1544 (wc_0 wd_1878 (wc_0 wd_1886 (wc_0 wd_1890 (wc_0 wd_1894 (wc_e))))))
set_option maxRecDepth 100000 in
theorem ck_X12_take : am_gd 295 := am_gd_of am_mfs (by decide +kernel) (wc_0 wd_1544 (wc_0 wd_1906 (wc_0 wd_1886 (wc_0 wd_1882 (wc_0 wd_1910 (wc_0 wd_1894 (wc_e)))))))
set_option maxRecDepth 100000 in
theorem ck_X12_swap : am_gd 296 := am_gd_of am_mfs (by decide +kernel) (wc_0 wd_1544 (wc_0 wd_1918 (wc_0 wd_1886 (wc_0 wd_1922 (wc_0 wd_1894 (wc_e))))))
set_option maxRecDepth 100000 in
theorem ck_X12_define : am_gd 297 := am_gd_of am_mfs (by decide +kernel) (wc_0 wd_1544 (wc_0 wd_1930 (wc_0 wd_1886 (wc_0 wd_1545 (wc_0 wd_1898 (wc_0 wd_1568 (wc_e)))))))
set_option maxRecDepth 100000 in
theorem ck_X12_mood : am_gd 298 := am_gd_of am_mfs (by decide +kernel) (wc_0 wd_1544 (wc_0 wd_1939 (wc_0 wd_1686 (wc_0 wd_1886 (wc_0 wd_1545 (wc_0 wd_1898 (wc_0 wd_1568 (wc_e))))))))
set_option maxRecDepth 100000 in
theorem ck_X12_undo : am_gd 299 := am_gd_of am_mfs (by decide +kernel) (wc_0 wd_1544 (wc_0 wd_1944 (wc_0 wd_1686 (wc_0 wd_1545 (wc_0 wd_1545 (wc_0 wd_1545 (wc_0 wd_1545 (wc_0 wd_1545 (wc_0 wd_1545 (wc_e))))))))))
