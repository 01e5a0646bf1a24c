set_option maxRecDepth 100000 in
theorem ck_X5_appendLastOnes : am_gd 68 := am_gd_of am_mfs (by decide +kernel) (wc_0 wd_1250 (wc_0 wd_1251 (wc_0 wd_1252 (wc_0 wd_1256 (wc_0 wd_404 (wc_0 wd_404 (wc_0 wd_404 (wc_0 wd_1242 (wc_e)))))))))
set_option maxRecDepth 100000 in
theorem ck_X5_appendByBreadth : am_gd 69 := am_gd_of am_mfs (by decide +kernel) (wc_0 wd_1252 (wc_0 wd_1256 (wc_0 wd_1250 (wc_0 wd_1251 (wc_0 wd_1242 (wc_e))))))
set_option maxRecDepth 100000 in
theorem ck_X5_build : am_gd 70 := am_gd_of am_mfs (by decide +kernel) (wc_0 wd_402 (wc_0 wd_1241 (wc_0 wd_198 (wc_0 wd_1242 (wc_0 wd_1246 (wc_0 wd_1260 (wc_0 wd_1264 (wc_e))))))))
set_option maxRecDepth 100000 in
theorem ck_X6_stateOf : am_gd 71 := am_gd_of am_mfs (by decide +kernel) (wc_0 wd_313 (wc_e))
set_option maxRecDepth 100000 in
theorem ck_X6_placeOf : am_gd 72 := am_gd_of am_mfs (by decide +kernel) (wc_0 wd_936 (wc_0 wd_941 (wc_e)))
set_option maxRecDepth 100000 in
theorem ck_X6_bitsOf : am_gd 73 := am_gd_of am_mfs (by decide +kernel) (wc_0 wd_313 (wc_e))
set_option maxRecDepth 100000 in
theorem ck_X6_settleAll : am_gd 74 := am_gd_of am_mfs (by decide +kernel) (wc_0 wd_314 (wc_0 wd_919 (wc_0 wd_200 (wc_0 wd_316 (wc_0 wd_316 (wc_0 wd_920 (wc_0 wd_924 (wc_e))))))))
set_option maxRecDepth 100000 in
theorem ck_X7_init : am_gd 75 := am_gd_of am_mfs (by decide +kernel) (wc_0 wd_346 (wc_0 wd_347 (wc_0 wd_349 (wc_e))))
set_option maxRecDepth 100000 in
theorem ck_X7_forget : am_gd 76 := am_gd_of am_mfs (by decide +kernel) (wc_0 wd_351 (wc_e))
set_option maxRecDepth 100000 in
theorem ck_X7_push : am_gd 77 := am_gd_of am_mfs (by decide +kernel) (wc_0 wd_350 (wc_0 wd_351 (wc_0 wd_351 (wc_0 wd_351 (wc_0 wd_351 (wc_0 wd_350 (wc_0 wd_350 (wc_0 wd_349 (wc_0 wd_349 (wc_0 wd_347 (wc_0 wd_1032 (wc_0 wd_349 (wc_0 wd_1033 (wc_e))))))))))))))
set_option maxRecDepth 100000 in
theorem ck_X7_goBack : am_gd 78 := am_gd_of am_mfs (by decide +kernel) (wc_0 wd_351 (wc_0 wd_351 (wc_0 wd_351 (wc_0 wd_349 (wc_0 wd_350 (wc_0 wd_351 (wc_0 wd_1033 (wc_e))))))))
set_option maxRecDepth 100000 in
theorem ck_X8_init : am_gd 79 := am_gd_of am_mfs (by decide +kernel) (wc_0 wd_188 (wc_0 wd_222 (wc_0 wd_225 (wc_0 wd_222 (wc_0 wd_226 (wc_0 wd_189 (wc_0 wd_191 (wc_0 wd_234 (wc_0 wd_222 (wc_0 wd_238 (wc_e)))))))))))
set_option maxRecDepth 100000 in
theorem ck_X8_byteAt : am_gd 80 := am_gd_of am_mfs (by decide +kernel) (wc_0 wd_223 (wc_0 wd_224 (wc_0 wd_223 (wc_0 wd_223 (wc_e)))))
set_option maxRecDepth 100000 in
theorem ck_X8_isLetter : am_gd 81 := am_gd_of am_mfs (by decide +kernel) (wc_e)
set_option maxRecDepth 100000 in
theorem ck_X8_isDigit : am_gd 82 := am_gd_of am_mfs (by decide +kernel) (wc_e)
set_option maxRecDepth 100000 in
theorem ck_X8_tokenEnd : am_gd 83 := am_gd_of am_mfs (by decide +kernel) (wc_0 wd_633 (wc_0 wd_224 (wc_0 wd_637 (wc_0 wd_633 (wc_0 wd_637 (wc_0 wd_640 (wc_0 wd_633 (wc_0 wd_640 (wc_e)))))))))
set_option maxRecDepth 100000 in
theorem ck_J0_coder_7d493 : am_gd 84 := am_gd_of am_mfs (by decide +kernel) (wc_0 wd_660 (wc_0 wd_2281 (wc_e)))
set_option maxRecDepth 100000 in
theorem ck_J0_length_8abf5 : am_gd 85 := am_gd_of am_mfs (by decide +kernel) (wc_0 wd_2280 (wc_0 wd_656 (wc_e)))
set_option maxRecDepth 100000 in
theorem ck_J0_isLatin1_aae02 : am_gd 86 := am_gd_of am_mfs (by decide +kernel) (wc_0 wd_660 (wc_0 wd_2281 (wc_e)))
set_option maxRecDepth 100000 in
theorem ck_J3_checkIndex_8e157 : am_gd 87 := am_gd_of am_mfs (by decide +kernel) (wc_e)
set_option maxRecDepth 100000 in
theorem ck_J0_checkIndex_df160 : am_gd 88 := am_gd_of am_mfs (by decide +kernel) (wc_0 wd_676 (wc_0 wd_678 (wc_e)))
set_option maxRecDepth 100000 in
theorem ck_J1_charAt_3b067 : am_gd 89 := am_gd_of am_mfs (by decide +kernel) (wc_0 wd_673 (wc_e))
set_option maxRecDepth 100000 in
theorem ck_J2_length_9d52b : am_gd 90 := am_gd_of am_mfs (by decide +kernel) (wc_e)
set_option maxRecDepth 100000 in
theorem ck_J2_checkIndex_2214a : am_gd 91 := am_gd_of am_mfs (by decide +kernel) (wc_0 wd_687 (wc_0 wd_690 (wc_e)))
set_option maxRecDepth 100000 in
theorem ck_J2_getChar_3b067 : am_gd 92 := am_gd_of am_mfs (by decide +kernel) (wc_0 wd_687 (wc_e))
set_option maxRecDepth 100000 in
theorem ck_J2_charAt_3b067 : am_gd 93 := am_gd_of am_mfs (by decide +kernel) (wc_0 wd_684 (wc_0 wd_691 (wc_e)))
set_option maxRecDepth 100000 in
theorem ck_J0_charAt_5068e : am_gd 94 := am_gd_of am_mfs (by decide +kernel) (wc_0 wd_666 (wc_0 wd_2280 (wc_0 wd_670 (wc_0 wd_2280 (wc_0 wd_681 (wc_e))))))
set_option maxRecDepth 100000 in
theorem ck_X8_isWord : am_gd 95 := am_gd_of am_mfs (by decide +kernel) (wc_0 wd_652 (wc_0 wd_662 (wc_0 wd_633 (wc_e))))
set_option maxRecDepth 100000 in
theorem ck_X8_wordToken : am_gd 96 := am_gd_of am_mfs (by decide +kernel) (wc_0 wd_652 (wc_0 wd_662 (wc_0 wd_700 (wc_e))))
set_option maxRecDepth 100000 in
theorem ck_X8_numberToken : am_gd 97 := am_gd_of am_mfs (by decide +kernel) (wc_0 wd_633 (wc_e))
set_option maxRecDepth 100000 in
theorem ck_J1_canEncode_9a6ad : am_gd 98 := am_gd_of am_mfs (by decide +kernel) (wc_e)
set_option maxRecDepth 100000 in
theorem ck_J1_indexOfChar_4cfef : am_gd 99 := am_gd_of am_mfs (by decide +kernel) (wc_e)
set_option maxRecDepth 100000 in
theorem ck_J1_indexOf_4cfef : am_gd 100 := am_gd_of am_mfs (by decide +kernel) (wc_0 wd_721 (wc_0 wd_724 (wc_0 wd_725 (wc_0 wd_726 (wc_e)))))
set_option maxRecDepth 100000 in
theorem ck_J3_checkFromToIndex_8c36e : am_gd 101 := am_gd_of am_mfs (by decide +kernel) (wc_e)
set_option maxRecDepth 100000 in
theorem ck_J0_checkBoundsBeginEnd_23922 : am_gd 102 := am_gd_of am_mfs (by decide +kernel) (wc_0 wd_676 (wc_0 wd_744 (wc_e)))
set_option maxRecDepth 100000 in
theorem ck_J2_checkBoundsBeginEnd_d044e : am_gd 103 := am_gd_of am_mfs (by decide +kernel) (wc_0 wd_687 (wc_0 wd_741 (wc_e)))
set_option maxRecDepth 100000 in
theorem ck_J2_indexOfCharUnsafe_4cfef : am_gd 104 := am_gd_of am_mfs (by decide +kernel) (wc_0 wd_691 (wc_e))
set_option maxRecDepth 100000 in
theorem ck_J2_indexOfChar_4cfef : am_gd 105 := am_gd_of am_mfs (by decide +kernel) (wc_0 wd_738 (wc_0 wd_747 (wc_e)))
set_option maxRecDepth 100000 in
theorem ck_J11_isValidCodePoint_9a6ad : am_gd 106 := am_gd_of am_mfs (by decide +kernel) (wc_e)
set_option maxRecDepth 100000 in
theorem ck_J11_highSurrogate_5068e : am_gd 107 := am_gd_of am_mfs (by decide +kernel) (wc_0 wd_759 (wc_e))
set_option maxRecDepth 100000 in
theorem ck_J11_lowSurrogate_5068e : am_gd 108 := am_gd_of am_mfs (by decide +kernel) (wc_0 wd_763 (wc_e))
set_option maxRecDepth 100000 in
theorem ck_J2_indexOfSupplementary_4cfef : am_gd 109 := am_gd_of am_mfs (by decide +kernel) (wc_0 wd_753 (wc_0 wd_756 (wc_0 wd_760 (wc_0 wd_738 (wc_0 wd_691 (wc_0 wd_691 (wc_e)))))))
set_option maxRecDepth 100000 in
theorem ck_J2_indexOf_4cfef : am_gd 110 := am_gd_of am_mfs (by decide +kernel) (wc_0 wd_732 (wc_0 wd_733 (wc_0 wd_734 (wc_0 wd_735 (wc_0 wd_750 (wc_e))))))
set_option maxRecDepth 100000 in
theorem ck_J0_indexOf_7cf53 : am_gd 111 := am_gd_of am_mfs (by decide +kernel) (wc_0 wd_666 (wc_0 wd_2280 (wc_0 wd_717 (wc_0 wd_718 (wc_0 wd_2280 (wc_0 wd_717 (wc_0 wd_729 (wc_e))))))))
set_option maxRecDepth 100000 in
theorem ck_J0_indexOf_0f7a4 : am_gd 112 := am_gd_of am_mfs (by decide +kernel) (wc_0 wd_713 (wc_e))
set_option maxRecDepth 100000 in
theorem ck_X8_tokenOf : am_gd 113 := am_gd_of am_mfs (by decide +kernel) (wc_0 wd_633 (wc_0 wd_637 (wc_0 wd_647 (wc_0 wd_640 (wc_0 wd_704 (wc_0 wd_709 (wc_e)))))))
set_option maxRecDepth 100000 in
theorem ck_X8_splitText : am_gd 114 := am_gd_of am_mfs (by decide +kernel) (wc_0 wd_227 (wc_0 wd_224 (wc_0 wd_227 (wc_0 wd_225 (wc_0 wd_227 (wc_0 wd_227 (wc_0 wd_629 (wc_0 wd_226 (wc_0 wd_227 (wc_0 wd_225 (wc_0 wd_227 (wc_0 wd_643 (wc_0 wd_227 (wc_0 wd_227 (wc_0 wd_615 (wc_0 wd_226 (wc_0 wd_227 (wc_0 wd_224 (wc_0 wd_225 (wc_0 wd_227 (wc_0 wd_227 (wc_0 wd_227 (wc_e)))))))))))))))))))))))
set_option maxRecDepth 100000 in
theorem ck_X8_step : am_gd 115 := am_gd_of am_mfs (by decide +kernel) (wc_0 wd_228 (wc_0 wd_228 (wc_0 wd_228 (wc_0 wd_228 (wc_0 wd_227 (wc_0 wd_228 (wc_0 wd_225 (wc_0 wd_225 (wc_0 wd_228 (wc_0 wd_229 (wc_e)))))))))))
set_option maxRecDepth 100000 in
theorem ck_X8_refuse : am_gd 116 := am_gd_of am_mfs (by decide +kernel) (wc_0 wd_229 (wc_0 wd_230 (wc_0 wd_228 (wc_0 wd_228 (wc_0 wd_227 (wc_0 wd_228 (wc_0 wd_226 (wc_0 wd_226 (wc_0 wd_228 (wc_0 wd_224 (wc_0 wd_232 (wc_e))))))))))))
set_option maxRecDepth 100000 in
theorem ck_X8_pass : am_gd 117 := am_gd_of am_mfs (by decide +kernel) (wc_0 wd_229 (wc_0 wd_776 (wc_0 wd_764 (wc_e))))
set_option maxRecDepth 100000 in
theorem ck_X8_isNumber : am_gd 118 := am_gd_of am_mfs (by decide +kernel) (wc_0 wd_229 (wc_e))
set_option maxRecDepth 100000 in
theorem ck_X8_passNumberBelow : am_gd 119 := am_gd_of am_mfs (by decide +kernel) (wc_0 wd_784 (wc_0 wd_776 (wc_0 wd_229 (wc_0 wd_776 (wc_0 wd_764 (wc_e))))))
set_option maxRecDepth 100000 in
theorem ck_X8_readHouse : am_gd 120 := am_gd_of am_mfs (by decide +kernel) (wc_0 wd_772 (wc_0 wd_772 (wc_0 wd_234 (wc_0 wd_229 (wc_0 wd_205 (wc_0 wd_780 (wc_e)))))))
set_option maxRecDepth 100000 in
theorem ck_X8_endLine : am_gd 121 := am_gd_of am_mfs (by decide +kernel) (wc_0 wd_235 (wc_0 wd_235 (wc_0 wd_772 (wc_e))))
set_option maxRecDepth 100000 in
theorem ck_X8_readClass : am_gd 122 := am_gd_of am_mfs (by decide +kernel) (wc_0 wd_234 (wc_0 wd_202 (wc_0 wd_776 (wc_0 wd_764 (wc_0 wd_784 (wc_0 wd_229 (wc_0 wd_234 (wc_0 wd_800 (wc_0 wd_776 (wc_0 wd_234 (wc_0 wd_812 (wc_0 wd_776 (wc_0 wd_234 (wc_0 wd_813 (wc_0 wd_764 (wc_0 wd_234 (wc_0 wd_202 (wc_e))))))))))))))))))
set_option maxRecDepth 100000 in
theorem ck_X8_readMethod : am_gd 123 := am_gd_of am_mfs (by decide +kernel) (wc_0 wd_764 (wc_0 wd_229 (wc_0 wd_780 (wc_0 wd_772 (wc_0 wd_229 (wc_0 wd_234 (wc_0 wd_202 (wc_0 wd_780 (wc_0 wd_229 (wc_0 wd_229 (wc_0 wd_776 (wc_0 wd_234 (wc_0 wd_229 (wc_0 wd_821 (wc_0 wd_764 (wc_e))))))))))))))))
set_option maxRecDepth 100000 in
theorem ck_X8_emit : am_gd 124 := am_gd_of am_mfs (by decide +kernel) (wc_0 wd_239 (wc_0 wd_238 (wc_0 wd_238 (wc_0 wd_239 (wc_0 wd_239 (wc_0 wd_239 (wc_e)))))))
set_option maxRecDepth 100000 in
theorem ck_X8_enter : am_gd 125 := am_gd_of am_mfs (by decide +kernel) (wc_0 wd_241 (wc_0 wd_776 (wc_0 wd_241 (wc_0 wd_241 (wc_0 wd_764 (wc_e))))))
set_option maxRecDepth 100000 in
theorem ck_X8_leave : am_gd 126 := am_gd_of am_mfs (by decide +kernel) (wc_0 wd_241 (wc_0 wd_241 (wc_e)))
set_option maxRecDepth 100000 in
theorem ck_X8_readName : am_gd 127 := am_gd_of am_mfs (by decide +kernel) (wc_0 wd_229 (wc_0 wd_848 (wc_0 wd_764 (wc_e))))
set_option maxRecDepth 100000 in
theorem ck_X8_readAtom : am_gd 128 := am_gd_of am_mfs (by decide +kernel) (wc_0 wd_784 (wc_0 wd_229 (wc_0 wd_848 (wc_0 wd_764 (wc_0 wd_229 (wc_0 wd_852 (wc_0 wd_836 (wc_0 wd_772 (wc_0 wd_856 (wc_0 wd_852 (wc_0 wd_860 (wc_0 wd_856 (wc_0 wd_240 (wc_0 wd_880 (wc_0 wd_776 (wc_0 wd_880 (wc_0 wd_776 (wc_e))))))))))))))))))
set_option maxRecDepth 100000 in
theorem ck_X8_readBoth : am_gd 129 := am_gd_of am_mfs (by decide +kernel) (wc_0 wd_872 (wc_0 wd_229 (wc_0 wd_764 (wc_0 wd_872 (wc_0 wd_848 (wc_e))))))
set_option maxRecDepth 100000 in
theorem ck_X8_readChoice : am_gd 130 := am_gd_of am_mfs (by decide +kernel) (wc_0 wd_864 (wc_0 wd_772 (wc_0 wd_836 (wc_0 wd_772 (wc_0 wd_836 (wc_0 wd_772 (wc_0 wd_848 (wc_e))))))))
set_option maxRecDepth 100000 in
theorem ck_X8_readComparison : am_gd 131 := am_gd_of am_mfs (by decide +kernel) (wc_0 wd_229 (wc_0 wd_776 (wc_0 wd_764 (wc_0 wd_836 (wc_0 wd_848 (wc_e))))))
set_option maxRecDepth 100000 in
theorem ck_X8_readSum : am_gd 132 := am_gd_of am_mfs (by decide +kernel) (wc_0 wd_840 (wc_0 wd_229 (wc_0 wd_229 (wc_0 wd_229 (wc_0 wd_764 (wc_0 wd_840 (wc_0 wd_848 (wc_e))))))))
set_option maxRecDepth 100000 in
theorem ck_X8_readTerm : am_gd 133 := am_gd_of am_mfs (by decide +kernel) (wc_0 wd_844 (wc_0 wd_229 (wc_0 wd_764 (wc_0 wd_844 (wc_0 wd_848 (wc_e))))))
set_option maxRecDepth 100000 in
theorem ck_X8_readTruth : am_gd 134 := am_gd_of am_mfs (by decide +kernel) (wc_0 wd_868 (wc_0 wd_229 (wc_0 wd_764 (wc_0 wd_868 (wc_0 wd_848 (wc_e))))))
set_option maxRecDepth 100000 in
theorem ck_X8_readUnit : am_gd 135 := am_gd_of am_mfs (by decide +kernel) (wc_0 wd_229 (wc_0 wd_852 (wc_0 wd_872 (wc_0 wd_856 (wc_0 wd_848 (wc_0 wd_229 (wc_0 wd_852 (wc_0 wd_864 (wc_0 wd_772 (wc_0 wd_856 (wc_0 wd_836 (wc_0 wd_876 (wc_e)))))))))))))
set_option maxRecDepth 100000 in
theorem ck_J7_copyOf_59c91 : am_gd 136 := am_gd_of am_mfs (by decide +kernel) (wc_0 wd_222 (wc_0 wd_894 (wc_0 wd_895 (wc_e))))
set_option maxRecDepth 100000 in
theorem ck_X8_readLaw : am_gd 137 := am_gd_of am_mfs (by decide +kernel) (wc_0 wd_229 (wc_0 wd_240 (wc_0 wd_239 (wc_0 wd_241 (wc_0 wd_764 (wc_0 wd_772 (wc_0 wd_240 (wc_0 wd_836 (wc_0 wd_864 (wc_0 wd_238 (wc_0 wd_239 (wc_0 wd_238 (wc_0 wd_612 (wc_0 wd_884 (wc_0 wd_240 (wc_0 wd_236 (wc_0 wd_237 (wc_e))))))))))))))))))
set_option maxRecDepth 100000 in
theorem ck_X8_readLine : am_gd 138 := am_gd_of am_mfs (by decide +kernel) (wc_0 wd_229 (wc_0 wd_796 (wc_0 wd_817 (wc_0 wd_832 (wc_0 wd_776 (wc_e))))))
set_option maxRecDepth 100000 in
theorem ck_X8_read : am_gd 139 := am_gd_of am_mfs (by decide +kernel) (wc_0 wd_223 (wc_0 wd_612 (wc_0 wd_615 (wc_0 wd_224 (wc_0 wd_230 (wc_0 wd_232 (wc_0 wd_234 (wc_0 wd_618 (wc_0 wd_235 (wc_0 wd_236 (wc_0 wd_237 (wc_0 wd_625 (wc_0 wd_228 (wc_0 wd_764 (wc_0 wd_768 (wc_0 wd_788 (wc_0 wd_229 (wc_0 wd_792 (wc_0 wd_788 (wc_e))))))))))))))))))))
set_option maxRecDepth 100000 in
theorem ck_X8_moveInto : am_gd 140 := am_gd_of am_mfs (by decide +kernel) (wc_0 wd_288 (wc_0 wd_234 (wc_0 wd_902 (wc_0 wd_236 (wc_0 wd_290 (wc_0 wd_237 (wc_0 wd_294 (wc_0 wd_235 (wc_0 wd_296 (wc_e))))))))))
set_option maxRecDepth 100000 in
theorem ck_X9_init : am_gd 141 := am_gd_of am_mfs (by decide +kernel) (wc_0 wd_525 (wc_0 wd_526 (wc_0 wd_537 (wc_0 wd_529 (wc_e)))))
set_option maxRecDepth 100000 in
theorem ck_X9_isMissing : am_gd 142 := am_gd_of am_mfs (by decide +kernel) (wc_0 wd_526 (wc_e))
set_option maxRecDepth 100000 in
theorem ck_J7_fill_d0a16 : am_gd 143 := am_gd_of am_mfs (by decide +kernel) (wc_e)
set_option maxRecDepth 100000 in
theorem ck_X9_begin : am_gd 144 := am_gd_of am_mfs (by decide +kernel) (wc_0 wd_526 (wc_0 wd_527 (wc_0 wd_529 (wc_0 wd_1493 (wc_e)))))
set_option maxRecDepth 100000 in
theorem ck_X9_at : am_gd 145 := am_gd_of am_mfs (by decide +kernel) (wc_0 wd_529 (wc_e))
set_option maxRecDepth 100000 in
theorem ck_X9_cut : am_gd 146 := am_gd_of am_mfs (by decide +kernel) (wc_0 wd_526 (wc_e))
set_option maxRecDepth 100000 in
theorem ck_X9_put : am_gd 147 := am_gd_of am_mfs (by decide +kernel) (wc_0 wd_529 (wc_0 wd_1505 (wc_e)))
set_option maxRecDepth 100000 in
theorem ck_X10_init : am_gd 148 := am_gd_of am_mfs (by decide +kernel) (wc_0 wd_417 (wc_0 wd_222 (wc_0 wd_420 (wc_0 wd_222 (wc_0 wd_422 (wc_0 wd_222 (wc_0 wd_423 (wc_0 wd_222 (wc_0 wd_424 (wc_0 wd_418 (wc_0 wd_419 (wc_e))))))))))))
set_option maxRecDepth 100000 in
theorem ck_X10_push : am_gd 149 := am_gd_of am_mfs (by decide +kernel) (wc_0 wd_425 (wc_0 wd_425 (wc_0 wd_424 (wc_0 wd_424 (wc_0 wd_425 (wc_0 wd_425 (wc_0 wd_425 (wc_e))))))))
set_option maxRecDepth 100000 in
theorem ck_X10_pop : am_gd 150 := am_gd_of am_mfs (by decide +kernel) (wc_0 wd_425 (wc_0 wd_425 (wc_0 wd_424 (wc_0 wd_425 (wc_0 wd_425 (wc_0 wd_424 (wc_0 wd_425 (wc_e))))))))
set_option maxRecDepth 100000 in
theorem ck_X10_joined : am_gd 151 := am_gd_of am_mfs (by decide +kernel) (wc_e)
set_option maxRecDepth 100000 in
theorem ck_X10_keep : am_gd 152 := am_gd_of am_mfs (by decide +kernel) (wc_0 wd_1323 (wc_0 wd_1324 (wc_0 wd_1325 (wc_0 wd_1326 (wc_e)))))
set_option maxRecDepth 100000 in
theorem ck_X10_work : am_gd 153 := am_gd_of am_mfs (by decide +kernel) (wc_0 wd_426 (wc_0 wd_1305 (wc_0 wd_427 (wc_0 wd_1305 (wc_0 wd_428 (wc_0 wd_1305 (wc_0 wd_429 (wc_0 wd_1305 (wc_0 wd_430 (wc_0 wd_1305 (wc_0 wd_431 (wc_0 wd_1305 (wc_0 wd_1313 (wc_0 wd_1305 (wc_0 wd_1313 (wc_0 wd_1313 (wc_0 wd_1313 (wc_0 wd_1305 (wc_0 wd_1313 (wc_0 wd_1313 (wc_0 wd_1317 (wc_0 wd_1320 (wc_0 wd_1305 (wc_e))))))))))))))))))))))))
set_option maxRecDepth 100000 in
theorem ck_X10_run : am_gd 154 := am_gd_of am_mfs (by decide +kernel) (wc_0 wd_425 (wc_0 wd_1305 (wc_0 wd_1309 (wc_0 wd_1313 (wc_e)))))
set_option maxRecDepth 100000 in
theorem ck_X10_trace : am_gd 155 := am_gd_of am_mfs (by decide +kernel) (wc_0 wd_421 (wc_0 wd_428 (wc_0 wd_426 (wc_0 wd_429 (wc_0 wd_419 (wc_0 wd_1298 (wc_0 wd_421 (wc_0 wd_420 (wc_0 wd_419 (wc_0 wd_1299 (wc_0 wd_427 (wc_0 wd_418 (wc_0 wd_287 (wc_0 wd_427 (wc_0 wd_1300 (wc_0 wd_418 (wc_0 wd_293 (wc_0 wd_418 (wc_0 wd_293 (wc_0 wd_1301 (wc_0 wd_420 (wc_0 wd_421 (wc_0 wd_421 (wc_0 wd_421 (wc_e)))))))))))))))))))))))))
set_option maxRecDepth 100000 in
theorem ck_X10_passed : am_gd 156 := am_gd_of am_mfs (by decide +kernel) (wc_0 wd_421 (wc_0 wd_420 (wc_0 wd_419 (wc_0 wd_428 (wc_0 wd_420 (wc_0 wd_1299 (wc_e)))))))
set_option maxRecDepth 100000 in
theorem ck_X10_answer : am_gd 157 := am_gd_of am_mfs (by decide +kernel) (wc_0 wd_1294 (wc_0 wd_421 (wc_0 wd_1327 (wc_0 wd_430 (wc_0 wd_421 (wc_0 wd_420 (wc_0 wd_1328 (wc_0 wd_420 (wc_0 wd_431 (wc_0 wd_419 (wc_0 wd_431 (wc_0 wd_1299 (wc_0 wd_427 (wc_0 wd_418 (wc_0 wd_291 (wc_0 wd_1329 (wc_0 wd_427 (wc_0 wd_426 (wc_0 wd_430 (wc_0 wd_1320 (wc_0 wd_418 (wc_0 wd_291 (wc_0 wd_1301 (wc_0 wd_430 (wc_0 wd_430 (wc_e))))))))))))))))))))))))))
set_option maxRecDepth 100000 in
theorem ck_X10_mostAlike : am_gd 158 := am_gd_of am_mfs (by decide +kernel) (wc_0 wd_423 (wc_0 wd_423 (wc_0 wd_1451 (wc_0 wd_423 (wc_0 wd_423 (wc_0 wd_1452 (wc_e)))))))
set_option maxRecDepth 100000 in
theorem ck_X10_markReached : am_gd 159 := am_gd_of am_mfs (by decide +kernel) (wc_0 wd_422 (wc_0 wd_1351 (wc_0 wd_418 (wc_0 wd_287 (wc_0 wd_199 (wc_0 wd_418 (wc_0 wd_287 (wc_0 wd_204 (wc_0 wd_1294 (wc_0 wd_421 (wc_0 wd_422 (wc_0 wd_1352 (wc_e)))))))))))))
set_option maxRecDepth 100000 in
theorem ck_X10_isDead : am_gd 160 := am_gd_of am_mfs (by decide +kernel) (wc_0 wd_418 (wc_0 wd_287 (wc_0 wd_1300 (wc_0 wd_1357 (wc_0 wd_422 (wc_e))))))
set_option maxRecDepth 100000 in
theorem ck_X11_init : am_gd 161 := am_gd_of am_mfs (by decide +kernel) (wc_0 wd_180 (wc_0 wd_221 (wc_0 wd_538 (wc_0 wd_541 (wc_0 wd_183 (wc_0 wd_185 (wc_0 wd_542 (wc_0 wd_277 (wc_0 wd_279 (wc_0 wd_543 (wc_0 wd_307 (wc_0 wd_309 (wc_0 wd_544 (wc_0 wd_341 (wc_0 wd_343 (wc_0 wd_545 (wc_0 wd_360 (wc_0 wd_361 (wc_0 wd_546 (wc_0 wd_307 (wc_0 wd_309 (wc_0 wd_547 (wc_0 wd_362 (wc_0 wd_543 (wc_0 wd_286 (wc_0 wd_544 (wc_0 wd_364 (wc_0 wd_548 (wc_0 wd_396 (wc_0 wd_398 (wc_0 wd_549 (wc_0 wd_412 (wc_0 wd_543 (wc_0 wd_544 (wc_0 wd_414 (wc_0 wd_550 (wc_0 wd_461 (wc_0 wd_463 (wc_0 wd_551 (wc_0 wd_487 (wc_0 wd_489 (wc_0 wd_552 (wc_0 wd_222 (wc_0 wd_553 (wc_0 wd_222 (wc_0 wd_554 (wc_0 wd_518 (wc_0 wd_555 (wc_0 wd_277 (wc_0 wd_556 (wc_0 wd_555 (wc_0 wd_518 (wc_0 wd_522 (wc_e))))))))))))))))))))))))))))))))))))))))))))))))))))))
set_option maxRecDepth 100000 in
theorem ck_X11_putBytes : am_gd 162 := am_gd_of am_mfs (by decide +kernel) (wc_0 wd_539 (wc_0 wd_538 (wc_0 wd_539 (wc_0 wd_539 (wc_0 wd_539 (wc_e))))))
set_option maxRecDepth 100000 in
theorem ck_X11_feed : am_gd 163 := am_gd_of am_mfs (by decide +kernel) (wc_0 wd_539 (wc_0 wd_600 (wc_0 wd_600 (wc_0 wd_600 (wc_0 wd_600 (wc_0 wd_600 (wc_0 wd_539 (wc_e))))))))
set_option maxRecDepth 100000 in
theorem ck_X11_settleAgain : am_gd 164 := am_gd_of am_mfs (by decide +kernel) (wc_0 wd_544 (wc_0 wd_543 (wc_0 wd_286 (wc_0 wd_915 (wc_0 wd_551 (wc_0 wd_475 (wc_0 wd_552 (wc_0 wd_504 (wc_e)))))))))
set_option maxRecDepth 100000 in
theorem ck_X11_house : am_gd 165 := am_gd_of am_mfs (by decide +kernel) (wc_0 wd_539 (wc_0 wd_539 (wc_0 wd_542 (wc_0 wd_538 (wc_0 wd_608 (wc_0 wd_542 (wc_0 wd_231 (wc_0 wd_540 (wc_0 wd_542 (wc_0 wd_233 (wc_0 wd_541 (wc_0 wd_540 (wc_0 wd_542 (wc_0 wd_543 (wc_0 wd_898 (wc_0 wd_545 (wc_0 wd_907 (wc_0 wd_911 (wc_0 wd_543 (wc_0 wd_297 (wc_e)))))))))))))))))))))
set_option maxRecDepth 100000 in
theorem ck_X11_fault : am_gd 166 := am_gd_of am_mfs (by decide +kernel) (wc_0 wd_540 (wc_0 wd_541 (wc_e)))
set_option maxRecDepth 100000 in
theorem ck_X11_parent : am_gd 167 := am_gd_of am_mfs (by decide +kernel) (wc_0 wd_543 (wc_0 wd_286 (wc_0 wd_965 (wc_0 wd_543 (wc_0 wd_286 (wc_0 wd_966 (wc_e)))))))
set_option maxRecDepth 100000 in
theorem ck_X11_defines : am_gd 168 := am_gd_of am_mfs (by decide +kernel) (wc_0 wd_543 (wc_0 wd_286 (wc_0 wd_965 (wc_0 wd_971 (wc_0 wd_543 (wc_0 wd_286 (wc_0 wd_972 (wc_e))))))))
set_option maxRecDepth 100000 in
theorem ck_X11_state : am_gd 169 := am_gd_of am_mfs (by decide +kernel) (wc_0 wd_543 (wc_0 wd_286 (wc_0 wd_965 (wc_0 wd_544 (wc_0 wd_980 (wc_e))))))
set_option maxRecDepth 100000 in
theorem ck_X11_order : am_gd 170 := am_gd_of am_mfs (by decide +kernel) (wc_0 wd_543 (wc_0 wd_286 (wc_0 wd_965 (wc_0 wd_544 (wc_0 wd_988 (wc_e))))))
set_option maxRecDepth 100000 in
theorem ck_X11_place : am_gd 171 := am_gd_of am_mfs (by decide +kernel) (wc_0 wd_543 (wc_0 wd_286 (wc_0 wd_965 (wc_0 wd_543 (wc_0 wd_286 (wc_0 wd_965 (wc_0 wd_544 (wc_0 wd_993 (wc_e)))))))))
set_option maxRecDepth 100000 in
theorem ck_X11_above : am_gd 172 := am_gd_of am_mfs (by decide +kernel) (wc_0 wd_543 (wc_0 wd_286 (wc_0 wd_965 (wc_0 wd_543 (wc_0 wd_286 (wc_0 wd_1001 (wc_e)))))))
set_option maxRecDepth 100000 in
theorem ck_X11_below : am_gd 173 := am_gd_of am_mfs (by decide +kernel) (wc_0 wd_543 (wc_0 wd_286 (wc_0 wd_965 (wc_0 wd_543 (wc_0 wd_286 (wc_0 wd_201 (wc_0 wd_543 (wc_0 wd_286 (wc_0 wd_1001 (wc_e))))))))))
set_option maxRecDepth 100000 in
theorem ck_X11_keepTrial : am_gd 174 := am_gd_of am_mfs (by decide +kernel) (wc_0 wd_545 (wc_0 wd_543 (wc_0 wd_286 (wc_0 wd_1028 (wc_0 wd_543 (wc_0 wd_286 (wc_0 wd_546 (wc_0 wd_1013 (wc_0 wd_911 (wc_e))))))))))
set_option maxRecDepth 100000 in
theorem ck_X11_keptState : am_gd 175 := am_gd_of am_mfs (by decide +kernel) (wc_0 wd_1024 (wc_0 wd_544 (wc_0 wd_980 (wc_e))))
set_option maxRecDepth 100000 in
theorem ck_X11_give : am_gd 176 := am_gd_of am_mfs (by decide +kernel) (wc_0 wd_546 (wc_0 wd_543 (wc_0 wd_286 (wc_0 wd_1013 (wc_0 wd_546 (wc_0 wd_1014 (wc_0 wd_1020 (wc_e))))))))
set_option maxRecDepth 100000 in
theorem ck_X11_take : am_gd 177 := am_gd_of am_mfs (by decide +kernel) (wc_0 wd_546 (wc_0 wd_543 (wc_0 wd_286 (wc_0 wd_1013 (wc_0 wd_546 (wc_0 wd_1038 (wc_0 wd_1020 (wc_e))))))))
set_option maxRecDepth 100000 in
theorem ck_X11_swap : am_gd 178 := am_gd_of am_mfs (by decide +kernel) (wc_0 wd_546 (wc_0 wd_543 (wc_0 wd_286 (wc_0 wd_1013 (wc_0 wd_546 (wc_0 wd_1046 (wc_0 wd_1020 (wc_e))))))))
set_option maxRecDepth 100000 in
theorem ck_X11_define : am_gd 179 := am_gd_of am_mfs (by decide +kernel) (wc_0 wd_546 (wc_0 wd_543 (wc_0 wd_286 (wc_0 wd_1013 (wc_0 wd_546 (wc_0 wd_1054 (wc_0 wd_543 (wc_0 wd_286 (wc_0 wd_972 (wc_0 wd_1024 (wc_e)))))))))))
set_option maxRecDepth 100000 in
theorem ck_X11_mood : am_gd 180 := am_gd_of am_mfs (by decide +kernel) (wc_0 wd_546 (wc_0 wd_543 (wc_0 wd_286 (wc_0 wd_1013 (wc_0 wd_546 (wc_0 wd_1059 (wc_0 wd_543 (wc_0 wd_286 (wc_0 wd_206 (wc_0 wd_1024 (wc_e)))))))))))
set_option maxRecDepth 100000 in
theorem ck_X11_undo : am_gd 181 := am_gd_of am_mfs (by decide +kernel) (wc_0 wd_545 (wc_0 wd_352 (wc_0 wd_545 (wc_0 wd_543 (wc_0 wd_286 (wc_0 wd_1067 (wc_0 wd_911 (wc_0 wd_545 (wc_0 wd_352 (wc_e))))))))))
set_option maxRecDepth 100000 in
theorem ck_X11_isTray : am_gd 182 := am_gd_of am_mfs (by decide +kernel) (wc_e)
set_option maxRecDepth 100000 in
theorem ck_X11_tryDeeds : am_gd 183 := am_gd_of am_mfs (by decide +kernel) (wc_0 wd_546 (wc_0 wd_543 (wc_0 wd_286 (wc_0 wd_1013 (wc_0 wd_528 (wc_0 wd_546 (wc_0 wd_1086 (wc_0 wd_1090 (wc_e)))))))))
set_option maxRecDepth 100000 in
theorem ck_X11_judge : am_gd 184 := am_gd_of am_mfs (by decide +kernel) (wc_0 wd_1075 (wc_0 wd_555 (wc_0 wd_1078 (wc_0 wd_555 (wc_0 wd_1082 (wc_0 wd_528 (wc_0 wd_546 (wc_0 wd_1086 (wc_0 wd_1090 (wc_0 wd_547 (wc_0 wd_546 (wc_0 wd_915 (wc_0 wd_547 (wc_0 wd_546 (wc_0 wd_201 (wc_0 wd_1101 (wc_0 wd_546 (wc_0 wd_1105 (wc_e)))))))))))))))))))
set_option maxRecDepth 100000 in
theorem ck_X11_trayCode : am_gd 185 := am_gd_of am_mfs (by decide +kernel) (wc_0 wd_1075 (wc_0 wd_555 (wc_0 wd_1078 (wc_e))))
set_option maxRecDepth 100000 in
theorem ck_X11_perform : am_gd 186 := am_gd_of am_mfs (by decide +kernel) (wc_0 wd_1113 (wc_0 wd_555 (wc_0 wd_1082 (wc_0 wd_1024 (wc_e)))))
set_option maxRecDepth 100000 in
theorem ck_X11_nextDraw : am_gd 187 := am_gd_of am_mfs (by decide +kernel) (wc_0 wd_1124 (wc_e))
set_option maxRecDepth 100000 in
theorem ck_X11_drawnDeed : am_gd 188 := am_gd_of am_mfs (by decide +kernel) (wc_e)
set_option maxRecDepth 100000 in
theorem ck_X11_day : am_gd 189 := am_gd_of am_mfs (by decide +kernel) (wc_0 wd_546 (wc_0 wd_543 (wc_0 wd_286 (wc_0 wd_1013 (wc_0 wd_1121 (wc_0 wd_1121 (wc_0 wd_546 (wc_0 wd_1125 (wc_0 wd_1090 (wc_0 wd_1024 (wc_e)))))))))))
set_option maxRecDepth 100000 in
theorem ck_X11_demandsCode : am_gd 190 := am_gd_of am_mfs (by decide +kernel) (wc_0 wd_543 (wc_0 wd_286 (wc_0 wd_965 (wc_0 wd_544 (wc_0 wd_980 (wc_e))))))
set_option maxRecDepth 100000 in
theorem ck_X11_demands : am_gd 191 := am_gd_of am_mfs (by decide +kernel) (wc_0 wd_1132 (wc_0 wd_548 (wc_0 wd_1136 (wc_0 wd_548 (wc_0 wd_1157 (wc_e))))))
set_option maxRecDepth 100000 in
theorem ck_X11_demand : am_gd 192 := am_gd_of am_mfs (by decide +kernel) (wc_0 wd_1132 (wc_0 wd_548 (wc_0 wd_1136 (wc_0 wd_548 (wc_0 wd_1171 (wc_e))))))
set_option maxRecDepth 100000 in
theorem ck_X11_ring : am_gd 193 := am_gd_of am_mfs (by decide +kernel) (wc_0 wd_1132 (wc_0 wd_548 (wc_0 wd_1136 (wc_0 wd_548 (wc_0 wd_1183 (wc_0 wd_548 (wc_0 wd_1204 (wc_e))))))))
set_option maxRecDepth 100000 in
theorem ck_X11_ways : am_gd 194 := am_gd_of am_mfs (by decide +kernel) (wc_0 wd_1132 (wc_0 wd_548 (wc_0 wd_1136 (wc_0 wd_548 (wc_0 wd_1212 (wc_e))))))
set_option maxRecDepth 100000 in
theorem ck_X11_rank : am_gd 195 := am_gd_of am_mfs (by decide +kernel) (wc_0 wd_543 (wc_0 wd_286 (wc_0 wd_965 (wc_0 wd_544 (wc_0 wd_1224 (wc_0 wd_548 (wc_0 wd_1136 (wc_0 wd_548 (wc_0 wd_1225 (wc_e))))))))))
set_option maxRecDepth 100000 in
theorem ck_X11_isOldKind : am_gd 196 := am_gd_of am_mfs (by decide +kernel) (wc_e)
set_option maxRecDepth 100000 in
theorem ck_X11_old : am_gd 197 := am_gd_of am_mfs (by decide +kernel) (wc_0 wd_543 (wc_0 wd_286 (wc_0 wd_965 (wc_0 wd_1234 (wc_0 wd_549 (wc_0 wd_543 (wc_0 wd_286 (wc_0 wd_1237 (wc_0 wd_549 (wc_0 wd_1268 (wc_e)))))))))))
set_option maxRecDepth 100000 in
theorem ck_X11_breaks : am_gd 198 := am_gd_of am_mfs (by decide +kernel) (wc_0 wd_543 (wc_0 wd_286 (wc_0 wd_965 (wc_0 wd_1234 (wc_0 wd_544 (wc_0 wd_980 (wc_0 wd_549 (wc_0 wd_543 (wc_0 wd_286 (wc_0 wd_1237 (wc_0 wd_548 (wc_0 wd_1136 (wc_0 wd_549 (wc_0 wd_1273 (wc_0 wd_549 (wc_0 wd_1273 (wc_0 wd_548 (wc_0 wd_549 (wc_0 wd_1268 (wc_0 wd_549 (wc_0 wd_1268 (wc_0 wd_1274 (wc_e)))))))))))))))))))))))
set_option maxRecDepth 100000 in
theorem ck_X11_isOldOrder : am_gd 199 := am_gd_of am_mfs (by decide +kernel) (wc_0 wd_549 (wc_0 wd_1273 (wc_0 wd_544 (wc_0 wd_1283 (wc_0 wd_549 (wc_0 wd_1268 (wc_0 wd_544 (wc_0 wd_988 (wc_e)))))))))
set_option maxRecDepth 100000 in
theorem ck_X11_same : am_gd 200 := am_gd_of am_mfs (by decide +kernel) (wc_0 wd_1234 (wc_0 wd_549 (wc_0 wd_543 (wc_0 wd_286 (wc_0 wd_1237 (wc_0 wd_543 (wc_0 wd_286 (wc_0 wd_201 (wc_0 wd_544 (wc_0 wd_1224 (wc_0 wd_1279 (wc_e))))))))))))
set_option maxRecDepth 100000 in
theorem ck_X11_call : am_gd 201 := am_gd_of am_mfs (by decide +kernel) (wc_0 wd_543 (wc_0 wd_286 (wc_0 wd_965 (wc_0 wd_971 (wc_0 wd_1288 (wc_0 wd_544 (wc_0 wd_1224 (wc_0 wd_1289 (wc_0 wd_550 (wc_0 wd_543 (wc_0 wd_286 (wc_0 wd_206 (wc_0 wd_1290 (wc_e))))))))))))))
