theorem gd_r0 : ∀ j, j < 30 → am_gd (0 + j) := by
  intro j hj
  match j, hj with
  | 0, _ => exact ck_L_law
  | 1, _ => exact ck_X0_init
  | 2, _ => exact ck_J7_fill_53178
  | 3, _ => exact ck_X1_hasClass
  | 4, _ => exact ck_X1_parentCount
  | 5, _ => exact ck_X1_parentAt
  | 6, _ => exact ck_X1_ancestors
  | 7, _ => exact ck_X0_isMember
  | 8, _ => exact ck_X0_add
  | 9, _ => exact ck_X6_sizeOf
  | 10, _ => exact ck_X6_at
  | 11, _ => exact ck_X0_addOrderOf
  | 12, _ => exact ck_X0_gather
  | 13, _ => exact ck_X0_isDemanded
  | 14, _ => exact ck_J6_bitCount_0f7a4
  | 15, _ => exact ck_X0_size
  | 16, _ => exact ck_X0_at
  | 17, _ => exact ck_X0_ringAt
  | 18, _ => exact ck_X0_distance
  | 19, _ => exact ck_X0_measure
  | 20, _ => exact ck_X0_startOfRing
  | 21, _ => exact ck_X0_nextOfRing
  | 22, _ => exact ck_X0_findRing
  | 23, _ => exact ck_X0_endingsBehind
  | 24, _ => exact ck_X0_rowsThatMeetAll
  | 25, _ => exact ck_X0_rowsAheadOfOrder
  | 26, _ => exact ck_X1_init
  | 27, _ => exact ck_X1_clear
  | 28, _ => exact ck_X1_copyFrom
  | 29, _ => exact ck_X1_parentPlace
  | j + 30, hj => exact absurd hj (by omega)
theorem gd_r30 : ∀ j, j < 30 → am_gd (30 + j) := by
  intro j hj
  match j, hj with
  | 0, _ => exact ck_X1_listParents
  | 1, _ => exact ck_X11_isMethod
  | 2, _ => exact ck_X1_definitionAt
  | 3, _ => exact ck_X1_links
  | 4, _ => exact ck_X1_definitionCount
  | 5, _ => exact ck_X1_appendParent
  | 6, _ => exact ck_X1_addParent
  | 7, _ => exact ck_X1_removeParent
  | 8, _ => exact ck_X1_turnParents
  | 9, _ => exact ck_X1_putDefinition
  | 10, _ => exact ck_X1_putMood
  | 11, _ => exact ck_X1_doDeed
  | 12, _ => exact ck_X2_init
  | 13, _ => exact ck_X2_copyFrom
  | 14, _ => exact ck_X6_init
  | 15, _ => exact ck_X3_init
  | 16, _ => exact ck_X3_tally
  | 17, _ => exact ck_X6_hasOrder
  | 18, _ => exact ck_X6_layRows
  | 19, _ => exact ck_X6_firstFree
  | 20, _ => exact ck_X6_takeFromAll
  | 21, _ => exact ck_X6_isAllTaken
  | 22, _ => exact ck_X6_settle
  | 23, _ => exact ck_X6_settleSwapped
  | 24, _ => exact ck_X6_settleWithout
  | 25, _ => exact ck_X3_orderedIf
  | 26, _ => exact ck_X3_learn
  | 27, _ => exact ck_X4_init
  | 28, _ => exact ck_X4_placesOf
  | 29, _ => exact ck_X4_mendFrom
  | j + 30, hj => exact absurd hj (by omega)
theorem gd_r60 : ∀ j, j < 30 → am_gd (60 + j) := by
  intro j hj
  match j, hj with
  | 0, _ => exact ck_X4_noteLinks
  | 1, _ => exact ck_X4_learn
  | 2, _ => exact ck_X4_linkAt
  | 3, _ => exact ck_X5_init
  | 4, _ => exact ck_X5_sizeOf
  | 5, _ => exact ck_X5_at
  | 6, _ => exact ck_X5_append
  | 7, _ => exact ck_X5_appendByDepth
  | 8, _ => exact ck_X5_appendLastOnes
  | 9, _ => exact ck_X5_appendByBreadth
  | 10, _ => exact ck_X5_build
  | 11, _ => exact ck_X6_stateOf
  | 12, _ => exact ck_X6_placeOf
  | 13, _ => exact ck_X6_bitsOf
  | 14, _ => exact ck_X6_settleAll
  | 15, _ => exact ck_X7_init
  | 16, _ => exact ck_X7_forget
  | 17, _ => exact ck_X7_push
  | 18, _ => exact ck_X7_goBack
  | 19, _ => exact ck_X8_init
  | 20, _ => exact ck_X8_byteAt
  | 21, _ => exact ck_X8_isLetter
  | 22, _ => exact ck_X8_isDigit
  | 23, _ => exact ck_X8_tokenEnd
  | 24, _ => exact ck_J0_coder_7d493
  | 25, _ => exact ck_J0_length_8abf5
  | 26, _ => exact ck_J0_isLatin1_aae02
  | 27, _ => exact ck_J3_checkIndex_8e157
  | 28, _ => exact ck_J0_checkIndex_df160
  | 29, _ => exact ck_J1_charAt_3b067
  | j + 30, hj => exact absurd hj (by omega)
theorem gd_r90 : ∀ j, j < 30 → am_gd (90 + j) := by
  intro j hj
  match j, hj with
  | 0, _ => exact ck_J2_length_9d52b
  | 1, _ => exact ck_J2_checkIndex_2214a
  | 2, _ => exact ck_J2_getChar_3b067
  | 3, _ => exact ck_J2_charAt_3b067
  | 4, _ => exact ck_J0_charAt_5068e
  | 5, _ => exact ck_X8_isWord
  | 6, _ => exact ck_X8_wordToken
  | 7, _ => exact ck_X8_numberToken
  | 8, _ => exact ck_J1_canEncode_9a6ad
  | 9, _ => exact ck_J1_indexOfChar_4cfef
  | 10, _ => exact ck_J1_indexOf_4cfef
  | 11, _ => exact ck_J3_checkFromToIndex_8c36e
  | 12, _ => exact ck_J0_checkBoundsBeginEnd_23922
  | 13, _ => exact ck_J2_checkBoundsBeginEnd_d044e
  | 14, _ => exact ck_J2_indexOfCharUnsafe_4cfef
  | 15, _ => exact ck_J2_indexOfChar_4cfef
  | 16, _ => exact ck_J11_isValidCodePoint_9a6ad
  | 17, _ => exact ck_J11_highSurrogate_5068e
  | 18, _ => exact ck_J11_lowSurrogate_5068e
  | 19, _ => exact ck_J2_indexOfSupplementary_4cfef
  | 20, _ => exact ck_J2_indexOf_4cfef
  | 21, _ => exact ck_J0_indexOf_7cf53
  | 22, _ => exact ck_J0_indexOf_0f7a4
  | 23, _ => exact ck_X8_tokenOf
  | 24, _ => exact ck_X8_splitText
  | 25, _ => exact ck_X8_step
  | 26, _ => exact ck_X8_refuse
  | 27, _ => exact ck_X8_pass
  | 28, _ => exact ck_X8_isNumber
  | 29, _ => exact ck_X8_passNumberBelow
  | j + 30, hj => exact absurd hj (by omega)
theorem gd_r120 : ∀ j, j < 30 → am_gd (120 + j) := by
  intro j hj
  match j, hj with
  | 0, _ => exact ck_X8_readHouse
  | 1, _ => exact ck_X8_endLine
  | 2, _ => exact ck_X8_readClass
  | 3, _ => exact ck_X8_readMethod
  | 4, _ => exact ck_X8_emit
  | 5, _ => exact ck_X8_enter
  | 6, _ => exact ck_X8_leave
  | 7, _ => exact ck_X8_readName
  | 8, _ => exact ck_X8_readAtom
  | 9, _ => exact ck_X8_readBoth
  | 10, _ => exact ck_X8_readChoice
  | 11, _ => exact ck_X8_readComparison
  | 12, _ => exact ck_X8_readSum
  | 13, _ => exact ck_X8_readTerm
  | 14, _ => exact ck_X8_readTruth
  | 15, _ => exact ck_X8_readUnit
  | 16, _ => exact ck_J7_copyOf_59c91
  | 17, _ => exact ck_X8_readLaw
  | 18, _ => exact ck_X8_readLine
  | 19, _ => exact ck_X8_read
  | 20, _ => exact ck_X8_moveInto
  | 21, _ => exact ck_X9_init
  | 22, _ => exact ck_X9_isMissing
  | 23, _ => exact ck_J7_fill_d0a16
  | 24, _ => exact ck_X9_begin
  | 25, _ => exact ck_X9_at
  | 26, _ => exact ck_X9_cut
  | 27, _ => exact ck_X9_put
  | 28, _ => exact ck_X10_init
  | 29, _ => exact ck_X10_push
  | j + 30, hj => exact absurd hj (by omega)
theorem gd_r150 : ∀ j, j < 30 → am_gd (150 + j) := by
  intro j hj
  match j, hj with
  | 0, _ => exact ck_X10_pop
  | 1, _ => exact ck_X10_joined
  | 2, _ => exact ck_X10_keep
  | 3, _ => exact ck_X10_work
  | 4, _ => exact ck_X10_run
  | 5, _ => exact ck_X10_trace
  | 6, _ => exact ck_X10_passed
  | 7, _ => exact ck_X10_answer
  | 8, _ => exact ck_X10_mostAlike
  | 9, _ => exact ck_X10_markReached
  | 10, _ => exact ck_X10_isDead
  | 11, _ => exact ck_X11_init
  | 12, _ => exact ck_X11_putBytes
  | 13, _ => exact ck_X11_feed
  | 14, _ => exact ck_X11_settleAgain
  | 15, _ => exact ck_X11_house
  | 16, _ => exact ck_X11_fault
  | 17, _ => exact ck_X11_parent
  | 18, _ => exact ck_X11_defines
  | 19, _ => exact ck_X11_state
  | 20, _ => exact ck_X11_order
  | 21, _ => exact ck_X11_place
  | 22, _ => exact ck_X11_above
  | 23, _ => exact ck_X11_below
  | 24, _ => exact ck_X11_keepTrial
  | 25, _ => exact ck_X11_keptState
  | 26, _ => exact ck_X11_give
  | 27, _ => exact ck_X11_take
  | 28, _ => exact ck_X11_swap
  | 29, _ => exact ck_X11_define
  | j + 30, hj => exact absurd hj (by omega)
theorem gd_r180 : ∀ j, j < 30 → am_gd (180 + j) := by
  intro j hj
  match j, hj with
  | 0, _ => exact ck_X11_mood
  | 1, _ => exact ck_X11_undo
  | 2, _ => exact ck_X11_isTray
  | 3, _ => exact ck_X11_tryDeeds
  | 4, _ => exact ck_X11_judge
  | 5, _ => exact ck_X11_trayCode
  | 6, _ => exact ck_X11_perform
  | 7, _ => exact ck_X11_nextDraw
  | 8, _ => exact ck_X11_drawnDeed
  | 9, _ => exact ck_X11_day
  | 10, _ => exact ck_X11_demandsCode
  | 11, _ => exact ck_X11_demands
  | 12, _ => exact ck_X11_demand
  | 13, _ => exact ck_X11_ring
  | 14, _ => exact ck_X11_ways
  | 15, _ => exact ck_X11_rank
  | 16, _ => exact ck_X11_isOldKind
  | 17, _ => exact ck_X11_old
  | 18, _ => exact ck_X11_breaks
  | 19, _ => exact ck_X11_isOldOrder
  | 20, _ => exact ck_X11_same
  | 21, _ => exact ck_X11_call
  | 22, _ => exact ck_X11_through
  | 23, _ => exact ck_X11_serves
  | 24, _ => exact ck_X11_dead
  | 25, _ => exact ck_X11_firstDead
  | 26, _ => exact ck_X11_common
  | 27, _ => exact ck_X11_wouldCode
  | 28, _ => exact ck_X11_would
  | 29, _ => exact ck_X11_wouldOrder
  | j + 30, hj => exact absurd hj (by omega)
theorem gd_r210 : ∀ j, j < 30 → am_gd (210 + j) := by
  intro j hj
  match j, hj with
  | 0, _ => exact ck_X11_turnTold
  | 1, _ => exact ck_X11_wouldWays
  | 2, _ => exact ck_X11_repairs
  | 3, _ => exact ck_X11_repair
  | 4, _ => exact ck_X11_canBeTold
  | 5, _ => exact ck_X11_toldCode
  | 6, _ => exact ck_X11_moodsOf
  | 7, _ => exact ck_X11_moods
  | 8, _ => exact ck_X11_attempt
  | 9, _ => exact ck_X11_lotsCode
  | 10, _ => exact ck_X11_inLowestTerms
  | 11, _ => exact ck_X11_chance
  | 12, _ => exact ck_X11_mean
  | 13, _ => exact ck_X11_numbers
  | 14, _ => exact ck_X11_write
  | 15, _ => exact ck_X11_lists
  | 16, _ => exact ck_X11_image
  | 17, _ => exact ck_X11_restore
  | 18, _ => exact ck_X11_count
  | 19, _ => exact ck_X12_within
  | 20, _ => exact ck_X12_plain
  | 21, _ => exact ck_X12_init
  | 22, _ => exact ck_X12_feed
  | 23, _ => exact ck_X12_see
  | 24, _ => exact ck_X12_isSmall
  | 25, _ => exact ck_X12_isDigit
  | 26, _ => exact ck_X12_keyAt
  | 27, _ => exact ck_X12_next
  | 28, _ => exact ck_X12_fails
  | 29, _ => exact ck_X12_is
  | j + 30, hj => exact absurd hj (by omega)
theorem gd_r240 : ∀ j, j < 30 → am_gd (240 + j) := by
  intro j hj
  match j, hj with
  | 0, _ => exact ck_X12_eats
  | 1, _ => exact ck_X12_takes
  | 2, _ => exact ck_X12_isIn
  | 3, _ => exact ck_X12_wordOf
  | 4, _ => exact ck_X12_codes
  | 5, _ => exact ck_X12_goesIn
  | 6, _ => exact ck_X12_readAtom
  | 7, _ => exact ck_X12_readBoth
  | 8, _ => exact ck_X12_readIf
  | 9, _ => exact ck_X12_readSum
  | 10, _ => exact ck_X12_readTerm
  | 11, _ => exact ck_X12_readTruth
  | 12, _ => exact ck_X12_readUnit
  | 13, _ => exact ck_X12_named
  | 14, _ => exact ck_X12_isUpAlready
  | 15, _ => exact ck_X12_readClass
  | 16, _ => exact ck_X12_readMethod
  | 17, _ => exact ck_X12_readLaw
  | 18, _ => exact ck_X12_readLine
  | 19, _ => exact ck_X12_closes
  | 20, _ => exact ck_X12_house
  | 21, _ => exact ck_X12_fault
  | 22, _ => exact ck_X12_isClass
  | 23, _ => exact ck_X12_isMethod
  | 24, _ => exact ck_X12_parentAt
  | 25, _ => exact ck_X12_placeOfParent
  | 26, _ => exact ck_X12_laysRows
  | 27, _ => exact ck_X12_givenBy
  | 28, _ => exact ck_X12_merges
  | 29, _ => exact ck_X12_laysOrder
  | j + 30, hj => exact absurd hj (by omega)
theorem gd_r270 : ∀ j, j < 30 → am_gd (270 + j) := by
  intro j hj
  match j, hj with
  | 0, _ => exact ck_X12_laysParents
  | 1, _ => exact ck_X12_laysOrders
  | 2, _ => exact ck_X12_placeIn
  | 3, _ => exact ck_X12_statesOf
  | 4, _ => exact ck_X12_bitsOf
  | 5, _ => exact ck_X12_parent
  | 6, _ => exact ck_X12_defines
  | 7, _ => exact ck_X12_state
  | 8, _ => exact ck_X12_order
  | 9, _ => exact ck_X12_place
  | 10, _ => exact ck_X12_aboveOf
  | 11, _ => exact ck_X12_above
  | 12, _ => exact ck_X12_below
  | 13, _ => exact ck_X12_stores
  | 14, _ => exact ck_X12_isAgain
  | 15, _ => exact ck_X12_notes
  | 16, _ => exact ck_X12_whyGive
  | 17, _ => exact ck_X12_whyTake
  | 18, _ => exact ck_X12_whySwap
  | 19, _ => exact ck_X12_whyDefine
  | 20, _ => exact ck_X12_goesGive
  | 21, _ => exact ck_X12_goesTake
  | 22, _ => exact ck_X12_goesSwap
  | 23, _ => exact ck_X12_endsWith
  | 24, _ => exact ck_X12_give
  | 25, _ => exact ck_X12_take
  | 26, _ => exact ck_X12_swap
  | 27, _ => exact ck_X12_define
  | 28, _ => exact ck_X12_mood
  | 29, _ => exact ck_X12_undo
  | j + 30, hj => exact absurd hj (by omega)
theorem gd_r300 : ∀ j, j < 30 → am_gd (300 + j) := by
  intro j hj
  match j, hj with
  | 0, _ => exact ck_X12_whyNot
  | 1, _ => exact ck_X12_does
  | 2, _ => exact ck_X12_tells
  | 3, _ => exact ck_X12_noTray
  | 4, _ => exact ck_X12_links
  | 5, _ => exact ck_X12_judge
  | 6, _ => exact ck_X12_perform
  | 7, _ => exact ck_X12_draw
  | 8, _ => exact ck_X12_drawn
  | 9, _ => exact ck_X12_day
  | 10, _ => exact ck_X12_demandsRow
  | 11, _ => exact ck_X12_laysDemands
  | 12, _ => exact ck_X12_noDemands
  | 13, _ => exact ck_X12_demands
  | 14, _ => exact ck_X12_demand
  | 15, _ => exact ck_X12_isRing
  | 16, _ => exact ck_X12_laysRing
  | 17, _ => exact ck_X12_ring
  | 18, _ => exact ck_X12_canStand
  | 19, _ => exact ck_X12_laysWays
  | 20, _ => exact ck_X12_ways
  | 21, _ => exact ck_X12_rank
  | 22, _ => exact ck_X12_goesDeep
  | 23, _ => exact ck_X12_placeOld
  | 24, _ => exact ck_X12_laysBroad
  | 25, _ => exact ck_X12_laysOld
  | 26, _ => exact ck_X12_isKind
  | 27, _ => exact ck_X12_old
  | 28, _ => exact ck_X12_breaks
  | 29, _ => exact ck_X12_same
  | j + 30, hj => exact absurd hj (by omega)
theorem gd_r330 : ∀ j, j < 30 → am_gd (330 + j) := by
  intro j hj
  match j, hj with
  | 0, _ => exact ck_X12_keptIn
  | 1, _ => exact ck_X12_between
  | 2, _ => exact ck_X12_reckons
  | 3, _ => exact ck_X12_laysWords
  | 4, _ => exact ck_X12_isSeen
  | 5, _ => exact ck_X12_laysCall
  | 6, _ => exact ck_X12_saysOf
  | 7, _ => exact ck_X12_call
  | 8, _ => exact ck_X12_through
  | 9, _ => exact ck_X12_serves
  | 10, _ => exact ck_X12_deadOnes
  | 11, _ => exact ck_X12_dead
  | 12, _ => exact ck_X12_firstDead
  | 13, _ => exact ck_X12_common
  | 14, _ => exact ck_X12_noWould
  | 15, _ => exact ck_X12_laysWould
  | 16, _ => exact ck_X12_would
  | 17, _ => exact ck_X12_wouldOrder
  | 18, _ => exact ck_X12_trades
  | 19, _ => exact ck_X12_wouldFrom
  | 20, _ => exact ck_X12_wouldWays
  | 21, _ => exact ck_X12_isTaken
  | 22, _ => exact ck_X12_isWhole
  | 23, _ => exact ck_X12_repairsBy
  | 24, _ => exact ck_X12_laysRepairs
  | 25, _ => exact ck_X12_repairs
  | 26, _ => exact ck_X12_repair
  | 27, _ => exact ck_X12_noTold
  | 28, _ => exact ck_X12_moodsOf
  | 29, _ => exact ck_X12_moods
  | j + 30, hj => exact absurd hj (by omega)
theorem gd_r360 : ∀ j, j < 18 → am_gd (360 + j) := by
  intro j hj
  match j, hj with
  | 0, _ => exact ck_X12_mostAlike
  | 1, _ => exact ck_X12_attempt
  | 2, _ => exact ck_X12_goesLots
  | 3, _ => exact ck_X12_wholeOf
  | 4, _ => exact ck_X12_divisor
  | 5, _ => exact ck_X12_part
  | 6, _ => exact ck_X12_chance
  | 7, _ => exact ck_X12_mean
  | 8, _ => exact ck_X12_cut
  | 9, _ => exact ck_X12_numbers
  | 10, _ => exact ck_X12_write
  | 11, _ => exact ck_X12_lists
  | 12, _ => exact ck_X12_image
  | 13, _ => exact ck_X12_restore
  | 14, _ => exact ck_X12_definitions
  | 15, _ => exact ck_X12_count
  | 16, _ => exact ck_J9_max_7cf53
  | 17, _ => exact ck_J9_min_7cf53
  | j + 18, hj => exact absurd hj (by omega)
set_option maxRecDepth 100000 in
theorem gd_all : ∀ j, j < 378 → am_gd j := by
  intro j hn
  rcases Nat.lt_or_ge j 30 with h | h
  · have z := gd_r0 (j - 0) (by omega)
    rwa [show 0 + (j - 0) = j by omega] at z
  rcases Nat.lt_or_ge j 60 with h | h
  · have z := gd_r30 (j - 30) (by omega)
    rwa [show 30 + (j - 30) = j by omega] at z
  rcases Nat.lt_or_ge j 90 with h | h
  · have z := gd_r60 (j - 60) (by omega)
    rwa [show 60 + (j - 60) = j by omega] at z
  rcases Nat.lt_or_ge j 120 with h | h
  · have z := gd_r90 (j - 90) (by omega)
    rwa [show 90 + (j - 90) = j by omega] at z
  rcases Nat.lt_or_ge j 150 with h | h
  · have z := gd_r120 (j - 120) (by omega)
    rwa [show 120 + (j - 120) = j by omega] at z
  rcases Nat.lt_or_ge j 180 with h | h
  · have z := gd_r150 (j - 150) (by omega)
    rwa [show 150 + (j - 150) = j by omega] at z
  rcases Nat.lt_or_ge j 210 with h | h
  · have z := gd_r180 (j - 180) (by omega)
    rwa [show 180 + (j - 180) = j by omega] at z
  rcases Nat.lt_or_ge j 240 with h | h
  · have z := gd_r210 (j - 210) (by omega)
    rwa [show 210 + (j - 210) = j by omega] at z
  rcases Nat.lt_or_ge j 270 with h | h
  · have z := gd_r240 (j - 240) (by omega)
    rwa [show 240 + (j - 240) = j by omega] at z
  rcases Nat.lt_or_ge j 300 with h | h
  · have z := gd_r270 (j - 270) (by omega)
    rwa [show 270 + (j - 270) = j by omega] at z
  rcases Nat.lt_or_ge j 330 with h | h
  · have z := gd_r300 (j - 300) (by omega)
    rwa [show 300 + (j - 300) = j by omega] at z
  rcases Nat.lt_or_ge j 360 with h | h
  · have z := gd_r330 (j - 330) (by omega)
    rwa [show 330 + (j - 330) = j by omega] at z
  rcases Nat.lt_or_ge j 378 with h | h
  · have z := gd_r360 (j - 360) (by omega)
    rwa [show 360 + (j - 360) = j by omega] at z
  omega
set_option maxRecDepth 100000 in
theorem am_gds : ∀ k pc e, (am_p k).1[pc]? = some (some e) → am_ok k pc e := by
  intro k
  rcases Nat.lt_or_ge k 378 with h | h
  · exact gd_all k h
  · intro pc e hpc
    have hz : (am_p k).1 = [] := by
      unfold am_p
      rw [List.getD_eq_getElem?_getD, List.getElem?_eq_none (show am_prog.length ≤ k from h)]
      rfl
    rw [hz] at hpc
    simp at hpc
