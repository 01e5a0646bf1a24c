/-! ===== the law up to its loop: heaps, the run ===== -/
noncomputable def iZ_0 (L : Nat) (xs : Nat → Int32) : am_H := h_0 L xs
theorem iv_0 {L : Nat} {xs : Nat → Int32} : iv (iZ_0 L xs) 0 := ⟨rfl, fun o ho => absurd ho (Nat.not_lt_zero _)⟩
noncomputable def iZ_1 (L : Nat) (xs : Nat → Int32) : am_H := i_fo [(0, 11, 19, 0)] (iZ_0 L xs)
theorem iv_1 {L : Nat} {xs : Nat → Int32} : iv (iZ_1 L xs) 1 := iv_fo _ rfl iv_0
noncomputable def iZ_2 (L : Nat) (xs : Nat → Int32) : am_H := i_fo [(0, 21, 900, 0), (1, 0, 0, 1), (2, 0, 3, 0), (0, 8, 17, 0)] (iZ_1 L xs)
theorem iv_2 {L : Nat} {xs : Nat → Int32} : iv (iZ_2 L xs) 3 := iv_fo _ rfl iv_1
noncomputable def iZ_3 (L : Nat) (xs : Nat → Int32) : am_H := i_fo [(0, 20, 901, 0), (1, 2, 2, 3), (0, 20, 901, 0), (1, 2, 3, 4), (0, 1, 5, 0)] (iZ_2 L xs)
theorem iv_3 {L : Nat} {xs : Nat → Int32} : iv (iZ_3 L xs) 6 := iv_fo _ rfl iv_2
noncomputable def iZ_4 (L : Nat) (xs : Nat → Int32) : am_H := i_fo [(0, 20, 10, 0), (1, 5, 2, 6), (0, 20, 40, 0), (1, 5, 3, 7), (0, 20, 80, 0), (1, 5, 4, 8)] (iZ_3 L xs)
theorem iv_4 {L : Nat} {xs : Nat → Int32} : iv (iZ_4 L xs) 9 := iv_fo _ rfl iv_3
noncomputable def iZ_5 (L : Nat) (xs : Nat → Int32) : am_H := i_fo [(1, 2, 9, 5), (0, 20, 900, 0), (1, 2, 13, 9)] (iZ_4 L xs)
theorem iv_5 {L : Nat} {xs : Nat → Int32} : iv (iZ_5 L xs) 10 := iv_fo _ rfl iv_4
noncomputable def iZ_6 (L : Nat) (xs : Nat → Int32) : am_H := i_fo [(1, 0, 4, 2), (0, 2, 4, 0)] (iZ_5 L xs)
theorem iv_6 {L : Nat} {xs : Nat → Int32} : iv (iZ_6 L xs) 11 := iv_fo _ rfl iv_5
noncomputable def iZ_7 (L : Nat) (xs : Nat → Int32) : am_H := i_fo [(0, 1, 5, 0)] (iZ_6 L xs)
theorem iv_7 {L : Nat} {xs : Nat → Int32} : iv (iZ_7 L xs) 12 := iv_fo _ rfl iv_6
noncomputable def iZ_8 (L : Nat) (xs : Nat → Int32) : am_H := i_fo [(0, 20, 10, 0), (1, 11, 2, 12), (0, 20, 40, 0), (1, 11, 3, 13), (0, 20, 80, 0), (1, 11, 4, 14)] (iZ_7 L xs)
theorem iv_8 {L : Nat} {xs : Nat → Int32} : iv (iZ_8 L xs) 15 := iv_fo _ rfl iv_7
noncomputable def iZ_9 (L : Nat) (xs : Nat → Int32) : am_H := i_fo [(1, 10, 0, 11)] (iZ_8 L xs)
theorem iv_9 {L : Nat} {xs : Nat → Int32} : iv (iZ_9 L xs) 15 := iv_fo _ rfl iv_8
noncomputable def iZ_10 (L : Nat) (xs : Nat → Int32) : am_H := i_fo [(1, 0, 5, 10), (0, 6, 9, 0)] (iZ_9 L xs)
theorem iv_10 {L : Nat} {xs : Nat → Int32} : iv (iZ_10 L xs) 16 := iv_fo _ rfl iv_9
noncomputable def iZ_11 (L : Nat) (xs : Nat → Int32) : am_H := i_fo [(0, 20, 11, 0), (1, 15, 0, 16), (0, 20, 11, 0), (1, 15, 1, 17), (0, 20, 121, 0), (1, 15, 2, 18)] (iZ_10 L xs)
theorem iv_11 {L : Nat} {xs : Nat → Int32} : iv (iZ_11 L xs) 19 := iv_fo _ rfl iv_10
noncomputable def iZ_12 (L : Nat) (xs : Nat → Int32) : am_H := i_fo [(0, 20, 4, 0), (1, 15, 3, 19), (0, 20, 55, 0), (1, 15, 4, 20), (0, 20, 5, 0), (1, 15, 5, 21)] (iZ_11 L xs)
theorem iv_12 {L : Nat} {xs : Nat → Int32} : iv (iZ_12 L xs) 22 := iv_fo _ rfl iv_11
noncomputable def iZ_13 (L : Nat) (xs : Nat → Int32) : am_H := i_fo [(0, 20, 5, 0), (1, 15, 6, 22), (0, 20, 5, 0), (1, 15, 7, 23), (0, 20, 5, 0), (1, 15, 8, 24)] (iZ_12 L xs)
theorem iv_13 {L : Nat} {xs : Nat → Int32} : iv (iZ_13 L xs) 25 := iv_fo _ rfl iv_12
noncomputable def iZ_14 (L : Nat) (xs : Nat → Int32) : am_H := i_fo [(1, 0, 6, 15), (0, 7, 3, 0)] (iZ_13 L xs)
theorem iv_14 {L : Nat} {xs : Nat → Int32} : iv (iZ_14 L xs) 26 := iv_fo _ rfl iv_13
noncomputable def iZ_15 (L : Nat) (xs : Nat → Int32) : am_H := i_fo [(0, 31, 10, 0), (1, 25, 0, 26)] (iZ_14 L xs)
theorem iv_15 {L : Nat} {xs : Nat → Int32} : iv (iZ_15 L xs) 27 := iv_fo _ rfl iv_14
noncomputable def iZ_16 (L : Nat) (xs : Nat → Int32) : am_H := i_fo [(1, 0, 7, 25), (0, 1, 5, 0)] (iZ_15 L xs)
theorem iv_16 {L : Nat} {xs : Nat → Int32} : iv (iZ_16 L xs) 28 := iv_fo _ rfl iv_15
noncomputable def iZ_17 (L : Nat) (xs : Nat → Int32) : am_H := i_fo [(0, 20, 10, 0), (1, 27, 2, 28), (0, 20, 40, 0), (1, 27, 3, 29), (0, 20, 80, 0), (1, 27, 4, 30)] (iZ_16 L xs)
theorem iv_17 {L : Nat} {xs : Nat → Int32} : iv (iZ_17 L xs) 31 := iv_fo _ rfl iv_16
noncomputable def iZ_18 (L : Nat) (xs : Nat → Int32) : am_H := i_fo [(1, 0, 8, 27), (0, 6, 9, 0)] (iZ_17 L xs)
theorem iv_18 {L : Nat} {xs : Nat → Int32} : iv (iZ_18 L xs) 32 := iv_fo _ rfl iv_17
noncomputable def iZ_19 (L : Nat) (xs : Nat → Int32) : am_H := i_fo [(0, 20, 11, 0), (1, 31, 0, 32), (0, 20, 11, 0), (1, 31, 1, 33), (0, 20, 121, 0), (1, 31, 2, 34)] (iZ_18 L xs)
theorem iv_19 {L : Nat} {xs : Nat → Int32} : iv (iZ_19 L xs) 35 := iv_fo _ rfl iv_18
noncomputable def iZ_20 (L : Nat) (xs : Nat → Int32) : am_H := i_fo [(0, 20, 4, 0), (1, 31, 3, 35), (0, 20, 55, 0), (1, 31, 4, 36), (0, 20, 5, 0), (1, 31, 5, 37)] (iZ_19 L xs)
theorem iv_20 {L : Nat} {xs : Nat → Int32} : iv (iZ_20 L xs) 38 := iv_fo _ rfl iv_19
noncomputable def iZ_21 (L : Nat) (xs : Nat → Int32) : am_H := i_fo [(0, 20, 5, 0), (1, 31, 6, 38), (0, 20, 5, 0), (1, 31, 7, 39), (0, 20, 5, 0), (1, 31, 8, 40)] (iZ_20 L xs)
theorem iv_21 {L : Nat} {xs : Nat → Int32} : iv (iZ_21 L xs) 41 := iv_fo _ rfl iv_20
noncomputable def iZ_22 (L : Nat) (xs : Nat → Int32) : am_H := i_fo [(1, 0, 9, 31), (0, 0, 9, 0)] (iZ_21 L xs)
theorem iv_22 {L : Nat} {xs : Nat → Int32} : iv (iZ_22 L xs) 42 := iv_fo _ rfl iv_21
noncomputable def iZ_23 (L : Nat) (xs : Nat → Int32) : am_H := i_fo [(0, 20, 10, 0), (1, 41, 3, 42), (0, 20, 10, 0), (1, 41, 4, 43), (0, 20, 100, 0), (1, 41, 5, 44)] (iZ_22 L xs)
theorem iv_23 {L : Nat} {xs : Nat → Int32} : iv (iZ_23 L xs) 45 := iv_fo _ rfl iv_22
noncomputable def iZ_24 (L : Nat) (xs : Nat → Int32) : am_H := i_fo [(0, 20, 10, 0), (1, 41, 6, 45), (0, 20, 1024, 0), (1, 41, 8, 46), (1, 41, 0, 11)] (iZ_23 L xs)
theorem iv_24 {L : Nat} {xs : Nat → Int32} : iv (iZ_24 L xs) 47 := iv_fo _ rfl iv_23
noncomputable def iZ_25 (L : Nat) (xs : Nat → Int32) : am_H := i_fo [(1, 41, 1, 15)] (iZ_24 L xs)
theorem iv_25 {L : Nat} {xs : Nat → Int32} : iv (iZ_25 L xs) 47 := iv_fo _ rfl iv_24
noncomputable def iZ_26 (L : Nat) (xs : Nat → Int32) : am_H := i_fo [(1, 0, 10, 41), (0, 5, 3, 0)] (iZ_25 L xs)
theorem iv_26 {L : Nat} {xs : Nat → Int32} : iv (iZ_26 L xs) 48 := iv_fo _ rfl iv_25
noncomputable def iZ_27 (L : Nat) (xs : Nat → Int32) : am_H := i_fo [(0, 20, 10, 0), (1, 47, 0, 48), (0, 20, 100, 0), (1, 47, 1, 49), (0, 20, 10, 0), (1, 47, 2, 50)] (iZ_26 L xs)
theorem iv_27 {L : Nat} {xs : Nat → Int32} : iv (iZ_27 L xs) 51 := iv_fo _ rfl iv_26
noncomputable def iZ_28 (L : Nat) (xs : Nat → Int32) : am_H := i_fo [(1, 0, 11, 47), (0, 10, 14, 0)] (iZ_27 L xs)
theorem iv_28 {L : Nat} {xs : Nat → Int32} : iv (iZ_28 L xs) 52 := iv_fo _ rfl iv_27
noncomputable def iZ_29 (L : Nat) (xs : Nat → Int32) : am_H := i_fo [(0, 20, 10, 0), (1, 51, 2, 52), (0, 20, 8, 0), (1, 51, 4, 53), (0, 20, 10, 0), (1, 51, 5, 54)] (iZ_28 L xs)
theorem iv_29 {L : Nat} {xs : Nat → Int32} : iv (iZ_29 L xs) 55 := iv_fo _ rfl iv_28
noncomputable def iZ_30 (L : Nat) (xs : Nat → Int32) : am_H := i_fo [(0, 20, 100, 0), (1, 51, 6, 55), (1, 51, 0, 10), (1, 51, 1, 15)] (iZ_29 L xs)
theorem iv_30 {L : Nat} {xs : Nat → Int32} : iv (iZ_30 L xs) 56 := iv_fo _ rfl iv_29
noncomputable def iZ_31 (L : Nat) (xs : Nat → Int32) : am_H := i_fo [(1, 0, 12, 51), (0, 4, 5, 0)] (iZ_30 L xs)
theorem iv_31 {L : Nat} {xs : Nat → Int32} : iv (iZ_31 L xs) 57 := iv_fo _ rfl iv_30
noncomputable def iZ_32 (L : Nat) (xs : Nat → Int32) : am_H := i_fo [(0, 6, 9, 0)] (iZ_31 L xs)
theorem iv_32 {L : Nat} {xs : Nat → Int32} : iv (iZ_32 L xs) 58 := iv_fo _ rfl iv_31
noncomputable def iZ_33 (L : Nat) (xs : Nat → Int32) : am_H := i_fo [(0, 20, 11, 0), (1, 57, 0, 58), (0, 20, 11, 0), (1, 57, 1, 59), (0, 20, 121, 0), (1, 57, 2, 60)] (iZ_32 L xs)
theorem iv_33 {L : Nat} {xs : Nat → Int32} : iv (iZ_33 L xs) 61 := iv_fo _ rfl iv_32
noncomputable def iZ_34 (L : Nat) (xs : Nat → Int32) : am_H := i_fo [(0, 20, 4, 0), (1, 57, 3, 61), (0, 20, 55, 0), (1, 57, 4, 62), (0, 20, 5, 0), (1, 57, 5, 63)] (iZ_33 L xs)
theorem iv_34 {L : Nat} {xs : Nat → Int32} : iv (iZ_34 L xs) 64 := iv_fo _ rfl iv_33
noncomputable def iZ_35 (L : Nat) (xs : Nat → Int32) : am_H := i_fo [(0, 20, 5, 0), (1, 57, 6, 64), (0, 20, 5, 0), (1, 57, 7, 65), (0, 20, 5, 0), (1, 57, 8, 66)] (iZ_34 L xs)
theorem iv_35 {L : Nat} {xs : Nat → Int32} : iv (iZ_35 L xs) 67 := iv_fo _ rfl iv_34
noncomputable def iZ_36 (L : Nat) (xs : Nat → Int32) : am_H := i_fo [(1, 56, 0, 57), (0, 20, 10, 0), (1, 56, 1, 67), (0, 20, 3, 0), (1, 56, 2, 68)] (iZ_35 L xs)
theorem iv_36 {L : Nat} {xs : Nat → Int32} : iv (iZ_36 L xs) 69 := iv_fo _ rfl iv_35
noncomputable def iZ_37 (L : Nat) (xs : Nat → Int32) : am_H := i_fo [(1, 0, 13, 56), (0, 3, 6, 0)] (iZ_36 L xs)
theorem iv_37 {L : Nat} {xs : Nat → Int32} : iv (iZ_37 L xs) 70 := iv_fo _ rfl iv_36
noncomputable def iZ_38 (L : Nat) (xs : Nat → Int32) : am_H := i_fo [(0, 6, 9, 0)] (iZ_37 L xs)
theorem iv_38 {L : Nat} {xs : Nat → Int32} : iv (iZ_38 L xs) 71 := iv_fo _ rfl iv_37
noncomputable def iZ_39 (L : Nat) (xs : Nat → Int32) : am_H := i_fo [(0, 20, 11, 0), (1, 70, 0, 71), (0, 20, 11, 0), (1, 70, 1, 72), (0, 20, 121, 0), (1, 70, 2, 73)] (iZ_38 L xs)
theorem iv_39 {L : Nat} {xs : Nat → Int32} : iv (iZ_39 L xs) 74 := iv_fo _ rfl iv_38
noncomputable def iZ_40 (L : Nat) (xs : Nat → Int32) : am_H := i_fo [(0, 20, 4, 0), (1, 70, 3, 74), (0, 20, 55, 0), (1, 70, 4, 75), (0, 20, 5, 0), (1, 70, 5, 76)] (iZ_39 L xs)
theorem iv_40 {L : Nat} {xs : Nat → Int32} : iv (iZ_40 L xs) 77 := iv_fo _ rfl iv_39
noncomputable def iZ_41 (L : Nat) (xs : Nat → Int32) : am_H := i_fo [(0, 20, 5, 0), (1, 70, 6, 77), (0, 20, 5, 0), (1, 70, 7, 78), (0, 20, 5, 0), (1, 70, 8, 79)] (iZ_40 L xs)
theorem iv_41 {L : Nat} {xs : Nat → Int32} : iv (iZ_41 L xs) 80 := iv_fo _ rfl iv_40
noncomputable def iZ_42 (L : Nat) (xs : Nat → Int32) : am_H := i_fo [(1, 69, 0, 70), (0, 20, 1024, 0), (1, 69, 1, 80), (2, 69, 5, 0)] (iZ_41 L xs)
theorem iv_42 {L : Nat} {xs : Nat → Int32} : iv (iZ_42 L xs) 81 := iv_fo _ rfl iv_41
noncomputable def iZ_43 (L : Nat) (xs : Nat → Int32) : am_H := i_fo [(1, 0, 14, 69), (0, 20, 4, 0), (1, 0, 15, 81), (0, 20, 4, 0), (1, 0, 16, 82)] (iZ_42 L xs)
theorem iv_43 {L : Nat} {xs : Nat → Int32} : iv (iZ_43 L xs) 83 := iv_fo _ rfl iv_42
noncomputable def iZ_44 (L : Nat) (xs : Nat → Int32) : am_H := i_fo [(0, 39, 4, 0), (1, 0, 17, 83), (0, 32, 2, 0), (1, 0, 18, 84)] (iZ_43 L xs)
theorem iv_44 {L : Nat} {xs : Nat → Int32} : iv (iZ_44 L xs) 85 := iv_fo _ rfl iv_43
noncomputable def iZ_45 (L : Nat) (xs : Nat → Int32) : am_H := i_fo [(0, 9, 3, 0)] (iZ_44 L xs)
theorem iv_45 {L : Nat} {xs : Nat → Int32} : iv (iZ_45 L xs) 86 := iv_fo _ rfl iv_44
noncomputable def iZ_46 (L : Nat) (xs : Nat → Int32) : am_H := i_fo [(2, 85, 0, 0), (0, 23, 40, 0), (1, 85, 2, 86)] (iZ_45 L xs)
theorem iv_46 {L : Nat} {xs : Nat → Int32} : iv (iZ_46 L xs) 87 := iv_fo _ rfl iv_45
noncomputable def iZ_47 (L : Nat) (xs : Nat → Int32) : am_H := i_fo [(1, 83, 0, 85)] (iZ_46 L xs)
theorem iv_47 {L : Nat} {xs : Nat → Int32} : iv (iZ_47 L xs) 87 := iv_fo _ rfl iv_46
noncomputable def iZ_48 (L : Nat) (xs : Nat → Int32) : am_H := i_fo [(0, 9, 3, 0)] (iZ_47 L xs)
theorem iv_48 {L : Nat} {xs : Nat → Int32} : iv (iZ_48 L xs) 88 := iv_fo _ rfl iv_47
noncomputable def iZ_49 (L : Nat) (xs : Nat → Int32) : am_H := i_fo [(2, 87, 0, 0), (0, 23, 40, 0), (1, 87, 2, 88)] (iZ_48 L xs)
theorem iv_49 {L : Nat} {xs : Nat → Int32} : iv (iZ_49 L xs) 89 := iv_fo _ rfl iv_48
noncomputable def iZ_50 (L : Nat) (xs : Nat → Int32) : am_H := i_fo [(1, 83, 1, 87)] (iZ_49 L xs)
theorem iv_50 {L : Nat} {xs : Nat → Int32} : iv (iZ_50 L xs) 89 := iv_fo _ rfl iv_49
noncomputable def iZ_51 (L : Nat) (xs : Nat → Int32) : am_H := i_fo [(0, 9, 3, 0)] (iZ_50 L xs)
theorem iv_51 {L : Nat} {xs : Nat → Int32} : iv (iZ_51 L xs) 90 := iv_fo _ rfl iv_50
noncomputable def iZ_52 (L : Nat) (xs : Nat → Int32) : am_H := i_fo [(2, 89, 0, 0), (0, 23, 40, 0), (1, 89, 2, 90)] (iZ_51 L xs)
theorem iv_52 {L : Nat} {xs : Nat → Int32} : iv (iZ_52 L xs) 91 := iv_fo _ rfl iv_51
noncomputable def iZ_53 (L : Nat) (xs : Nat → Int32) : am_H := i_fo [(1, 83, 2, 89)] (iZ_52 L xs)
theorem iv_53 {L : Nat} {xs : Nat → Int32} : iv (iZ_53 L xs) 91 := iv_fo _ rfl iv_52
noncomputable def iZ_54 (L : Nat) (xs : Nat → Int32) : am_H := i_fo [(0, 9, 3, 0)] (iZ_53 L xs)
theorem iv_54 {L : Nat} {xs : Nat → Int32} : iv (iZ_54 L xs) 92 := iv_fo _ rfl iv_53
noncomputable def iZ_55 (L : Nat) (xs : Nat → Int32) : am_H := i_fo [(2, 91, 0, 0), (0, 23, 40, 0), (1, 91, 2, 92)] (iZ_54 L xs)
theorem iv_55 {L : Nat} {xs : Nat → Int32} : iv (iZ_55 L xs) 93 := iv_fo _ rfl iv_54
noncomputable def iZ_56 (L : Nat) (xs : Nat → Int32) : am_H := i_fo [(1, 83, 3, 91)] (iZ_55 L xs)
theorem iv_56 {L : Nat} {xs : Nat → Int32} : iv (iZ_56 L xs) 93 := iv_fo _ rfl iv_55
noncomputable def iZ_57 (L : Nat) (xs : Nat → Int32) : am_H := i_fo [(0, 12, 44, 0)] (iZ_56 L xs)
theorem iv_57 {L : Nat} {xs : Nat → Int32} : iv (iZ_57 L xs) 94 := iv_fo _ rfl iv_56
noncomputable def iZ_58 (L : Nat) (xs : Nat → Int32) : am_H := i_fo [(0, 20, 7053, 0), (1, 93, 1, 94), (0, 22, 2, 0), (1, 93, 2, 95), (0, 20, 900, 0), (1, 93, 3, 96)] (iZ_57 L xs)
theorem iv_58 {L : Nat} {xs : Nat → Int32} : iv (iZ_58 L xs) 97 := iv_fo _ rfl iv_57
noncomputable def iZ_59 (L : Nat) (xs : Nat → Int32) : am_H := i_fo [(0, 20, 2351, 0), (1, 93, 4, 97), (2, 93, 14, 0), (0, 20, 11, 0), (1, 93, 16, 98)] (iZ_58 L xs)
theorem iv_59 {L : Nat} {xs : Nat → Int32} : iv (iZ_59 L xs) 99 := iv_fo _ rfl iv_58
noncomputable def iZ_60 (L : Nat) (xs : Nat → Int32) : am_H := i_fo [(0, 20, 121, 0), (1, 93, 17, 99), (0, 20, 11, 0), (1, 93, 18, 100), (0, 20, 5, 0), (1, 93, 19, 101)] (iZ_59 L xs)
theorem iv_60 {L : Nat} {xs : Nat → Int32} : iv (iZ_60 L xs) 102 := iv_fo _ rfl iv_59
noncomputable def iZ_61 (L : Nat) (xs : Nat → Int32) : am_H := i_fo [(0, 20, 5, 0), (1, 93, 20, 102), (0, 20, 55, 0), (1, 93, 21, 103), (0, 20, 4, 0), (1, 93, 22, 104)] (iZ_60 L xs)
theorem iv_61 {L : Nat} {xs : Nat → Int32} : iv (iZ_61 L xs) 105 := iv_fo _ rfl iv_60
noncomputable def iZ_62 (L : Nat) (xs : Nat → Int32) : am_H := i_fo [(0, 20, 131, 0), (1, 93, 24, 105), (0, 20, 10, 0), (1, 93, 27, 106), (0, 20, 10, 0), (1, 93, 28, 107)] (iZ_61 L xs)
theorem iv_62 {L : Nat} {xs : Nat → Int32} : iv (iZ_62 L xs) 108 := iv_fo _ rfl iv_61
noncomputable def iZ_63 (L : Nat) (xs : Nat → Int32) : am_H := i_fo [(0, 20, 1024, 0), (1, 93, 29, 108), (0, 20, 4096, 0), (1, 93, 30, 109), (0, 20, 900, 0), (1, 93, 32, 110)] (iZ_62 L xs)
theorem iv_63 {L : Nat} {xs : Nat → Int32} : iv (iZ_63 L xs) 111 := iv_fo _ rfl iv_62
noncomputable def iZ_64 (L : Nat) (xs : Nat → Int32) : am_H := i_fo [(0, 20, 6, 0), (1, 93, 33, 111), (0, 20, 11, 0), (1, 93, 34, 112), (0, 20, 3, 0), (1, 93, 36, 113)] (iZ_63 L xs)
theorem iv_64 {L : Nat} {xs : Nat → Int32} : iv (iZ_64 L xs) 114 := iv_fo _ rfl iv_63
noncomputable def iZ_65 (L : Nat) (xs : Nat → Int32) : am_H := i_fo [(0, 20, 10, 0), (1, 93, 38, 114), (0, 20, 4, 0), (2, 115, 0, 0), (2, 115, 1, 0), (2, 115, 2, 0), (2, 115, 3, 0), (1, 93, 41, 115)] (iZ_64 L xs)
theorem iv_65 {L : Nat} {xs : Nat → Int32} : iv (iZ_65 L xs) 116 := iv_fo _ rfl iv_64
noncomputable def iZ_66 (L : Nat) (xs : Nat → Int32) : am_H := i_fo [(0, 20, 4, 0), (1, 93, 42, 116), (0, 23, 160, 0), (1, 93, 43, 117)] (iZ_65 L xs)
theorem iv_66 {L : Nat} {xs : Nat → Int32} : iv (iZ_66 L xs) 118 := iv_fo _ rfl iv_65
def wx (h : am_H) (x : Nat × (Nat → Int32)) : am_H := (h.1, h.2.1, h.2.2.1, h.2.2.2.1, h.2.2.2.2.1, x)
theorem i1_x (q : Nat × Nat × Nat × Nat) (h : am_H) (x : Nat × (Nat → Int32)) : i1 q (wx h x) = wx (i1 q h) x := by
  obtain ⟨t, a, b, c⟩ := q
  match t with
  | 0 => rfl
  | 1 => rfl
  | t + 2 => rfl
theorem fo_x : ∀ (l : List (Nat × Nat × Nat × Nat)) (h : am_H) (x : Nat × (Nat → Int32)), i_fo l (wx h x) = wx (i_fo l h) x := by
  intro l
  induction l with
  | nil => intro h x; rfl
  | cons q r ih =>
    intro h x
    show i_fo r (i1 q (wx h x)) = wx (i_fo r (i1 q h)) x
    rw [i1_x, ih]
theorem ix_0 {L : Nat} {xs : Nat → Int32} : iZ_0 L xs = wx (iZ_0 0 (fun _ => 0)) (L, xs) := rfl
theorem ix_1 {L : Nat} {xs : Nat → Int32} : iZ_1 L xs = wx (iZ_1 0 (fun _ => 0)) (L, xs) := by
  unfold iZ_1
  rw [ix_0, fo_x]
theorem ix_2 {L : Nat} {xs : Nat → Int32} : iZ_2 L xs = wx (iZ_2 0 (fun _ => 0)) (L, xs) := by
  unfold iZ_2
  rw [ix_1, fo_x]
theorem ix_3 {L : Nat} {xs : Nat → Int32} : iZ_3 L xs = wx (iZ_3 0 (fun _ => 0)) (L, xs) := by
  unfold iZ_3
  rw [ix_2, fo_x]
theorem ix_4 {L : Nat} {xs : Nat → Int32} : iZ_4 L xs = wx (iZ_4 0 (fun _ => 0)) (L, xs) := by
  unfold iZ_4
  rw [ix_3, fo_x]
theorem ix_5 {L : Nat} {xs : Nat → Int32} : iZ_5 L xs = wx (iZ_5 0 (fun _ => 0)) (L, xs) := by
  unfold iZ_5
  rw [ix_4, fo_x]
theorem ix_6 {L : Nat} {xs : Nat → Int32} : iZ_6 L xs = wx (iZ_6 0 (fun _ => 0)) (L, xs) := by
  unfold iZ_6
  rw [ix_5, fo_x]
theorem ix_7 {L : Nat} {xs : Nat → Int32} : iZ_7 L xs = wx (iZ_7 0 (fun _ => 0)) (L, xs) := by
  unfold iZ_7
  rw [ix_6, fo_x]
theorem ix_8 {L : Nat} {xs : Nat → Int32} : iZ_8 L xs = wx (iZ_8 0 (fun _ => 0)) (L, xs) := by
  unfold iZ_8
  rw [ix_7, fo_x]
theorem ix_9 {L : Nat} {xs : Nat → Int32} : iZ_9 L xs = wx (iZ_9 0 (fun _ => 0)) (L, xs) := by
  unfold iZ_9
  rw [ix_8, fo_x]
theorem ix_10 {L : Nat} {xs : Nat → Int32} : iZ_10 L xs = wx (iZ_10 0 (fun _ => 0)) (L, xs) := by
  unfold iZ_10
  rw [ix_9, fo_x]
theorem ix_11 {L : Nat} {xs : Nat → Int32} : iZ_11 L xs = wx (iZ_11 0 (fun _ => 0)) (L, xs) := by
  unfold iZ_11
  rw [ix_10, fo_x]
theorem ix_12 {L : Nat} {xs : Nat → Int32} : iZ_12 L xs = wx (iZ_12 0 (fun _ => 0)) (L, xs) := by
  unfold iZ_12
  rw [ix_11, fo_x]
theorem ix_13 {L : Nat} {xs : Nat → Int32} : iZ_13 L xs = wx (iZ_13 0 (fun _ => 0)) (L, xs) := by
  unfold iZ_13
  rw [ix_12, fo_x]
theorem ix_14 {L : Nat} {xs : Nat → Int32} : iZ_14 L xs = wx (iZ_14 0 (fun _ => 0)) (L, xs) := by
  unfold iZ_14
  rw [ix_13, fo_x]
theorem ix_15 {L : Nat} {xs : Nat → Int32} : iZ_15 L xs = wx (iZ_15 0 (fun _ => 0)) (L, xs) := by
  unfold iZ_15
  rw [ix_14, fo_x]
theorem ix_16 {L : Nat} {xs : Nat → Int32} : iZ_16 L xs = wx (iZ_16 0 (fun _ => 0)) (L, xs) := by
  unfold iZ_16
  rw [ix_15, fo_x]
theorem ix_17 {L : Nat} {xs : Nat → Int32} : iZ_17 L xs = wx (iZ_17 0 (fun _ => 0)) (L, xs) := by
  unfold iZ_17
  rw [ix_16, fo_x]
theorem ix_18 {L : Nat} {xs : Nat → Int32} : iZ_18 L xs = wx (iZ_18 0 (fun _ => 0)) (L, xs) := by
  unfold iZ_18
  rw [ix_17, fo_x]
theorem ix_19 {L : Nat} {xs : Nat → Int32} : iZ_19 L xs = wx (iZ_19 0 (fun _ => 0)) (L, xs) := by
  unfold iZ_19
  rw [ix_18, fo_x]
theorem ix_20 {L : Nat} {xs : Nat → Int32} : iZ_20 L xs = wx (iZ_20 0 (fun _ => 0)) (L, xs) := by
  unfold iZ_20
  rw [ix_19, fo_x]
theorem ix_21 {L : Nat} {xs : Nat → Int32} : iZ_21 L xs = wx (iZ_21 0 (fun _ => 0)) (L, xs) := by
  unfold iZ_21
  rw [ix_20, fo_x]
theorem ix_22 {L : Nat} {xs : Nat → Int32} : iZ_22 L xs = wx (iZ_22 0 (fun _ => 0)) (L, xs) := by
  unfold iZ_22
  rw [ix_21, fo_x]
theorem ix_23 {L : Nat} {xs : Nat → Int32} : iZ_23 L xs = wx (iZ_23 0 (fun _ => 0)) (L, xs) := by
  unfold iZ_23
  rw [ix_22, fo_x]
theorem ix_24 {L : Nat} {xs : Nat → Int32} : iZ_24 L xs = wx (iZ_24 0 (fun _ => 0)) (L, xs) := by
  unfold iZ_24
  rw [ix_23, fo_x]
theorem ix_25 {L : Nat} {xs : Nat → Int32} : iZ_25 L xs = wx (iZ_25 0 (fun _ => 0)) (L, xs) := by
  unfold iZ_25
  rw [ix_24, fo_x]
theorem ix_26 {L : Nat} {xs : Nat → Int32} : iZ_26 L xs = wx (iZ_26 0 (fun _ => 0)) (L, xs) := by
  unfold iZ_26
  rw [ix_25, fo_x]
theorem ix_27 {L : Nat} {xs : Nat → Int32} : iZ_27 L xs = wx (iZ_27 0 (fun _ => 0)) (L, xs) := by
  unfold iZ_27
  rw [ix_26, fo_x]
theorem ix_28 {L : Nat} {xs : Nat → Int32} : iZ_28 L xs = wx (iZ_28 0 (fun _ => 0)) (L, xs) := by
  unfold iZ_28
  rw [ix_27, fo_x]
theorem ix_29 {L : Nat} {xs : Nat → Int32} : iZ_29 L xs = wx (iZ_29 0 (fun _ => 0)) (L, xs) := by
  unfold iZ_29
  rw [ix_28, fo_x]
theorem ix_30 {L : Nat} {xs : Nat → Int32} : iZ_30 L xs = wx (iZ_30 0 (fun _ => 0)) (L, xs) := by
  unfold iZ_30
  rw [ix_29, fo_x]
theorem ix_31 {L : Nat} {xs : Nat → Int32} : iZ_31 L xs = wx (iZ_31 0 (fun _ => 0)) (L, xs) := by
  unfold iZ_31
  rw [ix_30, fo_x]
theorem ix_32 {L : Nat} {xs : Nat → Int32} : iZ_32 L xs = wx (iZ_32 0 (fun _ => 0)) (L, xs) := by
  unfold iZ_32
  rw [ix_31, fo_x]
theorem ix_33 {L : Nat} {xs : Nat → Int32} : iZ_33 L xs = wx (iZ_33 0 (fun _ => 0)) (L, xs) := by
  unfold iZ_33
  rw [ix_32, fo_x]
theorem ix_34 {L : Nat} {xs : Nat → Int32} : iZ_34 L xs = wx (iZ_34 0 (fun _ => 0)) (L, xs) := by
  unfold iZ_34
  rw [ix_33, fo_x]
theorem ix_35 {L : Nat} {xs : Nat → Int32} : iZ_35 L xs = wx (iZ_35 0 (fun _ => 0)) (L, xs) := by
  unfold iZ_35
  rw [ix_34, fo_x]
theorem ix_36 {L : Nat} {xs : Nat → Int32} : iZ_36 L xs = wx (iZ_36 0 (fun _ => 0)) (L, xs) := by
  unfold iZ_36
  rw [ix_35, fo_x]
theorem ix_37 {L : Nat} {xs : Nat → Int32} : iZ_37 L xs = wx (iZ_37 0 (fun _ => 0)) (L, xs) := by
  unfold iZ_37
  rw [ix_36, fo_x]
theorem ix_38 {L : Nat} {xs : Nat → Int32} : iZ_38 L xs = wx (iZ_38 0 (fun _ => 0)) (L, xs) := by
  unfold iZ_38
  rw [ix_37, fo_x]
theorem ix_39 {L : Nat} {xs : Nat → Int32} : iZ_39 L xs = wx (iZ_39 0 (fun _ => 0)) (L, xs) := by
  unfold iZ_39
  rw [ix_38, fo_x]
theorem ix_40 {L : Nat} {xs : Nat → Int32} : iZ_40 L xs = wx (iZ_40 0 (fun _ => 0)) (L, xs) := by
  unfold iZ_40
  rw [ix_39, fo_x]
theorem ix_41 {L : Nat} {xs : Nat → Int32} : iZ_41 L xs = wx (iZ_41 0 (fun _ => 0)) (L, xs) := by
  unfold iZ_41
  rw [ix_40, fo_x]
theorem ix_42 {L : Nat} {xs : Nat → Int32} : iZ_42 L xs = wx (iZ_42 0 (fun _ => 0)) (L, xs) := by
  unfold iZ_42
  rw [ix_41, fo_x]
theorem ix_43 {L : Nat} {xs : Nat → Int32} : iZ_43 L xs = wx (iZ_43 0 (fun _ => 0)) (L, xs) := by
  unfold iZ_43
  rw [ix_42, fo_x]
theorem ix_44 {L : Nat} {xs : Nat → Int32} : iZ_44 L xs = wx (iZ_44 0 (fun _ => 0)) (L, xs) := by
  unfold iZ_44
  rw [ix_43, fo_x]
theorem ix_45 {L : Nat} {xs : Nat → Int32} : iZ_45 L xs = wx (iZ_45 0 (fun _ => 0)) (L, xs) := by
  unfold iZ_45
  rw [ix_44, fo_x]
theorem ix_46 {L : Nat} {xs : Nat → Int32} : iZ_46 L xs = wx (iZ_46 0 (fun _ => 0)) (L, xs) := by
  unfold iZ_46
  rw [ix_45, fo_x]
theorem ix_47 {L : Nat} {xs : Nat → Int32} : iZ_47 L xs = wx (iZ_47 0 (fun _ => 0)) (L, xs) := by
  unfold iZ_47
  rw [ix_46, fo_x]
theorem ix_48 {L : Nat} {xs : Nat → Int32} : iZ_48 L xs = wx (iZ_48 0 (fun _ => 0)) (L, xs) := by
  unfold iZ_48
  rw [ix_47, fo_x]
theorem ix_49 {L : Nat} {xs : Nat → Int32} : iZ_49 L xs = wx (iZ_49 0 (fun _ => 0)) (L, xs) := by
  unfold iZ_49
  rw [ix_48, fo_x]
theorem ix_50 {L : Nat} {xs : Nat → Int32} : iZ_50 L xs = wx (iZ_50 0 (fun _ => 0)) (L, xs) := by
  unfold iZ_50
  rw [ix_49, fo_x]
theorem ix_51 {L : Nat} {xs : Nat → Int32} : iZ_51 L xs = wx (iZ_51 0 (fun _ => 0)) (L, xs) := by
  unfold iZ_51
  rw [ix_50, fo_x]
theorem ix_52 {L : Nat} {xs : Nat → Int32} : iZ_52 L xs = wx (iZ_52 0 (fun _ => 0)) (L, xs) := by
  unfold iZ_52
  rw [ix_51, fo_x]
theorem ix_53 {L : Nat} {xs : Nat → Int32} : iZ_53 L xs = wx (iZ_53 0 (fun _ => 0)) (L, xs) := by
  unfold iZ_53
  rw [ix_52, fo_x]
theorem ix_54 {L : Nat} {xs : Nat → Int32} : iZ_54 L xs = wx (iZ_54 0 (fun _ => 0)) (L, xs) := by
  unfold iZ_54
  rw [ix_53, fo_x]
theorem ix_55 {L : Nat} {xs : Nat → Int32} : iZ_55 L xs = wx (iZ_55 0 (fun _ => 0)) (L, xs) := by
  unfold iZ_55
  rw [ix_54, fo_x]
theorem ix_56 {L : Nat} {xs : Nat → Int32} : iZ_56 L xs = wx (iZ_56 0 (fun _ => 0)) (L, xs) := by
  unfold iZ_56
  rw [ix_55, fo_x]
theorem ix_57 {L : Nat} {xs : Nat → Int32} : iZ_57 L xs = wx (iZ_57 0 (fun _ => 0)) (L, xs) := by
  unfold iZ_57
  rw [ix_56, fo_x]
theorem ix_58 {L : Nat} {xs : Nat → Int32} : iZ_58 L xs = wx (iZ_58 0 (fun _ => 0)) (L, xs) := by
  unfold iZ_58
  rw [ix_57, fo_x]
theorem ix_59 {L : Nat} {xs : Nat → Int32} : iZ_59 L xs = wx (iZ_59 0 (fun _ => 0)) (L, xs) := by
  unfold iZ_59
  rw [ix_58, fo_x]
theorem ix_60 {L : Nat} {xs : Nat → Int32} : iZ_60 L xs = wx (iZ_60 0 (fun _ => 0)) (L, xs) := by
  unfold iZ_60
  rw [ix_59, fo_x]
theorem ix_61 {L : Nat} {xs : Nat → Int32} : iZ_61 L xs = wx (iZ_61 0 (fun _ => 0)) (L, xs) := by
  unfold iZ_61
  rw [ix_60, fo_x]
theorem ix_62 {L : Nat} {xs : Nat → Int32} : iZ_62 L xs = wx (iZ_62 0 (fun _ => 0)) (L, xs) := by
  unfold iZ_62
  rw [ix_61, fo_x]
theorem ix_63 {L : Nat} {xs : Nat → Int32} : iZ_63 L xs = wx (iZ_63 0 (fun _ => 0)) (L, xs) := by
  unfold iZ_63
  rw [ix_62, fo_x]
theorem ix_64 {L : Nat} {xs : Nat → Int32} : iZ_64 L xs = wx (iZ_64 0 (fun _ => 0)) (L, xs) := by
  unfold iZ_64
  rw [ix_63, fo_x]
theorem ix_65 {L : Nat} {xs : Nat → Int32} : iZ_65 L xs = wx (iZ_65 0 (fun _ => 0)) (L, xs) := by
  unfold iZ_65
  rw [ix_64, fo_x]
theorem ix_66 {L : Nat} {xs : Nat → Int32} : iZ_66 L xs = wx (iZ_66 0 (fun _ => 0)) (L, xs) := by
  unfold iZ_66
  rw [ix_65, fo_x]
noncomputable def hz_ : am_H := iZ_66 0 (fun _ => 0)
theorem lay_wx {h : am_H} {x : Nat × (Nat → Int32)} (L : Lay h) : Lay (wx h x) := L
set_option maxRecDepth 100000 in
theorem hz_lay : Lay hz_ := by
  unfold Lay
  decide +kernel
theorem iZ_e {L : Nat} {xs : Nat → Int32} : iZ_66 L xs = wx hz_ (L, xs) := ix_66
theorem iZ_lay {L : Nat} {xs : Nat → Int32} : Lay (iZ_66 L xs) := by
  rw [iZ_e]
  exact lay_wx hz_lay
theorem st_run {d : Nat} {Q : Option am_V → am_H → Prop} {L : Nat} {xs : Nat → Int32} (K : ∀ h', am_fr (iZ_66 L xs) h' (fun a k => a = 94 ∧ k < 2351) → (∀ k, k < 2351 → h_i h' 94 k = nI 0) → ex_ (d + 4) 0 18 [some (v_x 20), some (v_r (some 0)), some (v_r (some 93)), some (v_i (0 : Int32))] [] h' Q) : ex_ (d + 4) 0 0 [some (v_x 20), none, none, none] [] (h_0 L xs) Q := by
  show ex_ (d + 4) 0 0 [some (v_x 20), none, none, none] [] (iZ_0 L xs) _
  refine (in_0 iv_0).2 ?_
  show ex_ _ 0 4 [some (v_x 20), none, none, none] [v_r (some 0), v_r (some 0)] (iZ_1 L xs) _
  refine (in_1 iv_1).2 ?_
  refine (in_2 iv_1).2 ?_
  show ex_ _ 161 23 [some (v_r (some 0)), none] [v_r (some 2), v_r (some 2), v_r (some 0)] (iZ_2 L xs) _
  refine (in_3 iv_2).2 ?_
  refine (in_4 iv_2).2 ?_
  show ex_ _ 79 27 [some (v_r (some 2))] [v_r (some 5), v_r (some 5), v_r (some 2)] (iZ_3 L xs) _
  refine (in_5 iv_3).2 ?_
  refine (in_6 iv_3).2 ?_
  show ex_ _ 26 28 [some (v_r (some 5))] [] (iZ_4 L xs) _
  refine in_7.2 ?_
  show ex_ (d + 2) 79 30 [some (v_r (some 2))] [v_r (some 5), v_r (some 2)] (iZ_4 L xs) _
  refine (in_8 iv_4).2 ?_
  show ex_ _ 79 42 [some (v_r (some 2))] [] (iZ_5 L xs) _
  refine in_9.2 ?_
  show ex_ (d + 3) 161 26 [some (v_r (some 0)), none] [v_r (some 2), v_r (some 0)] (iZ_5 L xs) _
  refine (in_10 iv_5).2 ?_
  show ex_ _ 161 34 [some (v_r (some 0)), none] [v_r (some 10), v_r (some 10), v_r (some 0)] (iZ_6 L xs) _
  refine (in_11 iv_6).2 ?_
  refine (in_12 iv_6).2 ?_
  show ex_ _ 42 9 [some (v_r (some 10))] [v_r (some 11), v_r (some 11), v_r (some 10)] (iZ_7 L xs) _
  refine (in_13 iv_7).2 ?_
  refine (in_14 iv_7).2 ?_
  show ex_ _ 26 28 [some (v_r (some 11))] [] (iZ_8 L xs) _
  refine in_15.2 ?_
  show ex_ (d + 2) 42 12 [some (v_r (some 10))] [v_r (some 11), v_r (some 10)] (iZ_8 L xs) _
  refine (in_16 iv_8).2 ?_
  show ex_ _ 42 15 [some (v_r (some 10))] [] (iZ_9 L xs) _
  refine in_17.2 ?_
  show ex_ (d + 3) 161 37 [some (v_r (some 0)), none] [v_r (some 10), v_r (some 0)] (iZ_9 L xs) _
  refine (in_18 iv_9).2 ?_
  show ex_ _ 161 45 [some (v_r (some 0)), none] [v_r (some 15), v_r (some 15), v_r (some 0)] (iZ_10 L xs) _
  refine (in_19 iv_10).2 ?_
  refine (in_20 iv_10).2 ?_
  show ex_ _ 44 28 [some (v_r (some 15))] [] (iZ_11 L xs) _
  refine (in_21 iv_11).2 ?_
  show ex_ _ 44 50 [some (v_r (some 15))] [] (iZ_12 L xs) _
  refine (in_22 iv_12).2 ?_
  show ex_ _ 44 71 [some (v_r (some 15))] [] (iZ_13 L xs) _
  refine in_23.2 ?_
  show ex_ (d + 3) 161 48 [some (v_r (some 0)), none] [v_r (some 15), v_r (some 0)] (iZ_13 L xs) _
  refine (in_24 iv_13).2 ?_
  show ex_ _ 161 56 [some (v_r (some 0)), none] [v_r (some 25), v_r (some 25), v_r (some 0)] (iZ_14 L xs) _
  refine (in_25 iv_14).2 ?_
  refine (in_26 iv_14).2 ?_
  show ex_ _ 75 13 [some (v_r (some 25))] [] (iZ_15 L xs) _
  refine in_27.2 ?_
  show ex_ (d + 3) 161 59 [some (v_r (some 0)), none] [v_r (some 25), v_r (some 0)] (iZ_15 L xs) _
  refine (in_28 iv_15).2 ?_
  show ex_ _ 161 67 [some (v_r (some 0)), none] [v_r (some 27), v_r (some 27), v_r (some 0)] (iZ_16 L xs) _
  refine (in_29 iv_16).2 ?_
  refine (in_30 iv_16).2 ?_
  show ex_ _ 26 28 [some (v_r (some 27))] [] (iZ_17 L xs) _
  refine in_31.2 ?_
  show ex_ (d + 3) 161 70 [some (v_r (some 0)), none] [v_r (some 27), v_r (some 0)] (iZ_17 L xs) _
  refine (in_32 iv_17).2 ?_
  show ex_ _ 161 78 [some (v_r (some 0)), none] [v_r (some 31), v_r (some 31), v_r (some 0)] (iZ_18 L xs) _
  refine (in_33 iv_18).2 ?_
  refine (in_34 iv_18).2 ?_
  show ex_ _ 44 28 [some (v_r (some 31))] [] (iZ_19 L xs) _
  refine (in_35 iv_19).2 ?_
  show ex_ _ 44 50 [some (v_r (some 31))] [] (iZ_20 L xs) _
  refine (in_36 iv_20).2 ?_
  show ex_ _ 44 71 [some (v_r (some 31))] [] (iZ_21 L xs) _
  refine in_37.2 ?_
  show ex_ (d + 3) 161 81 [some (v_r (some 0)), none] [v_r (some 31), v_r (some 0)] (iZ_21 L xs) _
  refine (in_38 iv_21).2 ?_
  show ex_ _ 161 90 [some (v_r (some 0)), none] [v_r (some 0), v_r (some 41), v_r (some 41), v_r (some 0)] (iZ_22 L xs) _
  refine (in_39 iv_22 (show h_r (iZ_22 L xs) 0 5 = some 10 from rfl)).2 ?_
  refine (in_40 iv_22 (show h_r (iZ_22 L xs) 10 0 = some 11 from rfl)).2 ?_
  refine (in_41 iv_22).2 ?_
  show ex_ _ 161 97 [some (v_r (some 0)), none] [v_r (some 0), v_r (some 11), v_r (some 41), v_r (some 41), v_r (some 0)] (iZ_22 L xs) _
  refine (in_42 iv_22 (show h_r (iZ_22 L xs) 0 6 = some 15 from rfl)).2 ?_
  refine (in_43 iv_22).2 ?_
  refine (in_44 iv_22).2 ?_
  show ex_ _ 1 28 [some (v_r (some 41)), some (v_r (some 11)), some (v_r (some 15))] [] (iZ_23 L xs) _
  refine (in_45 iv_23).2 ?_
  show ex_ _ 1 50 [some (v_r (some 41)), some (v_r (some 11)), some (v_r (some 15))] [] (iZ_24 L xs) _
  refine (in_46 iv_24).2 ?_
  show ex_ _ 1 55 [some (v_r (some 41)), some (v_r (some 11)), some (v_r (some 15))] [] (iZ_25 L xs) _
  refine in_47.2 ?_
  show ex_ (d + 3) 161 103 [some (v_r (some 0)), none] [v_r (some 41), v_r (some 0)] (iZ_25 L xs) _
  refine (in_48 iv_25).2 ?_
  show ex_ _ 161 111 [some (v_r (some 0)), none] [v_r (some 47), v_r (some 47), v_r (some 0)] (iZ_26 L xs) _
  refine (in_49 iv_26).2 ?_
  refine (in_50 iv_26).2 ?_
  show ex_ _ 63 28 [some (v_r (some 47))] [] (iZ_27 L xs) _
  refine in_51.2 ?_
  show ex_ (d + 3) 161 114 [some (v_r (some 0)), none] [v_r (some 47), v_r (some 0)] (iZ_27 L xs) _
  refine (in_52 iv_27).2 ?_
  show ex_ _ 161 123 [some (v_r (some 0)), none] [v_r (some 0), v_r (some 51), v_r (some 51), v_r (some 0)] (iZ_28 L xs) _
  refine (in_53 iv_28 (show h_r (iZ_28 L xs) 0 5 = some 10 from rfl)).2 ?_
  refine (in_54 iv_28).2 ?_
  show ex_ _ 161 127 [some (v_r (some 0)), none] [v_r (some 0), v_r (some 10), v_r (some 51), v_r (some 51), v_r (some 0)] (iZ_28 L xs) _
  refine (in_55 iv_28 (show h_r (iZ_28 L xs) 0 6 = some 15 from rfl)).2 ?_
  refine (in_56 iv_28).2 ?_
  refine (in_57 iv_28).2 ?_
  show ex_ _ 148 28 [some (v_r (some 51)), some (v_r (some 10)), some (v_r (some 15))] [] (iZ_29 L xs) _
  refine (in_58 iv_29).2 ?_
  show ex_ _ 148 46 [some (v_r (some 51)), some (v_r (some 10)), some (v_r (some 15))] [] (iZ_30 L xs) _
  refine in_59.2 ?_
  show ex_ (d + 3) 161 133 [some (v_r (some 0)), none] [v_r (some 51), v_r (some 0)] (iZ_30 L xs) _
  refine (in_60 iv_30).2 ?_
  show ex_ _ 161 141 [some (v_r (some 0)), none] [v_r (some 56), v_r (some 56), v_r (some 0)] (iZ_31 L xs) _
  refine (in_61 iv_31).2 ?_
  refine (in_62 iv_31).2 ?_
  show ex_ _ 57 9 [some (v_r (some 56))] [v_r (some 57), v_r (some 57), v_r (some 56)] (iZ_32 L xs) _
  refine (in_63 iv_32).2 ?_
  refine (in_64 iv_32).2 ?_
  show ex_ _ 44 28 [some (v_r (some 57))] [] (iZ_33 L xs) _
  refine (in_65 iv_33).2 ?_
  show ex_ _ 44 50 [some (v_r (some 57))] [] (iZ_34 L xs) _
  refine (in_66 iv_34).2 ?_
  show ex_ _ 44 71 [some (v_r (some 57))] [] (iZ_35 L xs) _
  refine in_67.2 ?_
  show ex_ (d + 2) 57 12 [some (v_r (some 56))] [v_r (some 57), v_r (some 56)] (iZ_35 L xs) _
  refine (in_68 iv_35).2 ?_
  show ex_ _ 57 30 [some (v_r (some 56))] [] (iZ_36 L xs) _
  refine in_69.2 ?_
  show ex_ (d + 3) 161 144 [some (v_r (some 0)), none] [v_r (some 56), v_r (some 0)] (iZ_36 L xs) _
  refine (in_70 iv_36).2 ?_
  show ex_ _ 161 152 [some (v_r (some 0)), none] [v_r (some 69), v_r (some 69), v_r (some 0)] (iZ_37 L xs) _
  refine (in_71 iv_37).2 ?_
  refine (in_72 iv_37).2 ?_
  show ex_ _ 45 9 [some (v_r (some 69))] [v_r (some 70), v_r (some 70), v_r (some 69)] (iZ_38 L xs) _
  refine (in_73 iv_38).2 ?_
  refine (in_74 iv_38).2 ?_
  show ex_ _ 44 28 [some (v_r (some 70))] [] (iZ_39 L xs) _
  refine (in_75 iv_39).2 ?_
  show ex_ _ 44 50 [some (v_r (some 70))] [] (iZ_40 L xs) _
  refine (in_76 iv_40).2 ?_
  show ex_ _ 44 71 [some (v_r (some 70))] [] (iZ_41 L xs) _
  refine in_77.2 ?_
  show ex_ (d + 2) 45 12 [some (v_r (some 69))] [v_r (some 70), v_r (some 69)] (iZ_41 L xs) _
  refine (in_78 iv_41).2 ?_
  show ex_ _ 45 29 [some (v_r (some 69))] [] (iZ_42 L xs) _
  refine in_79.2 ?_
  show ex_ (d + 3) 161 155 [some (v_r (some 0)), none] [v_r (some 69), v_r (some 0)] (iZ_42 L xs) _
  refine (in_80 iv_42).2 ?_
  show ex_ _ 161 172 [some (v_r (some 0)), none] [] (iZ_43 L xs) _
  refine (in_81 iv_43).2 ?_
  show ex_ _ 161 195 [some (v_r (some 0)), some (v_i (0 : Int32))] [] (iZ_44 L xs) _
  refine (in_82 iv_44).2 ?_
  show ex_ _ 161 196 [some (v_r (some 0)), some (v_i (0 : Int32))] [v_r (some 0)] (iZ_44 L xs) _
  refine (in_83 iv_44 (show h_r (iZ_44 L xs) 0 17 = some 83 from rfl)).2 ?_
  refine (in_84 iv_44).2 ?_
  show ex_ _ 161 204 [some (v_r (some 0)), some (v_i (0 : Int32))] [v_r (some 85), v_r (some 85), v_i (0 : Int32), v_r (some 83)] (iZ_45 L xs) _
  refine (in_85 iv_45).2 ?_
  refine (in_86 iv_45).2 ?_
  show ex_ _ 141 17 [some (v_r (some 85))] [] (iZ_46 L xs) _
  refine in_87.2 ?_
  show ex_ (d + 3) 161 207 [some (v_r (some 0)), some (v_i (0 : Int32))] [v_r (some 85), v_i (0 : Int32), v_r (some 83)] (iZ_46 L xs) _
  refine (in_88 iv_46).2 ?_
  show ex_ _ 161 195 [some (v_r (some 0)), some (v_i (1 : Int32))] [] (iZ_47 L xs) _
  refine (in_89 iv_47).2 ?_
  show ex_ _ 161 196 [some (v_r (some 0)), some (v_i (1 : Int32))] [v_r (some 0)] (iZ_47 L xs) _
  refine (in_90 iv_47 (show h_r (iZ_47 L xs) 0 17 = some 83 from rfl)).2 ?_
  refine (in_91 iv_47).2 ?_
  show ex_ _ 161 204 [some (v_r (some 0)), some (v_i (1 : Int32))] [v_r (some 87), v_r (some 87), v_i (1 : Int32), v_r (some 83)] (iZ_48 L xs) _
  refine (in_92 iv_48).2 ?_
  refine (in_93 iv_48).2 ?_
  show ex_ _ 141 17 [some (v_r (some 87))] [] (iZ_49 L xs) _
  refine in_94.2 ?_
  show ex_ (d + 3) 161 207 [some (v_r (some 0)), some (v_i (1 : Int32))] [v_r (some 87), v_i (1 : Int32), v_r (some 83)] (iZ_49 L xs) _
  refine (in_95 iv_49).2 ?_
  show ex_ _ 161 195 [some (v_r (some 0)), some (v_i (2 : Int32))] [] (iZ_50 L xs) _
  refine (in_96 iv_50).2 ?_
  show ex_ _ 161 196 [some (v_r (some 0)), some (v_i (2 : Int32))] [v_r (some 0)] (iZ_50 L xs) _
  refine (in_97 iv_50 (show h_r (iZ_50 L xs) 0 17 = some 83 from rfl)).2 ?_
  refine (in_98 iv_50).2 ?_
  show ex_ _ 161 204 [some (v_r (some 0)), some (v_i (2 : Int32))] [v_r (some 89), v_r (some 89), v_i (2 : Int32), v_r (some 83)] (iZ_51 L xs) _
  refine (in_99 iv_51).2 ?_
  refine (in_100 iv_51).2 ?_
  show ex_ _ 141 17 [some (v_r (some 89))] [] (iZ_52 L xs) _
  refine in_101.2 ?_
  show ex_ (d + 3) 161 207 [some (v_r (some 0)), some (v_i (2 : Int32))] [v_r (some 89), v_i (2 : Int32), v_r (some 83)] (iZ_52 L xs) _
  refine (in_102 iv_52).2 ?_
  show ex_ _ 161 195 [some (v_r (some 0)), some (v_i (3 : Int32))] [] (iZ_53 L xs) _
  refine (in_103 iv_53).2 ?_
  show ex_ _ 161 196 [some (v_r (some 0)), some (v_i (3 : Int32))] [v_r (some 0)] (iZ_53 L xs) _
  refine (in_104 iv_53 (show h_r (iZ_53 L xs) 0 17 = some 83 from rfl)).2 ?_
  refine (in_105 iv_53).2 ?_
  show ex_ _ 161 204 [some (v_r (some 0)), some (v_i (3 : Int32))] [v_r (some 91), v_r (some 91), v_i (3 : Int32), v_r (some 83)] (iZ_54 L xs) _
  refine (in_106 iv_54).2 ?_
  refine (in_107 iv_54).2 ?_
  show ex_ _ 141 17 [some (v_r (some 91))] [] (iZ_55 L xs) _
  refine in_108.2 ?_
  show ex_ (d + 3) 161 207 [some (v_r (some 0)), some (v_i (3 : Int32))] [v_r (some 91), v_i (3 : Int32), v_r (some 83)] (iZ_55 L xs) _
  refine (in_109 iv_55).2 ?_
  show ex_ _ 161 214 [some (v_r (some 0)), some (v_i (4 : Int32))] [] (iZ_56 L xs) _
  refine in_110.2 ?_
  show ex_ (d + 4) 0 7 [some (v_x 20), none, none, none] [v_r (some 0)] (iZ_56 L xs) _
  refine (in_111 iv_56).2 ?_
  show ex_ _ 0 12 [some (v_x 20), some (v_r (some 0)), none, none] [v_r (some 93), v_r (some 93)] (iZ_57 L xs) _
  refine (in_112 iv_57).2 ?_
  refine (in_113 iv_57).2 ?_
  show ex_ _ 231 29 [some (v_r (some 93))] [] (iZ_58 L xs) _
  refine (in_114 iv_58).2 ?_
  show ex_ _ 231 51 [some (v_r (some 93))] [] (iZ_59 L xs) _
  refine (in_115 iv_59).2 ?_
  show ex_ _ 231 74 [some (v_r (some 93))] [] (iZ_60 L xs) _
  refine (in_116 iv_60).2 ?_
  show ex_ _ 231 96 [some (v_r (some 93))] [] (iZ_61 L xs) _
  refine (in_117 iv_61).2 ?_
  show ex_ _ 231 121 [some (v_r (some 93))] [] (iZ_62 L xs) _
  refine (in_118 iv_62).2 ?_
  show ex_ _ 231 148 [some (v_r (some 93))] [] (iZ_63 L xs) _
  refine (in_119 iv_63).2 ?_
  show ex_ _ 231 171 [some (v_r (some 93))] [] (iZ_64 L xs) _
  refine (in_120 iv_64).2 ?_
  show ex_ _ 231 202 [some (v_r (some 93))] [] (iZ_65 L xs) _
  refine (in_121 iv_65).2 ?_
  show ex_ _ 231 219 [some (v_r (some 93))] [v_r (some 93)] (iZ_66 L xs) _
  refine (in_122 iv_66 (show h_r (iZ_66 L xs) 93 1 = some 94 from rfl)).2 ?_
  refine (in_123 iv_66).2 ?_
  refine c_plain (la_y (o := 94) (t := 20) (n := 7053) iZ_lay rfl) (by omega) (by omega) (fun h7 fr7 z7 => ?_)
  have J : iv h7 118 := ⟨by rw [fr7.n]; exact iv_66.1, fun o ho => by rw [fr7.2.1]; exact iv_66.2 o ho⟩
  show ex_ (d + 3) 231 225 [some (v_r (some 93))] [] (h7) _
  refine in_124.2 ?_
  show ex_ (d + 4) 0 15 [some (v_x 20), some (v_r (some 0)), none, none] [v_r (some 93)] (h7) _
  refine (in_125 J).2 ?_
  exact K h7 fr7 z7
