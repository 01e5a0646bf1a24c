/-! ===== texts ===== -/
def sN (s : Nat) : List Nat := match s with
  | 0 => [104, 111, 117, 115, 101, 32, 109, 111, 111, 100, 32, 99, 108, 97, 115, 115, 32, 109, 101, 116, 104, 111, 100, 32, 105, 110, 32, 101, 110, 100, 115, 32, 110, 101, 120, 116, 32, 115, 97, 121, 115, 32, 115, 101, 101, 110, 32, 105, 102, 32, 116, 104, 101, 110, 32, 101, 108, 115, 101, 32, 101, 110, 100, 32, 102, 111, 114, 32, 100, 101, 112, 116, 104, 32, 111, 114, 32, 97, 110, 100, 32, 110, 111, 116, 32]
  | 1 => [59, 58, 43, 45, 42, 40, 41, 91, 93, 61, 60, 62]
  | _ => [32, 104, 111, 117, 115, 101, 32, 109, 111, 111, 100, 32, 99, 108, 97, 115, 115, 32, 109, 101, 116, 104, 111, 100, 32, 105, 110, 32, 101, 110, 100, 115, 32, 110, 101, 120, 116, 32, 115, 97, 121, 115, 32, 115, 101, 101, 110, 32, 105, 102, 32, 116, 104, 101, 110, 32, 101, 108, 115, 101, 32, 101, 110, 100, 32, 102, 111, 114, 32, 100, 101, 112, 116, 104, 32, 97, 110, 100, 32, 111, 114, 32, 110, 111, 116, 32]
theorem sN_e : ∀ s, s < 3 → am_byt.getD s [] = (sN s).map nI := by decide +kernel
theorem sN_l {s : Nat} (hs : s < 3) : (am_byt.getD s []).length = (sN s).length := by rw [sN_e s hs, List.length_map]
theorem sN_b : ∀ s, s < 3 → ∀ x ∈ sN s, x < 128 := by decide +kernel
theorem sN_g {s i : Nat} (hs : s < 3) (hi : i < (sN s).length) : (am_byt.getD s []).getD i 0 = nI ((sN s).getD i 0) := by
  rw [sN_e s hs, List.getD_eq_getElem?_getD, List.getElem?_map, List.getElem?_eq_getElem hi, List.getD_eq_getElem?_getD, List.getElem?_eq_getElem hi]
  rfl
theorem ch_128 : ∀ x, x < 128 → ((nI x &&& 255).toUInt32 % 65536).toInt32 = nI x := by decide +kernel
theorem yi_n {k d : Nat} {Q : Option am_V → am_H → Prop} {c : Prop} [Decidable c] {t u : Nat} {L : am_L} {S : List am_V} {h : am_H} (hc : ¬ c) : am_Y am_byt am_p d k (if c then t else u, L, S, h) Q ↔ am_Y am_byt am_p d k (u, L, S, h) Q := by rw [if_neg hc]
theorem yi_y {k d : Nat} {Q : Option am_V → am_H → Prop} {c : Prop} [Decidable c] {t u : Nat} {L : am_L} {S : List am_V} {h : am_H} (hc : c) : am_Y am_byt am_p d k (if c then t else u, L, S, h) Q ↔ am_Y am_byt am_p d k (t, L, S, h) Q := by rw [if_pos hc]
theorem c_isLatin1 {d : Nat} {Q : Option am_V → am_H → Prop} {h : am_H} {s : Nat} (hs : s < 3) : ex_ d 86 0 [some (v_x s)] [] h Q ↔ Q (some (v_i 1)) h := by
  have h1 : ¬ (1 : Int32) = 0 := by decide
  have h2 : ¬ ¬ (0 : Int32) = 0 := by decide
  unfold ex_
  rcases (show s = 0 ∨ s = 1 ∨ s = 2 by omega) with rfl | rfl | rfl
  all_goals
    refine (am_Y_go 2 (ok := []) (g := (if (1 : Int32) = 0 then 17 else 6, _, [], h)) rfl).trans ?_
    refine (yi_n h1).trans ?_
    refine (am_Y_go 3 (ok := []) (g := (if ¬ (0 : Int32) = 0 then 17 else 13, _, [], h)) rfl).trans ?_
    refine (yi_n h2).trans ?_
    refine (am_Y_go 2 (ok := []) (g := (18, _, [v_i 1], h)) rfl).trans ?_
    exact (am_Y_ret rfl rfl rfl).trans (am_rz (Or.inr rfl))
theorem c_coder {d : Nat} {Q : Option am_V → am_H → Prop} {h : am_H} {s : Nat} (hs : s < 3) : ex_ d 84 0 [some (v_x s)] [] h Q ↔ Q (some (v_i 0)) h := by
  have h1 : ¬ (1 : Int32) = 0 := by decide
  unfold ex_
  rcases (show s = 0 ∨ s = 1 ∨ s = 2 by omega) with rfl | rfl | rfl
  all_goals
    refine (am_Y_go 2 (ok := []) (g := (if (1 : Int32) = 0 then 13 else 6, _, [], h)) rfl).trans ?_
    refine (yi_n h1).trans ?_
    refine (am_Y_go 3 (ok := []) (g := (14, _, [v_i 0], h)) rfl).trans ?_
    exact (am_Y_ret rfl rfl rfl).trans (am_rz (show (0 : Int32).toInt8.toInt32 = 0 by decide))
theorem sh0 {n : Nat} (h : n < 2147483648) : nI n >>> ((0 : Int32) &&& 31) = nI n := by
  have : ((0 : Int32) &&& 31) = nI 0 := by decide
  rw [this, i_shr h (by omega), Nat.pow_zero, Nat.div_one]
theorem c_strlen {d : Nat} {Q : Option am_V → am_H → Prop} {h : am_H} {s : Nat} (hs : s < 3) : ex_ (d + 1) 85 0 [some (v_x s)] [] h Q ↔ Q (some (v_i (nI (sN s).length))) h := by
  have key : ex_ (d + 1) 85 0 [some (v_x s)] [] h Q ↔ ex_ d 84 0 [some (v_x s)] [] h (fun r h' => ex_ (d + 1) 85 9 [some (v_x s)] (r.toList ++ [v_i (nI (am_byt.getD s []).length)]) h' Q) := by
    unfold ex_
    rcases (show s = 0 ∨ s = 1 ∨ s = 2 by omega) with rfl | rfl | rfl
    all_goals
      refine (am_Y_go 4 (ok := []) (g := (6, _, [v_x _, v_i (nI (am_byt.getD _ []).length)], h)) rfl).trans ?_
      exact (am_Y_call (j := 84) (na := 1) (ci := 50) (fl := 0) rfl rfl rfl).trans (cj_d ⟨⟨Nat.le_of_ble_eq_true rfl, Nat.le_of_ble_eq_true rfl, Nat.le_of_ble_eq_true rfl, rfl⟩, Or.inr (Or.inr ⟨rfl, by decide⟩)⟩ Iff.rfl)
  rw [key, c_coder hs, sN_l hs]
  have l100 : (sN s).length < 100 := (show ∀ s, s < 3 → (sN s).length < 100 by decide) s hs
  have e := sh0 (n := (sN s).length) (by omega)
  unfold ex_
  refine (am_Y_go 1 (ok := []) (g := (10, [some (v_x s)], [v_i (nI (sN s).length >>> ((0 : Int32) &&& 31))], h)) rfl).trans ?_
  rw [e]
  exact (am_Y_ret rfl rfl rfl).trans (am_rz trivial)
theorem c_checkIx {d : Nat} {Q : Option am_V → am_H → Prop} {h : am_H} {i n : Nat} (hi : i < n) (hn : n < 2147483648) : ex_ (d + 1) 88 0 [some (v_i (nI i)), some (v_i (nI n))] [] h Q ↔ Q none h := by
  rw [b_J0_checkIndex_df160_0]
  have : ∀ {Q : Option am_V → am_H → Prop}, ex_ d 87 0 [some (v_i (nI i)), some (v_i (nI n)), some (v_x 30)] [] h Q ↔ Q (some (v_i (nI i))) h := by
    intro Q
    simp (disch := first | assumption | omega | (simp only [ya_pi, ya_pj, ya_pa, ya_pr, yo_pi, yo_pj, yo_pa, yf_pi, yf_pj, yf_pa, yh_pi, yh_pj, yh_pa, yt_pi, yt_pj, yt_pa, la_pi, la_pj, la_pa]; assumption)) only [b_J3_checkIndex_8e157_0, b_J3_checkIndex_8e157_4, b_J3_checkIndex_8e157_16, i_lit, i_m1, i_31, il_t, il_f, iq_t, iq_f, it_t, it_f, im_e, im_l, im_g, im_g2, nI_add, pk_mul, i_sub, i_div, sdm, i_dec, i_cl, iv_t, bI_or2, bI_t0, bI_one, not_true_eq_false, not_false_eq_true, ↓reduceIte, am_tl, am_tn, am_t0, am_n0, and_true, true_and, List.cons_append, List.nil_append, List.append_nil]
  rw [this]
  simp (disch := first | assumption | omega | (simp only [ya_pi, ya_pj, ya_pa, ya_pr, yo_pi, yo_pj, yo_pa, yf_pi, yf_pj, yf_pa, yh_pi, yh_pj, yh_pa, yt_pi, yt_pj, yt_pa, la_pi, la_pj, la_pa]; assumption)) only [b_J0_checkIndex_df160_8, i_lit, i_m1, i_31, il_t, il_f, iq_t, iq_f, it_t, it_f, im_e, im_l, im_g, im_g2, nI_add, pk_mul, i_sub, i_div, sdm, i_dec, i_cl, iv_t, bI_or2, bI_t0, bI_one, not_true_eq_false, not_false_eq_true, ↓reduceIte, am_tl, am_tn, am_t0, am_n0, and_true, true_and, List.cons_append, List.nil_append, List.append_nil]
theorem c_charAt {d : Nat} {Q : Option am_V → am_H → Prop} {h : am_H} {s i : Nat} (hs : s < 3) (hi : i < (sN s).length) : ex_ (d + 3) 94 0 [some (v_x s), some (v_i (nI i))] [] h Q ↔ Q (some (v_i (nI ((sN s).getD i 0)))) h := by
  have l100 : (sN s).length < 100 := (show ∀ s, s < 3 → (sN s).length < 100 by decide) s hs
  have b := sN_b s hs _ (gd_mem hi)
  have h1 : ¬ (1 : Int32) = 0 := by decide
  have k1 : ex_ (d + 3) 94 0 [some (v_x s), some (v_i (nI i))] [] h Q ↔ ex_ (d + 2) 86 0 [some (v_x s)] [] h (fun r h' => ex_ (d + 3) 94 4 [some (v_x s), some (v_i (nI i))] (r.toList ++ []) h' Q) := by
    unfold ex_
    refine (am_Y_go 1 (ok := []) (g := (1, [some (v_x s), some (v_i (nI i))], [v_x s], h)) rfl).trans ?_
    exact (am_Y_call (j := 86) (na := 1) (ci := 50) (fl := 0) rfl rfl rfl).trans (cj_d ⟨⟨Nat.le_of_ble_eq_true rfl, Nat.le_of_ble_eq_true rfl, Nat.le_of_ble_eq_true rfl, rfl⟩, Or.inr (Or.inr ⟨rfl, hs⟩)⟩ Iff.rfl)
  have k2 : ex_ (d + 3) 94 4 [some (v_x s), some (v_i (nI i))] [v_i 1] h Q ↔ ex_ (d + 2) 89 0 [some (v_x (10 + s)), some (v_i (nI i))] [] h (fun r h' => ex_ (d + 3) 94 15 [some (v_x s), some (v_i (nI i))] (r.toList ++ []) h' Q) := by
    unfold ex_
    refine (am_Y_go 1 (ok := []) (g := (if (1 : Int32) = 0 then 16 else 7, [some (v_x s), some (v_i (nI i))], [], h)) rfl).trans ?_
    refine (yi_n h1).trans ?_
    rcases (show s = 0 ∨ s = 1 ∨ s = 2 by omega) with rfl | rfl | rfl
    all_goals
      refine (am_Y_go 3 (ok := []) (g := (12, _, [v_i (nI i), v_x (10 + _)], h)) rfl).trans ?_
      exact (am_Y_call (j := 89) (na := 2) (ci := 0) (fl := 2) rfl rfl rfl).trans (cj_d ⟨⟨Nat.le_of_ble_eq_true rfl, Nat.le_of_ble_eq_true rfl, Nat.le_of_ble_eq_true rfl, rfl⟩, Or.inl rfl⟩ Iff.rfl)
  have k3 : ∀ {Q : Option am_V → am_H → Prop}, ex_ (d + 2) 89 0 [some (v_x (10 + s)), some (v_i (nI i))] [] h Q ↔ Q (some (v_i (nI ((sN s).getD i 0)))) h := by
    intro Q
    have a1 : ex_ (d + 2) 89 0 [some (v_x (10 + s)), some (v_i (nI i))] [] h Q ↔ ex_ (d + 1) 88 0 [some (v_i (nI i)), some (v_i (nI (am_byt.getD s []).length))] [] h (fun r h' => ex_ (d + 2) 89 6 [some (v_x (10 + s)), some (v_i (nI i))] (r.toList ++ []) h' Q) := by
      unfold ex_
      rcases (show s = 0 ∨ s = 1 ∨ s = 2 by omega) with rfl | rfl | rfl
      all_goals
        refine (am_Y_go 3 (ok := []) (g := (3, _, [v_i (nI (am_byt.getD _ []).length), v_i (nI i)], h)) rfl).trans ?_
        exact (am_Y_call (j := 88) (na := 2) (ci := 50) (fl := 2) rfl rfl rfl).trans (cj_d ⟨⟨Nat.le_of_ble_eq_true rfl, Nat.le_of_ble_eq_true rfl, Nat.le_of_ble_eq_true rfl, rfl⟩, Or.inl rfl⟩ Iff.rfl)
    have a2 : ex_ (d + 2) 89 6 [some (v_x (10 + s)), some (v_i (nI i))] [] h Q ↔ vp_in (nI i) (am_byt.getD s []).length ∧ ex_ (d + 2) 89 14 [some (v_x (10 + s)), some (v_i (nI i))] [v_i (((am_byt.getD s []).getD (nI i).toNatClampNeg 0 &&& 255).toUInt32 % 65536).toInt32] h Q := by
      unfold ex_
      rcases (show s = 0 ∨ s = 1 ∨ s = 2 by omega) with rfl | rfl | rfl
      all_goals
        exact (am_Y_go 6 (ok := [vp_in (nI i) (am_byt.getD _ []).length]) (g := (14, _, [v_i (((am_byt.getD _ []).getD (nI i).toNatClampNeg 0 &&& 255).toUInt32 % 65536).toInt32], h)) rfl)
    rw [a1, sN_l hs, c_checkIx hi (by omega)]
    show ex_ (d + 2) 89 6 [some (v_x (10 + s)), some (v_i (nI i))] [] h Q ↔ _
    rw [a2, sN_l hs, nI_clamp (by omega), sN_g hs hi, ch_128 _ b]
    constructor
    · rintro ⟨-, x⟩
      unfold ex_ at x
      exact ((am_Y_ret rfl rfl rfl).1 x).2
    · intro x
      refine ⟨vp_in_nI hi (by omega), ?_⟩
      unfold ex_
      refine (am_Y_ret rfl rfl rfl).2 ⟨?_, x⟩
      show ((nI ((sN s).getD i 0)).toUInt32 % 65536).toInt32 = nI ((sN s).getD i 0)
      exact (show ∀ x, x < 128 → ((nI x).toUInt32 % 65536).toInt32 = nI x by decide +kernel) _ b
  rw [k1, c_isLatin1 hs]
  show ex_ (d + 3) 94 4 [some (v_x s), some (v_i (nI i))] [v_i 1] h Q ↔ _
  rw [k2, k3]
  unfold ex_
  refine (am_Y_ret rfl rfl rfl).trans (am_rz ?_)
  show ((nI ((sN s).getD i 0)).toUInt32 % 65536).toInt32 = nI ((sN s).getD i 0)
  exact (show ∀ x, x < 128 → ((nI x).toUInt32 % 65536).toInt32 = nI x by decide +kernel) _ b
/-! which sign a byte is -/
def sgL : List Nat := [59, 58, 43, 45, 42, 40, 41, 91, 93, 61, 60, 62]
def sgI (b : Nat) : Option Nat := fi (fun k => sgL.getD k 0 == b) 12 0
theorem sg_e : ∀ b, b < 256 → ∀ k, k < 12 → ((nI (sgL.getD k 0) = b8 b) ↔ sgL.getD k 0 = b) := by decide +kernel
theorem c_ixChar {d : Nat} {Q : Option am_V → am_H → Prop} {h : am_H} {b : Nat} (hb : b < 256) {l4 l5 : Option am_V} : ex_ d 99 0 [some (v_x 11), some (v_i (nI b)), some (v_i (nI 0)), some (v_i (nI 12)), l4, l5] [] h Q ↔ Q (some (v_i (oI (sgI b)))) h := by
  apply ex_iff
  have k0 : ∀ {Q : Option am_V → am_H → Prop}, ex_ d 99 0 [some (v_x 11), some (v_i (nI b)), some (v_i (nI 0)), some (v_i (nI 12)), l4, l5] [] h Q ↔ ex_ d 99 7 [some (v_x 11), some (v_i (nI b)), some (v_i (nI 0)), some (v_i (nI 12)), some (v_i (b8 b)), some (v_i (nI 0))] [] h Q := by
    intro Q
    unfold ex_
    exact (am_Y_go 5 (ok := []) (g := (7, [some (v_x 11), some (v_i (nI b)), some (v_i (nI 0)), some (v_i (nI 12)), some (v_i (b8 b)), some (v_i (nI 0))], [], h)) rfl)
  rw [k0]
  have sp : sgI b = fi (fun k => sgL.getD k 0 == b) 12 0 := rfl
  have k7 : ∀ i {h' : am_H} {Q : Option am_V → am_H → Prop}, ex_ d 99 7 [some (v_x 11), some (v_i (nI b)), some (v_i (nI 0)), some (v_i (nI 12)), some (v_i (b8 b)), some (v_i (nI i))] [] h' Q ↔ if nI 12 ≤ nI i then ex_ d 99 31 [some (v_x 11), some (v_i (nI b)), some (v_i (nI 0)), some (v_i (nI 12)), some (v_i (b8 b)), some (v_i (nI i))] [] h' Q else ex_ d 99 13 [some (v_x 11), some (v_i (nI b)), some (v_i (nI 0)), some (v_i (nI 12)), some (v_i (b8 b)), some (v_i (nI i))] [] h' Q := by
    intro i h' Q
    unfold ex_
    refine (am_Y_go 3 (ok := []) (g := (if nI 12 ≤ nI i then 31 else 13, [some (v_x 11), some (v_i (nI b)), some (v_i (nI 0)), some (v_i (nI 12)), some (v_i (b8 b)), some (v_i (nI i))], [], h')) rfl).trans ?_
    exact am_Y_if
  have k13 : ∀ i {h' : am_H} {Q : Option am_V → am_H → Prop}, ex_ d 99 13 [some (v_x 11), some (v_i (nI b)), some (v_i (nI 0)), some (v_i (nI 12)), some (v_i (b8 b)), some (v_i (nI i))] [] h' Q ↔ vp_in (nI i) (am_byt.getD 1 []).length ∧ if ¬ (am_byt.getD 1 []).getD (nI i).toNatClampNeg 0 = b8 b then ex_ d 99 25 [some (v_x 11), some (v_i (nI b)), some (v_i (nI 0)), some (v_i (nI 12)), some (v_i (b8 b)), some (v_i (nI i))] [] h' Q else ex_ d 99 22 [some (v_x 11), some (v_i (nI b)), some (v_i (nI 0)), some (v_i (nI 12)), some (v_i (b8 b)), some (v_i (nI i))] [] h' Q := by
    intro i h' Q
    unfold ex_
    refine (am_Y_go 5 (ok := [vp_in (nI i) (am_byt.getD 1 []).length]) (g := (if ¬ (am_byt.getD 1 []).getD (nI i).toNatClampNeg 0 = b8 b then 25 else 22, [some (v_x 11), some (v_i (nI b)), some (v_i (nI 0)), some (v_i (nI 12)), some (v_i (b8 b)), some (v_i (nI i))], [], h')) rfl).trans ?_
    exact and_congr Iff.rfl am_Y_if
  have k25 : ∀ i {h' : am_H} {Q : Option am_V → am_H → Prop}, ex_ d 99 25 [some (v_x 11), some (v_i (nI b)), some (v_i (nI 0)), some (v_i (nI 12)), some (v_i (b8 b)), some (v_i (nI i))] [] h' Q ↔ ex_ d 99 7 [some (v_x 11), some (v_i (nI b)), some (v_i (nI 0)), some (v_i (nI 12)), some (v_i (b8 b)), some (v_i (nI i + 1))] [] h' Q := by
    intro i h' Q
    unfold ex_
    exact (am_Y_go 2 (ok := []) (g := (7, [some (v_x 11), some (v_i (nI b)), some (v_i (nI 0)), some (v_i (nI 12)), some (v_i (b8 b)), some (v_i (nI i + 1))], [], h')) rfl)
  have k22 : ∀ i {h' : am_H} {Q : Option am_V → am_H → Prop}, ex_ d 99 22 [some (v_x 11), some (v_i (nI b)), some (v_i (nI 0)), some (v_i (nI 12)), some (v_i (b8 b)), some (v_i (nI i))] [] h' Q ↔ Q (some (v_i (nI i))) h' := by
    intro i h' Q
    unfold ex_
    refine (am_Y_go 1 (ok := []) (g := (24, [some (v_x 11), some (v_i (nI b)), some (v_i (nI 0)), some (v_i (nI 12)), some (v_i (b8 b)), some (v_i (nI i))], [v_i (nI i)], h')) rfl).trans ?_
    exact (am_Y_ret rfl rfl rfl).trans (am_rz trivial)
  have k31 : ∀ i {h' : am_H} {Q : Option am_V → am_H → Prop}, ex_ d 99 31 [some (v_x 11), some (v_i (nI b)), some (v_i (nI 0)), some (v_i (nI 12)), some (v_i (b8 b)), some (v_i (nI i))] [] h' Q ↔ Q (some (v_i (-1))) h' := by
    intro i h' Q
    unfold ex_
    refine (am_Y_go 1 (ok := []) (g := (32, [some (v_x 11), some (v_i (nI b)), some (v_i (nI 0)), some (v_i (nI 12)), some (v_i (b8 b)), some (v_i (nI i))], [v_i (-1)], h')) rfl).trans ?_
    exact (am_Y_ret rfl rfl rfl).trans (am_rz trivial)
  refine lp_up 12 (fun i (_ : Unit) => [some (v_x 11), some (v_i (nI b)), some (v_i (nI 0)), some (v_i (nI 12)), some (v_i (b8 b)), some (v_i (nI i))]) (fun i _ h' => h' = h ∧ sgI b = fi (fun k => sgL.getD k 0 == b) 12 i) ?_ ?_ (Nat.zero_le _) ⟨rfl, rfl⟩ (s := ())
  · rintro i - h1 hi ⟨rfl, eq⟩ nxt
    have el : (am_byt.getD 1 []).length = 12 := rfl
    have eg : (am_byt.getD 1 []).getD i 0 = nI (sgL.getD i 0) := sN_g (s := 1) (by omega) hi
    rw [k7, if_neg (by rw [nI_leI (by omega) (by omega)]; omega), k13, el, nI_clamp (by omega), eg]
    refine ⟨vp_in_nI hi (by omega), ?_⟩
    by_cases z : sgL.getD i 0 = b
    · rw [if_neg (fun w => w ((sg_e b hb i hi).2 z)), k22]
      rw [fi_yes (p := fun k => sgL.getD k 0 == b) hi (beq_iff_eq.2 z)] at eq
      rw [eq]
      exact ⟨rfl, rfl⟩
    · rw [if_pos (fun w => z ((sg_e b hb i hi).1 w)), k25]
      rw [fi_no (p := fun k => sgL.getD k 0 == b) (beq_eq_false_iff_ne.2 z)] at eq
      have e1 : nI i + 1 = nI (i + 1) := nI_add ..
      rw [e1]
      exact nxt () h1 ⟨rfl, eq⟩
  · rintro - h1 ⟨rfl, eq⟩
    rw [fi_end (Nat.le_refl _)] at eq
    rw [k7, if_pos (by rw [nI_leI (by omega) (by omega)]; omega), k31, eq]
    exact ⟨rfl, rfl⟩
theorem c_ix1 {d : Nat} {Q : Option am_V → am_H → Prop} {h : am_H} {b : Nat} (hb : b < 256) : ex_ (d + 1) 100 0 [some (v_x 11), some (v_i (nI b)), some (v_i (0 : Int32)), some (v_i (nI 12))] [] h Q ↔ Q (some (v_i (oI (sgI b)))) h := by
  have k0 : ex_ (d + 1) 100 0 [some (v_x 11), some (v_i (nI b)), some (v_i (0 : Int32)), some (v_i (nI 12))] [] h Q ↔ ex_ d 98 0 [some (v_i (nI b))] [] h (fun r h' => ex_ (d + 1) 100 4 [some (v_x 11), some (v_i (nI b)), some (v_i (0 : Int32)), some (v_i (nI 12))] (r.toList ++ []) h' Q) := by
    unfold ex_
    refine (am_Y_go 1 (ok := []) (g := (1, [some (v_x 11), some (v_i (nI b)), some (v_i (0 : Int32)), some (v_i (nI 12))], [v_i (nI b)], h)) rfl).trans ?_
    exact (am_Y_call (j := 98) (na := 1) (ci := 0) (fl := 2) rfl rfl rfl).trans (cj_d ⟨⟨Nat.le_of_ble_eq_true rfl, Nat.le_of_ble_eq_true rfl, Nat.le_of_ble_eq_true rfl, rfl⟩, Or.inl rfl⟩ Iff.rfl)
  have ce : ∀ {Q : Option am_V → am_H → Prop}, ex_ d 98 0 [some (v_i (nI b))] [] h Q ↔ Q (some (v_i (nI 1))) h := by
    intro Q
    simp (disch := first | assumption | omega | (simp only [ya_pi, ya_pj, ya_pa, ya_pr, yo_pi, yo_pj, yo_pa, yf_pi, yf_pj, yf_pa, yh_pi, yh_pj, yh_pa, yt_pi, yt_pj, yt_pa, la_pi, la_pj, la_pa]; assumption)) only [b_J1_canEncode_9a6ad_0, b_J1_canEncode_9a6ad_15, b_J1_canEncode_9a6ad_4, b_J1_canEncode_9a6ad_11, i_lit, i_m1, i_31, il_t, il_f, iq_t, iq_f, it_t, it_f, im_e, im_l, im_g, im_g2, nI_add, pk_mul, i_sub, i_div, sdm, i_dec, i_cl, iv_t, bI_or2, bI_t0, bI_one, not_true_eq_false, not_false_eq_true, ↓reduceIte, am_tl, am_tn, am_t0, am_n0, and_true, true_and, List.cons_append, List.nil_append, List.append_nil]
  rw [k0, ce]
  have n1 : ¬ nI 1 = 0 := by decide
  have l1 : (0 : Int32) < nI 12 := by decide
  show ex_ (d + 1) 100 4 [some (v_x 11), some (v_i (nI b)), some (v_i (0 : Int32)), some (v_i (nI 12))] [v_i (nI 1)] h Q ↔ _
  have k4 : ex_ (d + 1) 100 4 [some (v_x 11), some (v_i (nI b)), some (v_i (0 : Int32)), some (v_i (nI 12))] [v_i (nI 1)] h Q ↔ ex_ d 99 0 [some (v_x 11), some (v_i (nI b)), some (v_i (nI 0)), some (v_i (nI 12)), none, none] [] h (fun r h' => ex_ (d + 1) 100 36 [some (v_x 11), some (v_i (nI b)), some (v_i (nI 0)), some (v_i (nI 12))] (r.toList ++ []) h' Q) := by
    unfold ex_
    refine (am_Y_go 1 (ok := []) (g := (if ¬ nI 1 = 0 then 9 else 7, [some (v_x 11), some (v_i (nI b)), some (v_i (0 : Int32)), some (v_i (nI 12))], [], h)) rfl).trans ?_
    refine (yi_y n1).trans ?_
    refine (am_Y_go 12 (ok := []) (g := (if (if (0 : Int32) < 0 then (0 : Int32) else 0) < (if nI 12 < nI 12 then nI 12 else nI 12) then 29 else 27, [some (v_x 11), some (v_i (nI b)), some (v_i (if (0 : Int32) < 0 then (0 : Int32) else 0)), some (v_i (if nI 12 < nI 12 then nI 12 else nI 12))], [], h)) rfl).trans ?_
    rw [ite_self, ite_self]
    refine (yi_y l1).trans ?_
    refine (am_Y_go 4 (ok := []) (g := (33, [some (v_x 11), some (v_i (nI b)), some (v_i (nI 0)), some (v_i (nI 12))], [v_i (nI 12), v_i (nI 0), v_i (nI b), v_x 11], h)) rfl).trans ?_
    exact (am_Y_call (j := 99) (na := 4) (ci := 0) (fl := 2) rfl rfl rfl).trans (cj_d ⟨⟨Nat.le_of_ble_eq_true rfl, Nat.le_of_ble_eq_true rfl, Nat.le_of_ble_eq_true rfl, rfl⟩, Or.inl rfl⟩ Iff.rfl)
  rw [k4, c_ixChar hb]
  unfold ex_
  exact (am_Y_ret rfl rfl rfl).trans (am_rz trivial)
theorem c_indexOf {d : Nat} {Q : Option am_V → am_H → Prop} {h : am_H} {b : Nat} (hb : b < 256) : ex_ (d + 3) 112 0 [some (v_x 1), some (v_i (nI b))] [] h Q ↔ Q (some (v_i (oI (sgI b)))) h := by
  have n1 : ¬ (1 : Int32) = 0 := by decide
  have k0 : ex_ (d + 3) 112 0 [some (v_x 1), some (v_i (nI b))] [] h Q ↔ ex_ (d + 2) 111 0 [some (v_x 1), some (v_i (nI b)), some (v_i (0 : Int32))] [] h (fun r h' => ex_ (d + 3) 112 6 [some (v_x 1), some (v_i (nI b))] (r.toList ++ []) h' Q) := by
    unfold ex_
    refine (am_Y_go 3 (ok := []) (g := (3, [some (v_x 1), some (v_i (nI b))], [v_i (0 : Int32), v_i (nI b), v_x 1], h)) rfl).trans ?_
    exact (am_Y_call (j := 111) (na := 3) (ci := 50) (fl := 0) rfl rfl rfl).trans (cj_d ⟨⟨Nat.le_of_ble_eq_true rfl, Nat.le_of_ble_eq_true rfl, Nat.le_of_ble_eq_true rfl, rfl⟩, Or.inr (Or.inr ⟨rfl, by decide⟩)⟩ Iff.rfl)
  have k1 : ∀ {Q : Option am_V → am_H → Prop}, ex_ (d + 2) 111 0 [some (v_x 1), some (v_i (nI b)), some (v_i (0 : Int32))] [] h Q ↔ Q (some (v_i (oI (sgI b)))) h := by
    intro Q
    have a0 : ex_ (d + 2) 111 0 [some (v_x 1), some (v_i (nI b)), some (v_i (0 : Int32))] [] h Q ↔ ex_ (d + 1) 86 0 [some (v_x 1)] [] h (fun r h' => ex_ (d + 2) 111 4 [some (v_x 1), some (v_i (nI b)), some (v_i (0 : Int32))] (r.toList ++ []) h' Q) := by
      unfold ex_
      refine (am_Y_go 1 (ok := []) (g := (1, [some (v_x 1), some (v_i (nI b)), some (v_i (0 : Int32))], [v_x 1], h)) rfl).trans ?_
      exact (am_Y_call (j := 86) (na := 1) (ci := 50) (fl := 0) rfl rfl rfl).trans (cj_d ⟨⟨Nat.le_of_ble_eq_true rfl, Nat.le_of_ble_eq_true rfl, Nat.le_of_ble_eq_true rfl, rfl⟩, Or.inr (Or.inr ⟨rfl, by decide⟩)⟩ Iff.rfl)
    have a4 : ex_ (d + 2) 111 4 [some (v_x 1), some (v_i (nI b)), some (v_i (0 : Int32))] [v_i 1] h Q ↔ ex_ (d + 1) 85 0 [some (v_x 1)] [] h (fun r h' => ex_ (d + 2) 111 17 [some (v_x 1), some (v_i (nI b)), some (v_i (0 : Int32))] (r.toList ++ [v_i (0 : Int32), v_i (nI b), v_x 11]) h' Q) := by
      unfold ex_
      refine (am_Y_go 1 (ok := []) (g := (if (1 : Int32) = 0 then 23 else 7, [some (v_x 1), some (v_i (nI b)), some (v_i (0 : Int32))], [], h)) rfl).trans ?_
      refine (yi_n n1).trans ?_
      refine (am_Y_go 5 (ok := []) (g := (14, [some (v_x 1), some (v_i (nI b)), some (v_i (0 : Int32))], [v_x 1, v_i (0 : Int32), v_i (nI b), v_x 11], h)) rfl).trans ?_
      exact (am_Y_call (j := 85) (na := 1) (ci := 50) (fl := 0) rfl rfl rfl).trans (cj_d ⟨⟨Nat.le_of_ble_eq_true rfl, Nat.le_of_ble_eq_true rfl, Nat.le_of_ble_eq_true rfl, rfl⟩, Or.inr (Or.inr ⟨rfl, by decide⟩)⟩ Iff.rfl)
    have a17 : ex_ (d + 2) 111 17 [some (v_x 1), some (v_i (nI b)), some (v_i (0 : Int32))] [v_i (nI 12), v_i (0 : Int32), v_i (nI b), v_x 11] h Q ↔ ex_ (d + 1) 100 0 [some (v_x 11), some (v_i (nI b)), some (v_i (0 : Int32)), some (v_i (nI 12))] [] h (fun r h' => ex_ (d + 2) 111 20 [some (v_x 1), some (v_i (nI b)), some (v_i (0 : Int32))] (r.toList ++ []) h' Q) := by
      unfold ex_
      exact (am_Y_call (j := 100) (na := 4) (ci := 0) (fl := 2) rfl rfl rfl).trans (cj_d ⟨⟨Nat.le_of_ble_eq_true rfl, Nat.le_of_ble_eq_true rfl, Nat.le_of_ble_eq_true rfl, rfl⟩, Or.inl rfl⟩ Iff.rfl)
    rw [a0, c_isLatin1 (by omega)]
    show ex_ (d + 2) 111 4 [some (v_x 1), some (v_i (nI b)), some (v_i (0 : Int32))] [v_i 1] h Q ↔ _
    rw [a4, c_strlen (by omega)]
    show ex_ (d + 2) 111 17 [some (v_x 1), some (v_i (nI b)), some (v_i (0 : Int32))] [v_i (nI 12), v_i (0 : Int32), v_i (nI b), v_x 11] h Q ↔ _
    rw [a17, c_ix1 hb]
    unfold ex_
    refine (am_Y_go 1 (ok := []) (g := (36, [some (v_x 1), some (v_i (nI b)), some (v_i (0 : Int32))], [v_i (oI (sgI b))], h)) rfl).trans ?_
    exact (am_Y_ret rfl rfl rfl).trans (am_rz trivial)
  rw [k0, k1]
  unfold ex_
  exact (am_Y_ret rfl rfl rfl).trans (am_rz trivial)
