/-! ===== tokens of the reference ===== -/
def rtx (h : am_H) (tx : List Nat) : Prop := h_i h 93 8 = nI tx.length ∧ tx.length ≤ 900 ∧ (∀ k, k < tx.length → h_i h 96 k = nI (tx.getD k 0)) ∧ ∀ x ∈ tx, x < 256
def pm (k : Nat) : Nat := if k = 15 then 16 else if k = 16 then 15 else k
def kws (k : Nat) : List Nat := wds.getD (pm k) []
def kyL (k : Nat) : Nat := (kws k).length
def kyB (k : Nat) : Nat := 1 + ((List.range k).map (fun j => kyL j + 1)).sum
theorem k_1 : ∀ k, k < 18 → kyB (k + 1) = kyB k + kyL k + 1 ∧ kyB k + kyL k < 86 ∧ 0 < kyL k := by decide +kernel
theorem k_2 : ∀ k, k < 18 → ∀ j, j < kyL k → (sN 2).getD (kyB k + j) 0 = (kws k).getD j 0 ∧ ¬ (kws k).getD j 0 = 32 ∧ (kws k).getD j 0 < 128 := by decide +kernel
theorem k_4 : ∀ k, k < 18 → (sN 2).getD (kyB k + kyL k) 0 = 32 := by decide +kernel
theorem k_5 : kyB 18 = 86 ∧ (sN 2).length = 86 := by decide +kernel
def rkW (tx : List Nat) (p e : Nat) : Nat := match fi (fun k => wm tx p e (kws k)) 18 0 with
  | some k => k
  | none => 22
theorem c_see {d : Nat} {Q : Option am_V → am_H → Prop} {h : am_H} {tx : List Nat} {k : Nat} (L : Lay h) (T : rtx h tx) (hk : k ≤ 901) : ex_ d 233 0 [some (v_r (some 93)), some (v_i (nI k))] [] h Q ↔ Q (some (v_i (if k < tx.length then nI (tx.getD k 0) else mI))) h := by
  have t2 := T.2.1
  by_cases z : k < tx.length
  · have t3 := T.2.2.1 k z
    simp (disch := first | assumption | omega | (simp only [ya_pi, ya_pj, ya_pa, ya_pr, yo_pi, yo_pj, yo_pa, yf_pi, yf_pj, yf_pa, yh_pi, yh_pj, yh_pa, yt_pi, yt_pj, yt_pa, la_pi, la_pj, la_pa]; assumption)) only [b_X12_see_0, b_X12_see_17, b_X12_see_8, i_lit, i_m1, i_31, il_t, il_f, iq_t, iq_f, it_t, it_f, im_e, im_l, im_g, im_g2, nI_add, pk_mul, i_sub, i_div, sdm, i_dec, i_cl, iv_t, bI_or2, bI_t0, bI_one, not_true_eq_false, not_false_eq_true, ↓reduceIte, am_tl, am_tn, am_t0, am_n0, and_true, true_and, List.cons_append, List.nil_append, List.append_nil, T.1, t3, if_pos z]
  · rw [b_X12_see_0 _ _ L, T.1, if_pos (nI_le (by omega) (by omega)), if_neg z, b_X12_see_17 _ _ _]
    exact Iff.rfl
def atB (tx : List Nat) (q : Nat → Bool) (k : Nat) : Bool := decide (k < tx.length) && q (tx.getD k 0)
theorem c_rSmall {d : Nat} {Q : Option am_V → am_H → Prop} {h : am_H} {tx : List Nat} {k : Nat} (T : rtx h tx) : ex_ d 234 0 [some (v_i (if k < tx.length then nI (tx.getD k 0) else mI))] [] h Q ↔ Q (some (v_i (nI (if atB tx isLb k = true then 1 else 0)))) h := by
  unfold atB isLb
  by_cases z : k < tx.length
  · have b := T.2.2.2 _ (gd_mem z)
    rw [if_pos z]
    generalize tx.getD k 0 = b0 at b
    by_cases y : 97 ≤ b0
    · by_cases x : b0 ≤ 122
      · simp (disch := first | assumption | omega | (simp only [ya_pi, ya_pj, ya_pa, ya_pr, yo_pi, yo_pj, yo_pa, yf_pi, yf_pj, yf_pa, yh_pi, yh_pj, yh_pa, yt_pi, yt_pj, yt_pa, la_pi, la_pj, la_pa]; assumption)) only [b_X12_isSmall_0, b_X12_isSmall_16, b_X12_isSmall_6, b_X12_isSmall_12, i_lit, i_m1, i_31, il_t, il_f, iq_t, iq_f, it_t, it_f, im_e, im_l, im_g, im_g2, nI_add, pk_mul, i_sub, i_div, sdm, i_dec, i_cl, iv_t, bI_or2, bI_t0, bI_one, not_true_eq_false, not_false_eq_true, ↓reduceIte, am_tl, am_tn, am_t0, am_n0, and_true, true_and, List.cons_append, List.nil_append, List.append_nil, decide_eq_true z, decide_eq_true y, decide_eq_true x, Bool.and_self]
      · simp (disch := first | assumption | omega | (simp only [ya_pi, ya_pj, ya_pa, ya_pr, yo_pi, yo_pj, yo_pa, yf_pi, yf_pj, yf_pa, yh_pi, yh_pj, yh_pa, yt_pi, yt_pj, yt_pa, la_pi, la_pj, la_pa]; assumption)) only [b_X12_isSmall_0, b_X12_isSmall_16, b_X12_isSmall_6, b_X12_isSmall_12, i_lit, i_m1, i_31, il_t, il_f, iq_t, iq_f, it_t, it_f, im_e, im_l, im_g, im_g2, nI_add, pk_mul, i_sub, i_div, sdm, i_dec, i_cl, iv_t, bI_or2, bI_t0, bI_one, not_true_eq_false, not_false_eq_true, ↓reduceIte, am_tl, am_tn, am_t0, am_n0, and_true, true_and, List.cons_append, List.nil_append, List.append_nil, decide_eq_true z, decide_eq_true y, decide_eq_false x, Bool.and_false, Bool.false_eq_true]
    · simp (disch := first | assumption | omega | (simp only [ya_pi, ya_pj, ya_pa, ya_pr, yo_pi, yo_pj, yo_pa, yf_pi, yf_pj, yf_pa, yh_pi, yh_pj, yh_pa, yt_pi, yt_pj, yt_pa, la_pi, la_pj, la_pa]; assumption)) only [b_X12_isSmall_0, b_X12_isSmall_16, b_X12_isSmall_6, b_X12_isSmall_12, i_lit, i_m1, i_31, il_t, il_f, iq_t, iq_f, it_t, it_f, im_e, im_l, im_g, im_g2, nI_add, pk_mul, i_sub, i_div, sdm, i_dec, i_cl, iv_t, bI_or2, bI_t0, bI_one, not_true_eq_false, not_false_eq_true, ↓reduceIte, am_tl, am_tn, am_t0, am_n0, and_true, true_and, List.cons_append, List.nil_append, List.append_nil, decide_eq_true z, decide_eq_false y, Bool.false_and, Bool.and_false, Bool.false_eq_true]
  · have m1 : mI < 97 := by decide
    rw [if_neg z, b_X12_isSmall_0 _ _, if_pos m1, b_X12_isSmall_16 _ _]
    simp only [decide_eq_false z, Bool.false_and, Bool.false_eq_true, if_false]
    exact Iff.rfl
theorem c_rDig {d : Nat} {Q : Option am_V → am_H → Prop} {h : am_H} {tx : List Nat} {k : Nat} (T : rtx h tx) : ex_ d 235 0 [some (v_i (if k < tx.length then nI (tx.getD k 0) else mI))] [] h Q ↔ Q (some (v_i (nI (if atB tx isDb k = true then 1 else 0)))) h := by
  unfold atB isDb
  by_cases z : k < tx.length
  · have b := T.2.2.2 _ (gd_mem z)
    rw [if_pos z]
    generalize tx.getD k 0 = b0 at b
    by_cases y : 48 ≤ b0
    · by_cases x : b0 ≤ 57
      · simp (disch := first | assumption | omega | (simp only [ya_pi, ya_pj, ya_pa, ya_pr, yo_pi, yo_pj, yo_pa, yf_pi, yf_pj, yf_pa, yh_pi, yh_pj, yh_pa, yt_pi, yt_pj, yt_pa, la_pi, la_pj, la_pa]; assumption)) only [b_X12_isDigit_0, b_X12_isDigit_16, b_X12_isDigit_6, b_X12_isDigit_12, i_lit, i_m1, i_31, il_t, il_f, iq_t, iq_f, it_t, it_f, im_e, im_l, im_g, im_g2, nI_add, pk_mul, i_sub, i_div, sdm, i_dec, i_cl, iv_t, bI_or2, bI_t0, bI_one, not_true_eq_false, not_false_eq_true, ↓reduceIte, am_tl, am_tn, am_t0, am_n0, and_true, true_and, List.cons_append, List.nil_append, List.append_nil, decide_eq_true z, decide_eq_true y, decide_eq_true x, Bool.and_self]
      · simp (disch := first | assumption | omega | (simp only [ya_pi, ya_pj, ya_pa, ya_pr, yo_pi, yo_pj, yo_pa, yf_pi, yf_pj, yf_pa, yh_pi, yh_pj, yh_pa, yt_pi, yt_pj, yt_pa, la_pi, la_pj, la_pa]; assumption)) only [b_X12_isDigit_0, b_X12_isDigit_16, b_X12_isDigit_6, b_X12_isDigit_12, i_lit, i_m1, i_31, il_t, il_f, iq_t, iq_f, it_t, it_f, im_e, im_l, im_g, im_g2, nI_add, pk_mul, i_sub, i_div, sdm, i_dec, i_cl, iv_t, bI_or2, bI_t0, bI_one, not_true_eq_false, not_false_eq_true, ↓reduceIte, am_tl, am_tn, am_t0, am_n0, and_true, true_and, List.cons_append, List.nil_append, List.append_nil, decide_eq_true z, decide_eq_true y, decide_eq_false x, Bool.and_false, Bool.false_eq_true]
    · simp (disch := first | assumption | omega | (simp only [ya_pi, ya_pj, ya_pa, ya_pr, yo_pi, yo_pj, yo_pa, yf_pi, yf_pj, yf_pa, yh_pi, yh_pj, yh_pa, yt_pi, yt_pj, yt_pa, la_pi, la_pj, la_pa]; assumption)) only [b_X12_isDigit_0, b_X12_isDigit_16, b_X12_isDigit_6, b_X12_isDigit_12, i_lit, i_m1, i_31, il_t, il_f, iq_t, iq_f, it_t, it_f, im_e, im_l, im_g, im_g2, nI_add, pk_mul, i_sub, i_div, sdm, i_dec, i_cl, iv_t, bI_or2, bI_t0, bI_one, not_true_eq_false, not_false_eq_true, ↓reduceIte, am_tl, am_tn, am_t0, am_n0, and_true, true_and, List.cons_append, List.nil_append, List.append_nil, decide_eq_true z, decide_eq_false y, Bool.false_and, Bool.and_false, Bool.false_eq_true]
  · have m1 : mI < 48 := by decide
    rw [if_neg z, b_X12_isDigit_0 _ _, if_pos m1, b_X12_isDigit_16 _ _]
    simp only [decide_eq_false z, Bool.false_and, Bool.false_eq_true, if_false]
    exact Iff.rfl
theorem c_keyAt {d : Nat} {Q : Option am_V → am_H → Prop} {h : am_H} {tx : List Nat} {p e : Nat} (L : Lay h) (T : rtx h tx) (e6 : h_i h 93 6 = nI p) (e7 : h_i h 93 7 = nI e) (hp : p < e) (he : e ≤ tx.length) : ex_ (d + 4) 236 0 [some (v_r (some 93)), none, none, none] [] h Q ↔ Q (some (v_i (nI (rkW tx p e)))) h := by
  have t2 := T.2.1
  apply ex_iff
  simp (disch := first | assumption | omega | (simp only [ya_pi, ya_pj, ya_pa, ya_pr, yo_pi, yo_pj, yo_pa, yf_pi, yf_pj, yf_pa, yh_pi, yh_pj, yh_pa, yt_pi, yt_pj, yt_pa, la_pi, la_pj, la_pa]; assumption)) only [b_X12_keyAt_0, i_lit, i_m1, i_31, il_t, il_f, iq_t, iq_f, it_t, it_f, im_e, im_l, im_g, im_g2, nI_add, pk_mul, i_sub, i_div, sdm, i_dec, i_cl, iv_t, bI_or2, bI_t0, bI_one, not_true_eq_false, not_false_eq_true, ↓reduceIte, am_tl, am_tn, am_t0, am_n0, and_true, true_and, List.cons_append, List.nil_append, List.append_nil]
  have c2 := k_5.2
  have key := lp_wf (d := d + 4) (k := 236) (pc := 4) (Q := fun r h' => r = some (v_i (nI (rkW tx p e))) ∧ h' = h) (fun s : Nat × Option am_V => 19 - s.1) (fun s => [some (v_r (some 93)), some (v_i (nI s.1)), some (v_i (nI (kyB s.1))), s.2]) (fun s h' => h' = h ∧ s.1 ≤ 18 ∧ fi (fun k => wm tx p e (kws k)) 18 0 = fi (fun k => wm tx p e (kws k)) 18 s.1) ?_ (s := (0, none)) (h := h) ⟨rfl, by omega, rfl⟩
  · exact key
  · rintro ⟨n, l3⟩ h' ⟨rfl, hn, hf⟩ nx
    have hn : n ≤ 18 := hn
    have hf : fi (fun k => wm tx p e (kws k)) 18 0 = fi (fun k => wm tx p e (kws k)) 18 n := hf
    show ex_ (d + 4) 236 4 [some (v_r (some 93)), some (v_i (nI n)), some (v_i (nI (kyB n))), l3] [] h' _
    rw [b_X12_keyAt_4 _ _ _ _ _]
    by_cases z : n = 18
    · have : rkW tx p e = 22 := by unfold rkW; rw [hf, z, fi_end (Nat.le_refl _)]
      have kb : kyB n = 86 := by rw [z]; exact k_5.1
      simp (disch := first | assumption | omega | (simp only [ya_pi, ya_pj, ya_pa, ya_pr, yo_pi, yo_pj, yo_pa, yf_pi, yf_pj, yf_pa, yh_pi, yh_pj, yh_pa, yt_pi, yt_pj, yt_pa, la_pi, la_pj, la_pa]; assumption)) only [b_X12_keyAt_10, b_X12_keyAt_123, i_lit, i_m1, i_31, il_t, il_f, iq_t, iq_f, it_t, it_f, im_e, im_l, im_g, im_g2, nI_add, pk_mul, i_sub, i_div, sdm, i_dec, i_cl, iv_t, bI_or2, bI_t0, bI_one, not_true_eq_false, not_false_eq_true, ↓reduceIte, am_tl, am_tn, am_t0, am_n0, and_true, true_and, List.cons_append, List.nil_append, List.append_nil, c_strlen (show 2 < 3 by decide), c2, kb, this]
    · have hn' : n < 18 := by omega
      obtain ⟨K1, K2, K3⟩ := k_1 n hn'
      -- the next word
      have nxt : ¬ wm tx p e (kws n) = true → ∀ i, ex_ (d + 4) 236 97 [some (v_r (some 93)), some (v_i (nI n)), some (v_i (nI (kyB n))), some (v_i (nI i))] [] h' (fun r h'_1 => r = some (v_i (nI (rkW tx p e))) ∧ h'_1 = h') := fun nw i => by
        have st := lp_up (d := d + 4) (k := 236) (pc := 97) (Q := fun r h'_1 => r = some (v_i (nI (rkW tx p e))) ∧ h'_1 = h') (kyL n) (fun j (_ : Unit) => [some (v_r (some 93)), some (v_i (nI n)), some (v_i (nI (kyB n + j))), some (v_i (nI i))]) (fun j _ h1 => h1 = h') ?_ ?_ (i := 0) (s := ()) (h := h') (Nat.zero_le _) rfl
        · exact st
        · rintro j - h1 hj rfl nx2
          have c1 : kyB n + j < (sN 2).length := by rw [c2]; omega
          obtain ⟨w1, w2, w3⟩ := k_2 n hn' j hj
          rw [b_X12_keyAt_97 _ _ _ _ _]
          simp (disch := first | assumption | omega | (simp only [ya_pi, ya_pj, ya_pa, ya_pr, yo_pi, yo_pj, yo_pa, yf_pi, yf_pj, yf_pa, yh_pi, yh_pj, yh_pa, yt_pi, yt_pj, yt_pa, la_pi, la_pj, la_pa]; assumption)) only [b_X12_keyAt_103, b_X12_keyAt_108, i_lit, i_m1, i_31, il_t, il_f, iq_t, iq_f, it_t, it_f, im_e, im_l, im_g, im_g2, nI_add, pk_mul, i_sub, i_div, sdm, i_dec, i_cl, iv_t, bI_or2, bI_t0, bI_one, not_true_eq_false, not_false_eq_true, ↓reduceIte, am_tl, am_tn, am_t0, am_n0, and_true, true_and, List.cons_append, List.nil_append, List.append_nil, c_charAt (show 2 < 3 by decide) c1, w1]
          exact nx2 () h1 rfl
        · rintro - h1 rfl
          have c1 : kyB n + kyL n < (sN 2).length := by rw [c2]; omega
          rw [b_X12_keyAt_97 _ _ _ _ _]
          simp (disch := first | assumption | omega | (simp only [ya_pi, ya_pj, ya_pa, ya_pr, yo_pi, yo_pj, yo_pa, yf_pi, yf_pj, yf_pa, yh_pi, yh_pj, yh_pa, yt_pi, yt_pj, yt_pa, la_pi, la_pj, la_pa]; assumption)) only [b_X12_keyAt_103, b_X12_keyAt_114, i_lit, i_m1, i_31, il_t, il_f, iq_t, iq_f, it_t, it_f, im_e, im_l, im_g, im_g2, nI_add, pk_mul, i_sub, i_div, sdm, i_dec, i_cl, iv_t, bI_or2, bI_t0, bI_one, not_true_eq_false, not_false_eq_true, ↓reduceIte, am_tl, am_tn, am_t0, am_n0, and_true, true_and, List.cons_append, List.nil_append, List.append_nil, c_charAt (show 2 < 3 by decide) c1, k_4 n hn']
          rw [← K1]
          exact nx (n + 1, _) h1 (by show 19 - (n + 1) < 19 - n; omega) ⟨rfl, hn', by rw [hf]; exact fi_no (by simpa using nw)⟩
      have c8 : ¬ 86 ≤ kyB n := by omega
      simp (disch := first | assumption | omega | (simp only [ya_pi, ya_pj, ya_pa, ya_pr, yo_pi, yo_pj, yo_pa, yf_pi, yf_pj, yf_pa, yh_pi, yh_pj, yh_pa, yt_pi, yt_pj, yt_pa, la_pi, la_pj, la_pa]; assumption)) only [b_X12_keyAt_10, b_X12_keyAt_13, i_lit, i_m1, i_31, il_t, il_f, iq_t, iq_f, it_t, it_f, im_e, im_l, im_g, im_g2, nI_add, pk_mul, i_sub, i_div, sdm, i_dec, i_cl, iv_t, bI_or2, bI_t0, bI_one, not_true_eq_false, not_false_eq_true, ↓reduceIte, am_tl, am_tn, am_t0, am_n0, and_true, true_and, List.cons_append, List.nil_append, List.append_nil, c_strlen (show 2 < 3 by decide), c2]
      have st := lp_up (d := d + 4) (k := 236) (pc := 15) (Q := fun r h'_1 => r = some (v_i (nI (rkW tx p e))) ∧ h'_1 = h') (kyL n) (fun j (_ : Unit) => [some (v_r (some 93)), some (v_i (nI n)), some (v_i (nI (kyB n))), some (v_i (nI j))]) (fun j _ h1 => h1 = h' ∧ p + j ≤ e ∧ ∀ i, i < j → (kws n).getD i 0 = tx.getD (p + i) 0) ?_ ?_ (i := 0) (s := ()) (h := h') (Nat.zero_le _) ⟨rfl, by omega, fun i hi => absurd hi (by omega)⟩
      · exact st
      · rintro j - h1 hj ⟨rfl, hpe, hm⟩ nx2
        have c1 : kyB n + j < (sN 2).length := by rw [c2]; omega
        obtain ⟨w1, w2, w3⟩ := k_2 n hn' j hj
        rw [b_X12_keyAt_15 _ _ _ _ _]
        by_cases y : p + j < e
        · have pj : p + j < tx.length := by omega
          have t3 := T.2.2.1 _ pj
          have b := T.2.2.2 _ (gd_mem pj)
          by_cases x : tx.getD (p + j) 0 = (kws n).getD j 0
          · simp (disch := first | assumption | omega | (simp only [ya_pi, ya_pj, ya_pa, ya_pr, yo_pi, yo_pj, yo_pa, yf_pi, yf_pj, yf_pa, yh_pi, yh_pj, yh_pa, yt_pi, yt_pj, yt_pa, la_pi, la_pj, la_pa]; assumption)) only [b_X12_keyAt_23, b_X12_keyAt_28, b_X12_keyAt_41, b_X12_keyAt_60, b_X12_keyAt_63, i_lit, i_m1, i_31, il_t, il_f, iq_t, iq_f, it_t, it_f, im_e, im_l, im_g, im_g2, nI_add, pk_mul, i_sub, i_div, sdm, i_dec, i_cl, iv_t, bI_or2, bI_t0, bI_one, not_true_eq_false, not_false_eq_true, ↓reduceIte, am_tl, am_tn, am_t0, am_n0, and_true, true_and, List.cons_append, List.nil_append, List.append_nil, c_charAt (show 2 < 3 by decide) c1, w1, e6, e7, t3, x]
            refine nx2 () h1 ⟨rfl, by omega, fun i hi => ?_⟩
            by_cases u : i = j
            · rw [u]; exact x.symm
            · exact hm i (by omega)
          · simp (disch := first | assumption | omega | (simp only [ya_pi, ya_pj, ya_pa, ya_pr, yo_pi, yo_pj, yo_pa, yf_pi, yf_pj, yf_pa, yh_pi, yh_pj, yh_pa, yt_pi, yt_pj, yt_pa, la_pi, la_pj, la_pa]; assumption)) only [b_X12_keyAt_23, b_X12_keyAt_28, b_X12_keyAt_41, b_X12_keyAt_60, b_X12_keyAt_69, b_X12_keyAt_77, i_lit, i_m1, i_31, il_t, il_f, iq_t, iq_f, it_t, it_f, im_e, im_l, im_g, im_g2, nI_add, pk_mul, i_sub, i_div, sdm, i_dec, i_cl, iv_t, bI_or2, bI_t0, bI_one, not_true_eq_false, not_false_eq_true, ↓reduceIte, am_tl, am_tn, am_t0, am_n0, and_true, true_and, List.cons_append, List.nil_append, List.append_nil, c_charAt (show 2 < 3 by decide) c1, w1, e6, e7, t3]
            exact nxt (fun u => x ((wm_iff.1 u).2 j hj).symm) j
        · simp (disch := first | assumption | omega | (simp only [ya_pi, ya_pj, ya_pa, ya_pr, yo_pi, yo_pj, yo_pa, yf_pi, yf_pj, yf_pa, yh_pi, yh_pj, yh_pa, yt_pi, yt_pj, yt_pa, la_pi, la_pj, la_pa]; assumption)) only [b_X12_keyAt_23, b_X12_keyAt_28, b_X12_keyAt_69, b_X12_keyAt_77, i_lit, i_m1, i_31, il_t, il_f, iq_t, iq_f, it_t, it_f, im_e, im_l, im_g, im_g2, nI_add, pk_mul, i_sub, i_div, sdm, i_dec, i_cl, iv_t, bI_or2, bI_t0, bI_one, not_true_eq_false, not_false_eq_true, ↓reduceIte, am_tl, am_tn, am_t0, am_n0, and_true, true_and, List.cons_append, List.nil_append, List.append_nil, c_charAt (show 2 < 3 by decide) c1, w1, e6, e7]
          exact nxt (fun u => by have := (wm_iff.1 u).1; have e : (kws n).length = kyL n := rfl; omega) j
      · rintro - h1 ⟨rfl, hpe, hm⟩
        have c1 : kyB n + kyL n < (sN 2).length := by rw [c2]; omega
        rw [b_X12_keyAt_15 _ _ _ _ _]
        by_cases y : p + kyL n = e
        · have : rkW tx p e = n := by
            unfold rkW
            rw [hf, fi_yes hn' (wm_iff.2 ⟨by show e - p = kyL n; omega, hm⟩)]
          simp (disch := first | assumption | omega | (simp only [ya_pi, ya_pj, ya_pa, ya_pr, yo_pi, yo_pj, yo_pa, yf_pi, yf_pj, yf_pa, yh_pi, yh_pj, yh_pa, yt_pi, yt_pj, yt_pa, la_pi, la_pj, la_pa]; assumption)) only [b_X12_keyAt_23, b_X12_keyAt_69, b_X12_keyAt_77, b_X12_keyAt_82, b_X12_keyAt_95, i_lit, i_m1, i_31, il_t, il_f, iq_t, iq_f, it_t, it_f, im_e, im_l, im_g, im_g2, nI_add, pk_mul, i_sub, i_div, sdm, i_dec, i_cl, iv_t, bI_or2, bI_t0, bI_one, not_true_eq_false, not_false_eq_true, ↓reduceIte, am_tl, am_tn, am_t0, am_n0, and_true, true_and, List.cons_append, List.nil_append, List.append_nil, c_charAt (show 2 < 3 by decide) c1, k_4 n hn', e6, e7, this]
        · simp (disch := first | assumption | omega | (simp only [ya_pi, ya_pj, ya_pa, ya_pr, yo_pi, yo_pj, yo_pa, yf_pi, yf_pj, yf_pa, yh_pi, yh_pj, yh_pa, yt_pi, yt_pj, yt_pa, la_pi, la_pj, la_pa]; assumption)) only [b_X12_keyAt_23, b_X12_keyAt_69, b_X12_keyAt_77, b_X12_keyAt_82, i_lit, i_m1, i_31, il_t, il_f, iq_t, iq_f, it_t, it_f, im_e, im_l, im_g, im_g2, nI_add, pk_mul, i_sub, i_div, sdm, i_dec, i_cl, iv_t, bI_or2, bI_t0, bI_one, not_true_eq_false, not_false_eq_true, ↓reduceIte, am_tl, am_tn, am_t0, am_n0, and_true, true_and, List.cons_append, List.nil_append, List.append_nil, c_charAt (show 2 < 3 by decide) c1, k_4 n hn', e6, e7]
          exact nxt (fun u => by have := (wm_iff.1 u).1; have e : (kws n).length = kyL n := rfl; omega) _
