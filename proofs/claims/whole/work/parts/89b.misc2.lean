theorem rtp_app {h : am_H} {b : List Nat} {v : Nat} (A : rtp h b) : rtp (p_i (p_i h 96 b.length (nI v)) 93 5 (nI (b.length + 1))) (b ++ [v]) := by
  refine ⟨by rw [hi_s, List.length_append, List.length_singleton], fun k hk => ?_⟩
  rw [List.length_append, List.length_singleton] at hk
  rw [hi_o (by omega), gd_app, hi_if]
  by_cases z : k < b.length
  · rw [if_neg (by omega), if_pos z]
    exact A.2 k z
  · have : k = b.length := by omega
    rw [if_pos ⟨rfl, this⟩, if_neg z, if_pos this]
def rTp (a k : Nat) : Prop := a = 96 ∨ (a = 93 ∧ (k = 0 ∨ k = 5))
theorem fd_len {a b c d e : Int32} : (fd a b c d e).length = 20 := rfl
theorem c_rFeed {d : Nat} {Q : Option am_V → am_H → Prop} {h : am_H} {S : St} {x1 x2 x3 x4 x5 : Int32} {l6 l7 : Option am_V} (ok : St_ok S) (C : rI h S) (k : ∀ h', am_fr h h' rTp → rI h' (t_feed S x1 x2 x3 x4 x5).2 → Q (some (v_i (t_feed S x1 x2 x3 x4 x5).1)) h') : ex_ d 232 0 [some (v_r (some 93)), some (v_i x1), some (v_i x2), some (v_i x3), some (v_i x4), some (v_i x5), l6, l7] [] h Q := by
  have fr0 : am_fr h (p_i h 93 0 (nI 0)) rS := am_fr_pi (by unfold rS; omega)
  have fr0' : am_fr h (p_i h 93 0 (nI 0)) rTp := am_fr_pi (by unfold rTp; omega)
  have L := C.1
  have C0 := C.q ok fr0
  have L0 := C0.1
  have A0 := C0.2.2.2.2.2.1
  have e5 := A0.1
  have l9 := ok.2.2.2.1
  unfold t_feed at k
  by_cases z : (s_b S).length + 20 ≤ 900
  · rw [if_pos z] at k
    simp (disch := first | assumption | omega | (simp only [ya_pi, ya_pj, ya_pa, ya_pr, yo_pi, yo_pj, yo_pa, yf_pi, yf_pj, yf_pa, yh_pi, yh_pj, yh_pa, yt_pi, yt_pj, yt_pa, la_pi, la_pj, la_pa]; assumption)) only [b_X12_feed_0, b_X12_feed_21, b_X12_feed_18, b_X12_feed_121, b_X12_feed_31, b_X12_feed_41, b_X12_feed_37, b_X12_feed_52, b_X12_feed_48, b_X12_feed_63, b_X12_feed_59, b_X12_feed_75, b_X12_feed_70, i_lit, i_m1, i_31, il_t, il_f, iq_t, iq_f, it_t, it_f, im_e, im_l, im_g, im_g2, nI_add, pk_mul, i_sub, i_div, sdm, i_dec, i_cl, iv_t, bI_or2, bI_t0, bI_one, not_true_eq_false, not_false_eq_true, ↓reduceIte, am_tl, am_tn, am_t0, am_n0, and_true, true_and, List.cons_append, List.nil_append, List.append_nil, e5]
    refine lp_up 20 (fun i (l7 : Option am_V) => [some (v_r (some 93)), some (v_i x1), some (v_i x2), some (v_i x3), some (v_i x4), some (v_i x5), some (v_i (nI i)), l7]) (fun i _ h' => am_fr h h' rTp ∧ rtp h' (s_b S ++ (fd x1 x2 x3 x4 x5).take i)) ?_ ?_ (Nat.zero_le _) ⟨fr0', by rw [List.take_zero, List.append_nil]; exact A0⟩ (s := l7)
    · rintro i l7 h1 hi ⟨fr1, A1⟩ nxt
      have L1 := fr1.lay L
      have e1 := A1.1
      rw [List.length_append, tk_l (by rw [fd_len]; omega)] at e1
      have key : ∀ s, s ≤ 24 → ∀ x : Int32, byN x s = (fd x1 x2 x3 x4 x5).getD i 0 → rtp (p_i (p_i h1 96 ((s_b S).length + i) (nI (byN x s))) 93 5 (nI ((s_b S).length + i + 1))) (s_b S ++ (fd x1 x2 x3 x4 x5).take (i + 1)) := by
        intro s _ x ex
        have := rtp_app (v := byN x s) A1
        rw [List.length_append, tk_l (by rw [fd_len]; omega), List.append_assoc, ex, ← tk_s (by rw [fd_len]; omega)] at this
        rw [ex]
        exact this
      have fr2 : ∀ v, am_fr h (p_i (p_i h1 96 ((s_b S).length + i) (nI v)) 93 5 (nI ((s_b S).length + i + 1))) rTp := fun v => (fr1.pi (by unfold rTp; omega)).pi (by unfold rTp; omega)
      have e2 : ∀ v, h_i (p_i h1 96 ((s_b S).length + i) v) 93 5 = nI ((s_b S).length + i) := fun v => by rw [hi_o (by omega)]; exact e1
      have r4 : i % 4 < 4 := Nat.mod_lt _ (by omega)
      rw [b_X12_feed_24 _ _ _ _ _ _ _ _ _]
      rcases (show i / 4 = 0 ∨ i / 4 = 1 ∨ i / 4 = 2 ∨ i / 4 = 3 ∨ i / 4 = 4 by omega) with q | q | q | q | q
      · simp (disch := first | assumption | omega | (simp only [ya_pi, ya_pj, ya_pa, ya_pr, yo_pi, yo_pj, yo_pa, yf_pi, yf_pj, yf_pa, yh_pi, yh_pj, yh_pa, yt_pi, yt_pj, yt_pa, la_pi, la_pj, la_pa]; assumption)) only [b_X12_feed_0, b_X12_feed_21, b_X12_feed_18, b_X12_feed_121, b_X12_feed_31, b_X12_feed_41, b_X12_feed_37, b_X12_feed_52, b_X12_feed_48, b_X12_feed_63, b_X12_feed_59, b_X12_feed_75, b_X12_feed_70, i_lit, i_m1, i_31, il_t, il_f, iq_t, iq_f, it_t, it_f, im_e, im_l, im_g, im_g2, nI_add, pk_mul, i_sub, i_div, sdm, i_dec, i_cl, iv_t, bI_or2, bI_t0, bI_one, not_true_eq_false, not_false_eq_true, ↓reduceIte, am_tl, am_tn, am_t0, am_n0, and_true, true_and, List.cons_append, List.nil_append, List.append_nil, e1, i_31, by_and, e2]
        refine nxt _ _ ⟨fr2 _, key _ (by omega) _ ?_⟩
        rcases (show i = 0 ∨ i = 1 ∨ i = 2 ∨ i = 3 by omega) with rfl | rfl | rfl | rfl <;> rfl
      · simp (disch := first | assumption | omega | (simp only [ya_pi, ya_pj, ya_pa, ya_pr, yo_pi, yo_pj, yo_pa, yf_pi, yf_pj, yf_pa, yh_pi, yh_pj, yh_pa, yt_pi, yt_pj, yt_pa, la_pi, la_pj, la_pa]; assumption)) only [b_X12_feed_0, b_X12_feed_21, b_X12_feed_18, b_X12_feed_121, b_X12_feed_31, b_X12_feed_41, b_X12_feed_37, b_X12_feed_52, b_X12_feed_48, b_X12_feed_63, b_X12_feed_59, b_X12_feed_75, b_X12_feed_70, i_lit, i_m1, i_31, il_t, il_f, iq_t, iq_f, it_t, it_f, im_e, im_l, im_g, im_g2, nI_add, pk_mul, i_sub, i_div, sdm, i_dec, i_cl, iv_t, bI_or2, bI_t0, bI_one, not_true_eq_false, not_false_eq_true, ↓reduceIte, am_tl, am_tn, am_t0, am_n0, and_true, true_and, List.cons_append, List.nil_append, List.append_nil, e1, i_31, by_and, e2]
        refine nxt _ _ ⟨fr2 _, key _ (by omega) _ ?_⟩
        rcases (show i = 4 ∨ i = 5 ∨ i = 6 ∨ i = 7 by omega) with rfl | rfl | rfl | rfl <;> rfl
      · simp (disch := first | assumption | omega | (simp only [ya_pi, ya_pj, ya_pa, ya_pr, yo_pi, yo_pj, yo_pa, yf_pi, yf_pj, yf_pa, yh_pi, yh_pj, yh_pa, yt_pi, yt_pj, yt_pa, la_pi, la_pj, la_pa]; assumption)) only [b_X12_feed_0, b_X12_feed_21, b_X12_feed_18, b_X12_feed_121, b_X12_feed_31, b_X12_feed_41, b_X12_feed_37, b_X12_feed_52, b_X12_feed_48, b_X12_feed_63, b_X12_feed_59, b_X12_feed_75, b_X12_feed_70, i_lit, i_m1, i_31, il_t, il_f, iq_t, iq_f, it_t, it_f, im_e, im_l, im_g, im_g2, nI_add, pk_mul, i_sub, i_div, sdm, i_dec, i_cl, iv_t, bI_or2, bI_t0, bI_one, not_true_eq_false, not_false_eq_true, ↓reduceIte, am_tl, am_tn, am_t0, am_n0, and_true, true_and, List.cons_append, List.nil_append, List.append_nil, e1, i_31, by_and, e2]
        refine nxt _ _ ⟨fr2 _, key _ (by omega) _ ?_⟩
        rcases (show i = 8 ∨ i = 9 ∨ i = 10 ∨ i = 11 by omega) with rfl | rfl | rfl | rfl <;> rfl
      · simp (disch := first | assumption | omega | (simp only [ya_pi, ya_pj, ya_pa, ya_pr, yo_pi, yo_pj, yo_pa, yf_pi, yf_pj, yf_pa, yh_pi, yh_pj, yh_pa, yt_pi, yt_pj, yt_pa, la_pi, la_pj, la_pa]; assumption)) only [b_X12_feed_0, b_X12_feed_21, b_X12_feed_18, b_X12_feed_121, b_X12_feed_31, b_X12_feed_41, b_X12_feed_37, b_X12_feed_52, b_X12_feed_48, b_X12_feed_63, b_X12_feed_59, b_X12_feed_75, b_X12_feed_70, i_lit, i_m1, i_31, il_t, il_f, iq_t, iq_f, it_t, it_f, im_e, im_l, im_g, im_g2, nI_add, pk_mul, i_sub, i_div, sdm, i_dec, i_cl, iv_t, bI_or2, bI_t0, bI_one, not_true_eq_false, not_false_eq_true, ↓reduceIte, am_tl, am_tn, am_t0, am_n0, and_true, true_and, List.cons_append, List.nil_append, List.append_nil, e1, i_31, by_and, e2]
        refine nxt _ _ ⟨fr2 _, key _ (by omega) _ ?_⟩
        rcases (show i = 12 ∨ i = 13 ∨ i = 14 ∨ i = 15 by omega) with rfl | rfl | rfl | rfl <;> rfl
      · simp (disch := first | assumption | omega | (simp only [ya_pi, ya_pj, ya_pa, ya_pr, yo_pi, yo_pj, yo_pa, yf_pi, yf_pj, yf_pa, yh_pi, yh_pj, yh_pa, yt_pi, yt_pj, yt_pa, la_pi, la_pj, la_pa]; assumption)) only [b_X12_feed_0, b_X12_feed_21, b_X12_feed_18, b_X12_feed_121, b_X12_feed_31, b_X12_feed_41, b_X12_feed_37, b_X12_feed_52, b_X12_feed_48, b_X12_feed_63, b_X12_feed_59, b_X12_feed_75, b_X12_feed_70, i_lit, i_m1, i_31, il_t, il_f, iq_t, iq_f, it_t, it_f, im_e, im_l, im_g, im_g2, nI_add, pk_mul, i_sub, i_div, sdm, i_dec, i_cl, iv_t, bI_or2, bI_t0, bI_one, not_true_eq_false, not_false_eq_true, ↓reduceIte, am_tl, am_tn, am_t0, am_n0, and_true, true_and, List.cons_append, List.nil_append, List.append_nil, e1, i_31, by_and, e2]
        refine nxt _ _ ⟨fr2 _, key _ (by omega) _ ?_⟩
        rcases (show i = 16 ∨ i = 17 ∨ i = 18 ∨ i = 19 by omega) with rfl | rfl | rfl | rfl <;> rfl
    · rintro l7 h1 ⟨fr1, A1⟩
      have L1 := fr1.lay L
      rw [show (fd x1 x2 x3 x4 x5).take 20 = fd x1 x2 x3 x4 x5 from rfl] at A1
      have e1 : h_i h1 93 5 = nI ((s_b S).length + 20) := by
        have := A1.1
        rw [List.length_append] at this
        exact this
      rw [b_X12_feed_24 _ _ _ _ _ _ _ _ _]
      simp (disch := first | assumption | omega | (simp only [ya_pi, ya_pj, ya_pa, ya_pr, yo_pi, yo_pj, yo_pa, yf_pi, yf_pj, yf_pa, yh_pi, yh_pj, yh_pa, yt_pi, yt_pj, yt_pa, la_pi, la_pj, la_pa]; assumption)) only [b_X12_feed_0, b_X12_feed_21, b_X12_feed_18, b_X12_feed_121, b_X12_feed_31, b_X12_feed_41, b_X12_feed_37, b_X12_feed_52, b_X12_feed_48, b_X12_feed_63, b_X12_feed_59, b_X12_feed_75, b_X12_feed_70, i_lit, i_m1, i_31, il_t, il_f, iq_t, iq_f, it_t, it_f, im_e, im_l, im_g, im_g2, nI_add, pk_mul, i_sub, i_div, sdm, i_dec, i_cl, iv_t, bI_or2, bI_t0, bI_one, not_true_eq_false, not_false_eq_true, ↓reduceIte, am_tl, am_tn, am_t0, am_n0, and_true, true_and, List.cons_append, List.nil_append, List.append_nil, e1]
      have G : gf h h1 rTp N0 N0 := fr1.g
      obtain ⟨-, C1, C2, C3, C4, -, C6, C7⟩ := C
      exact k h1 fr1 ⟨L1, G.rhA L ok.1 C1 (fun k _ => by unfold rTp; omega), G.rpa L (fun q hq => (ok.2.1.2 q hq).1) C2 (fun k _ _ => by unfold rTp; omega), G.riA L ok.2.2.1 C3 (fun k => by unfold rTp; omega) (fun k _ => by unfold rTp; omega), G.rtA L C4 (fun a k h1 h2 => by unfold rTp; omega) (fun k z => z), A1, (fr1.i (by unfold rTp; omega)).trans C6, (fr1.i (by unfold rTp; omega)).trans C7⟩
  · rw [if_neg z] at k
    simp (disch := first | assumption | omega | (simp only [ya_pi, ya_pj, ya_pa, ya_pr, yo_pi, yo_pj, yo_pa, yf_pi, yf_pj, yf_pa, yh_pi, yh_pj, yh_pa, yt_pi, yt_pj, yt_pa, la_pi, la_pj, la_pa]; assumption)) only [b_X12_feed_0, b_X12_feed_21, b_X12_feed_18, b_X12_feed_121, b_X12_feed_31, b_X12_feed_41, b_X12_feed_37, b_X12_feed_52, b_X12_feed_48, b_X12_feed_63, b_X12_feed_59, b_X12_feed_75, b_X12_feed_70, i_lit, i_m1, i_31, il_t, il_f, iq_t, iq_f, it_t, it_f, im_e, im_l, im_g, im_g2, nI_add, pk_mul, i_sub, i_div, sdm, i_dec, i_cl, iv_t, bI_or2, bI_t0, bI_one, not_true_eq_false, not_false_eq_true, ↓reduceIte, am_tl, am_tn, am_t0, am_n0, and_true, true_and, List.cons_append, List.nil_append, List.append_nil, e5]
    exact k _ fr0' C0
/-! ===== images ===== -/
def hIh (h : am_H) (o : Nat) : am_H := p_n h 1 5
theorem c_hInit {d : Nat} {Q : Option am_V → am_H → Prop} {h : am_H} {o : Nat} (e : h_n h = o + 1) (c0 : y_c h o 2 4) (k : ∀ h', gf h h' N0 N0 (fun a _ => o ≤ a) → h_n h' = h_n h + 4 → h_s h' = h_s h + 135 → y_House h' o → Q none h') : ex_ (d + 1) 42 0 [some (v_r (some o))] [] h Q := by
  have row : ex_ (d + 1) 42 0 [some (v_r (some o))] [] h Q ↔ ex_ d 26 0 [some (v_r (some (h_n h)))] [] (p_n h 1 5) (fun r h' => ex_ (d + 1) 42 12 [some (v_r (some o))] (r.toList ++ [v_r (some (h_n h)), v_r (some o)]) h' Q) := by
    unfold ex_
    refine (am_Y_go 5 (ok := [¬ (some o) = none]) (g := (9, [some (v_r (some o))], [v_r (some (h_n h)), v_r (some (h_n h)), v_r (some o)], p_n h 1 5)) rfl).trans ?_
    simp only [am_all]
    exact cj_d (fun z => by cases z) ((am_Y_call (j := 26) (na := 1) (ci := 1) (fl := 5) rfl rfl rfl).trans (cj_d ⟨⟨Nat.le_of_ble_eq_true rfl, Nat.le_of_ble_eq_true rfl, Nat.le_of_ble_eq_true rfl, rfl⟩, Or.inr (Or.inr (show (1 : Nat) < 20 ∧ am_is (p_n h 1 5) (some (h_n h)) 1 from ⟨by decide, pn_is⟩))⟩ Iff.rfl))
  rw [row]
  refine c_fInit (o := h_n h) rfl pn_c (fun h1 g1 n1 s1 Y1 => ?_)
  have g0 : gf h (p_n h 1 5) N0 N0 (fun a _ => a = h_n h) := gf_pn
  have g01 := g0.tr g1
  have c1 : y_c h1 o 2 4 := g01.c c0
  have row2 : ex_ (d + 1) 42 12 [some (v_r (some o))] [v_r (some (h_n h)), v_r (some o)] h1 Q ↔ Q none (p_r h1 o 0 (some (h_n h))) := by
    unfold ex_
    refine (am_Y_go 1 (ok := [am_is h1 (some o) 2]) (g := (15, [some (v_r (some o))], [], p_r h1 o 0 (some (h_n h)))) rfl).trans ?_
    simp only [am_all]
    exact cj_d (lr_is c1) ((am_Y_ret rfl rfl rfl).trans (am_rz rfl))
  show ex_ (d + 1) 42 12 [some (v_r (some o))] [v_r (some (h_n h)), v_r (some o)] h1 Q
  rw [row2]
  have gr : gf h1 (p_r h1 o 0 (some (h_n h))) N0 N0 (fun a _ => a = o) := gf_pr rfl
  have Y2 : y_Facts (p_r h1 o 0 (some (h_n h))) (o + 1) := gr.facts (by rw [← e]; exact Y1) (fun k z => by omega)
  refine k _ ((g01.le (fun a k z => z) (fun a k z => z) (fun a k z => by omega)).tr (gr.le (fun a k z => z) (fun a k z => z) (fun a k z => by omega))) ?_ ?_ ⟨fun j t hj => ?_, fun q hq => ?_⟩
  · show h_n h1 = _
    rw [n1]
    show h_n h + 1 + 3 = h_n h + 4
    omega
  · show h_s h1 = _
    rw [s1]
    show h_s h + 5 + 130 = h_s h + 135
    omega
  · match j, hj with
    | 0, hj => cases hj; exact c1
    | 1, hj => cases hj; exact Y2.1 0 rfl
    | 2, hj => cases hj; exact Y2.1 1 rfl
    | 3, hj => cases hj; exact Y2.1 2 rfl
    | 4, hj => cases hj; exact Y2.1 3 rfl
  · have qs : q = (0, 0, 1) ∨ q = (1, 2, 2) ∨ q = (1, 3, 3) ∨ q = (1, 4, 4) := by simpa [y_House_r] using hq
    rcases qs with rfl | rfl | rfl | rfl
    · refine (h_r_pr (a := o) (j := 0)).trans ?_
      rw [if_pos ⟨rfl, rfl⟩, e]
    · exact Y2.2 (0, 2, 1) (by decide)
    · exact Y2.2 (0, 3, 2) (by decide)
    · exact Y2.2 (0, 4, 3) (by decide)
def hP (o a _ : Nat) : Prop := o ≤ a ∧ a < o + 5
def hR (o a k : Nat) : Prop := a = o ∧ (k = 1 ∨ k = 2)
theorem lwA_cp {h h' : am_H} {W : Nat → Nat} {o o' r : Nat} {c : Option (List Nat)} {P J R : Nat → Nat → Prop} (g : gf h h' P J R) (A : lwA h W o r c) (e : h_r h' o' r = h_r h o r) (hp : ∀ a k, 118 ≤ a → W a = 0 → ¬ P a k) : lwA h' W o' r c := by
  cases c with
  | none => exact e.trans A
  | some l =>
    obtain ⟨q, eq, w, A⟩ := A
    exact ⟨q, e.trans eq, w, g.la A (fun k => hp q k w.1 (w.2 0 (by omega)))⟩
theorem c_hCopy {d : Nat} {Q : Option am_V → am_H → Prop} {h : am_H} {W : Nat → Nat} {o o1 : Nat} {H : ho_S} (ok : ho_ok H) (Y : y_House h o) (A : hoA h W o1 H) (hd : o + 5 ≤ o1 ∨ o1 + 5 ≤ o) (hW : ∀ a, o ≤ a → a < o + 5 → 118 ≤ a → ¬ W a = 0) (k : ∀ h', gj h h' (hP o) N0 (hR o) → hoA h' W o H → Q none h') : ex_ (d + 1) 43 0 [some (v_r (some o)), some (v_r (some o1))] [] h Q := by
  obtain ⟨Y1, F1, l1, l2, e3⟩ := A
  have YF : y_Facts h (o + 1) := ⟨fun j t hj => by
      match j, hj with
      | 0, hj => cases hj; exact Y.1 1 rfl
      | 1, hj => cases hj; exact Y.1 2 rfl
      | 2, hj => cases hj; exact Y.1 3 rfl
      | 3, hj => cases hj; exact Y.1 4 rfl, fun q hq => by
      have qs : q = (0, 2, 1) ∨ q = (0, 3, 2) ∨ q = (0, 4, 3) := by simpa [y_Facts_r] using hq
      rcases qs with rfl | rfl | rfl
      · exact Y.2 (1, 2, 2) (by decide)
      · exact Y.2 (1, 3, 3) (by decide)
      · exact Y.2 (1, 4, 4) (by decide)⟩
  rw [b_X2_copyFrom_0 h o o1 Y Y1]
  refine c_copyFrom ok.1.1.1 YF F1 (by omega) (fun h1 fr1 F2 => ?_)
  have Y' := fr1.house Y
  have Y1' := fr1.house Y1
  have c0 : o < h_n h := (Y.1 0 rfl).1
  have c01 : o1 < h_n h := (Y1.1 0 rfl).1
  show ex_ (d + 1) 43 11 [some (v_r (some o)), some (v_r (some o1))] [] h1 Q
  rw [b_X2_copyFrom_11 h1 o o1 Y' Y1']
  have r2 : h_r (p_r h1 o 1 (h_r h1 o1 1)) o1 2 = h_r h1 o1 2 := by rw [h_r_pr, if_neg (by omega)]
  rw [r2]
  have g2 : gj h1 (p_i (p_r (p_r h1 o 1 (h_r h1 o1 1)) o 2 (h_r h1 o1 2)) o 3 (h_i h1 o1 3)) (hP o) N0 (hR o) := ((gj_pr (by unfold hR; omega)).tr (gj_pr (by unfold hR; omega))).tr (gj_pi (by unfold hP; omega))
  have g1 : gj h h1 (hP o) N0 (hR o) := (fr1.le (fun a k z => by unfold fa_P at z; unfold hP; omega)).gj
  have hp0 : ∀ a k, 118 ≤ a → W a = 0 → ¬ hP o a k := fun a k h1 h2 z => hW a z.1 z.2 h1 h2
  refine k _ (g1.tr g2) ⟨g2.2.house Y' (by unfold hR; omega) (fun k => by unfold hR; omega), ?_, ?_, ?_, ?_⟩
  · have g3 : gf h1 (p_i (p_r (p_r h1 o 1 (h_r h1 o1 1)) o 2 (h_r h1 o1 2)) o 3 (h_i h1 o1 3)) (fun a _ => a = o) N0 (hR o) := ((gf_pr (by unfold hR; omega)).tr (gf_pr (by unfold hR; omega))).tr (gf_pi rfl)
    exact g3.fa (fa_len ok.1.1) F2 (fun a k h1 h2 => by omega) (fun k => by unfold hR; omega)
  · refine lwA_cp (g1.tr g2).2 l1 ?_ hp0
    show h_r (p_r (p_r h1 o 1 (h_r h1 o1 1)) o 2 (h_r h1 o1 2)) o 1 = _
    rw [h_r_pr, if_neg (by omega), h_r_pr, if_pos ⟨rfl, rfl⟩, fr1.r]
  · refine lwA_cp (g1.tr g2).2 l2 ?_ hp0
    show h_r (p_r (p_r h1 o 1 (h_r h1 o1 1)) o 2 (h_r h1 o1 2)) o 2 = _
    rw [h_r_pr, if_pos ⟨rfl, rfl⟩, fr1.r]
  · rw [hi_s, fr1.i (by unfold fa_P; omega)]
    exact e3
def setI (S : St) (i : Nat) : St := (S.1, S.2.1, fun k => if k = i then some S.1 else s_i S k, S.2.2.2)
def t_image (S : St) (x : Int32) : Int32 × St := if ¬ x < 0 ∧ x < nI 2 then (nI 0, setI S x.toNatClampNeg) else (-2, S)
theorem iw_cs (x : Int32) : (∃ t, t < 2 ∧ x = nI t) ∨ ¬ (¬ x < 0 ∧ x < nI 2) := by
  by_cases h : x < 0
  · exact Or.inr (fun z => z.1 h)
  · obtain ⟨n, hn, rfl⟩ := nI_of h
    by_cases z : n < 2
    · exact Or.inl ⟨n, z, rfl⟩
    · exact Or.inr (fun w => z ((nI_ltI hn (by omega)).1 w.2))
theorem y_ref84 : ∀ q ∈ y_ref, ¬ q.1 = 84 := by decide
/-- the image i is new: nothing else is touched -/
theorem cI.image {h h' : am_H} {S : St} {W W' : Nat → Nat} {e i o : Nat} (ok : St_ok S) (C : cI h S) (hi : i < 2) (C1 : hoA h W 10 (s_H S)) (C2 : paA h W e (s_p S)) (C3 : imA h W (s_i S)) (hW : ∀ a, a < h_n h → W' a = W a) (g : gf h h' (fun a _ => 118 ≤ a ∧ W' a = 11 + i) N0 (fun a k => (a = 84 ∧ k = i) ∨ (118 ≤ a ∧ W' a = 11 + i))) (er : h_r h' 84 i = some o) (w : ow W' o 5 (11 + i)) (A : hoA h' W' o (s_H S)) : cI h' (setI S i) := by
  obtain ⟨L, O, -, C4, C5, C6, C7, C8⟩ := C
  have hf := ok.1.1.1
  have L' : Lay h' := g.lay (fun q hq z => by
    have h1 := y_ref_lt q hq
    have h2 : ¬ q.1 = 84 := y_ref84 q hq
    rcases z with z | z
    · exact h2 z.1
    · omega) L
  refine ⟨L', g.or O (fT_l11 hf.1) (fun c hc => ⟨by omega, by omega, fun k hk => by omega⟩) (fun k => by omega), ⟨W', e, g.hoA ok.1 (C1.ext hW) (fun a k h1 h2 => by omega) (fun a k h1 h2 => by omega) (fun a k h1 h2 => by omega), g.paA L (fun q hq => (ok.2.1.2 q hq).1) (C2.ext hW) (by omega) (by omega) (fun k => by omega) (fun a k h1 h2 h3 => ⟨by omega, by omega⟩), fun j hj => ?_⟩, g.tyA L C4 (fun a k h1 h2 => by omega) (fun _ _ _ _ z => z), g.tpA L C5 (by omega) (fun k => by omega), ⟨(g.i (la_n L (by omega)) (by omega)).trans C6.1, (g.i (la_n L (by omega)) (by omega)).trans C6.2⟩, g.mnA L C7 (fun k _ _ => by omega) (fun k => by omega), g.ltA L C8 (fun k _ => by omega)⟩
  show match (if j = i then some S.1 else s_i S j) with
    | none => h_r h' 84 j = none
    | some H => ∃ o, h_r h' 84 j = some o ∧ ow W' o 5 (11 + j) ∧ hoA h' W' o H
  by_cases z : j = i
  · rw [if_pos z, z]
    exact ⟨o, er, w, A⟩
  · rw [if_neg z]
    have B := (C3.ext hW) j hj
    cases y : s_i S j with
    | none =>
      rw [y] at B
      exact (g.r (la_n L (by omega)) (by omega)).trans B
    | some H =>
      rw [y] at B
      obtain ⟨q, eq, wq, Bq⟩ := B
      have w0 : ∀ a, q ≤ a → a < q + 5 → W' a = 11 + j := fun a h1 h2 => by
        have := wq.2 (a - q) (by omega)
        rwa [Nat.add_sub_cancel' h1] at this
      have q1 := wq.1
      exact ⟨q, (g.r (la_n L (by omega)) (by omega)).trans eq, wq, g.hoA (ok.2.2.1 j H y) Bq (fun a k h1 h2 => by have := w0 a h1 (by omega); omega) (fun a k h1 h2 => by omega) (fun a k h1 h2 => by have := w0 a h1 h2; omega)⟩
theorem c_image {d : Nat} {Q : Option am_V → am_H → Prop} {h : am_H} {S : St} {x : Int32} (ok : St_ok S) (C : cI h S) (k : ∀ h', gC h h' → cI h' (t_image S x).2 → Q (some (v_i (t_image S x).1)) h') : ex_ (d + 2) 226 0 [some (v_r (some 0)), some (v_i x)] [] h Q := by
  have L := C.1
  have n118 := L.1
  unfold t_image at k
  rcases iw_cs x with ⟨i, hi, rfl⟩ | hx
  · rw [if_pos ⟨nI_pos (by omega), nI_lt hi (by omega)⟩, nI_clamp (by omega)] at k
    have C' := C
    obtain ⟨-, -, ⟨W, e, C1, C2, C3⟩, -⟩ := C'
    have B := C3 i hi
    cases y : s_i S i with
    | none =>
      rw [y] at B
      have B' : h_r h 84 i = none := B
      simp (disch := first | assumption | omega | (simp only [ya_pi, ya_pj, ya_pa, ya_pr, yo_pi, yo_pj, yo_pa, yf_pi, yf_pj, yf_pa, yh_pi, yh_pj, yh_pa, yt_pi, yt_pj, yt_pa, la_pi, la_pj, la_pa]; assumption)) only [b_X11_image_0, b_X11_image_4, b_X11_image_12, i_lit, i_m1, i_31, il_t, il_f, iq_t, iq_f, it_t, it_f, im_e, im_l, im_g, im_g2, nI_add, pk_mul, i_sub, i_div, sdm, i_dec, i_cl, iv_t, bI_or2, bI_t0, bI_one, not_true_eq_false, not_false_eq_true, ↓reduceIte, am_tl, am_tn, am_t0, am_n0, and_true, true_and, List.cons_append, List.nil_append, List.append_nil, B']
      rw [b_X11_image_21 _ _ L]
      refine c_hInit (o := h_n h) rfl pn_c (fun h1 g1 n1 s1 Y1 => ?_)
      have g01 : gf h h1 N0 N0 (fun a _ => h_n h ≤ a) := gf_pn.tr g1
      have L1 : Lay h1 := g01.lay (fun q hq z => by
        have := y_ref_lt q hq
        omega) L
      have A84 : y_arr h1 84 32 2 := la_y L1 rfl
      have cis : am_is h1 (some (h_n h)) 2 := lr_is (Y1.1 0 rfl)
      have r0 : h_r (p_r h1 84 i (some (h_n h))) 0 18 = some 84 := by
        rw [h_r_pr, if_neg (by omega)]
        exact la_r L1 (q := (0, 18, 84)) (by decide)
      have gr : gf h1 (p_r h1 84 i (some (h_n h))) N0 N0 (fun a k => a = 84 ∧ k = i) := gf_pr ⟨rfl, rfl⟩
      have L2 : Lay (p_r h1 84 i (some (h_n h))) := gr.lay (fun q hq z => y_ref84 q hq z.1) L1
      have A842 : y_arr (p_r h1 84 i (some (h_n h))) 84 32 2 := A84
      have Y2 : y_House (p_r h1 84 i (some (h_n h))) (h_n h) := gr.house Y1 (by omega) (fun k => by omega)
      have Y10 := or_y L2
      have r1 : h_r (p_r h1 84 i (some (h_n h))) 84 i = some (h_n h) := by rw [h_r_pr, if_pos ⟨rfl, rfl⟩]
      have g02 : gf h (p_r h1 84 i (some (h_n h))) N0 N0 (fun a k => (a = 84 ∧ k = i) ∨ h_n h ≤ a) := (g01.le (fun a k z => z) (fun a k z => z) (fun a k z => Or.inr z)).tr (gr.le (fun a k z => z) (fun a k z => z) (fun a k z => Or.inl z))
      have hW : ∀ a, a < h_n h → (fun a => if a < h_n h then W a else 11 + i) a = W a := fun a ha => if_pos ha
      have H2 : hoA (p_r h1 84 i (some (h_n h))) (fun a => if a < h_n h then W a else 11 + i) 10 (s_H S) := g02.hoA ok.1 (C1.ext hW) (fun a k h1 h2 => by omega) (fun _ _ _ _ z => z) (fun _ _ _ _ z => z)
      simp (disch := first | assumption | omega | (simp only [ya_pi, ya_pj, ya_pa, ya_pr, yo_pi, yo_pj, yo_pa, yf_pi, yf_pj, yf_pa, yh_pi, yh_pj, yh_pa, yt_pi, yt_pj, yt_pa, la_pi, la_pj, la_pa]; assumption)) only [b_X11_image_0, b_X11_image_9, b_X11_image_4, b_X11_image_12, b_X11_image_21, b_X11_image_34, b_X11_image_33, b_X11_image_44, b_X11_image_39, b_X11_image_47, i_lit, i_m1, i_31, il_t, il_f, iq_t, iq_f, it_t, it_f, im_e, im_l, im_g, im_g2, nI_add, pk_mul, i_sub, i_div, sdm, i_dec, i_cl, iv_t, bI_or2, bI_t0, bI_one, not_true_eq_false, not_false_eq_true, ↓reduceIte, am_tl, am_tn, am_t0, am_n0, and_true, true_and, List.cons_append, List.nil_append, List.append_nil, cis, r0, r1]
      refine c_hCopy ok.1 Y2 H2 (by omega) (fun a h1 h2 h3 => by rw [if_neg (by omega)]; omega) (fun h3 g3 A3 => ?_)
      simp (disch := first | assumption | omega | (simp only [ya_pi, ya_pj, ya_pa, ya_pr, yo_pi, yo_pj, yo_pa, yf_pi, yf_pj, yf_pa, yh_pi, yh_pj, yh_pa, yt_pi, yt_pj, yt_pa, la_pi, la_pj, la_pa]; assumption)) only [b_X11_image_0, b_X11_image_9, b_X11_image_4, b_X11_image_12, b_X11_image_21, b_X11_image_34, b_X11_image_33, b_X11_image_44, b_X11_image_39, b_X11_image_47, i_lit, i_m1, i_31, il_t, il_f, iq_t, iq_f, it_t, it_f, im_e, im_l, im_g, im_g2, nI_add, pk_mul, i_sub, i_div, sdm, i_dec, i_cl, iv_t, bI_or2, bI_t0, bI_one, not_true_eq_false, not_false_eq_true, ↓reduceIte, am_tl, am_tn, am_t0, am_n0, and_true, true_and, List.cons_append, List.nil_append, List.append_nil]
      have G : gf h h3 (fun a _ => 118 ≤ a ∧ (fun a => if a < h_n h then W a else 11 + i) a = 11 + i) N0 (fun a k => (a = 84 ∧ k = i) ∨ (118 ≤ a ∧ (fun a => if a < h_n h then W a else 11 + i) a = 11 + i)) := by
        have := (g02.le (P' := hP (h_n h)) (fun a k z => z.elim) (fun a k z => z) (R' := fun a k => (a = 84 ∧ k = i) ∨ h_n h ≤ a) (fun a k z => z)).tr (g3.2.le (fun a k z => z) (fun a k z => z) (fun a k z => Or.inr (by unfold hR at z; omega)))
        refine ⟨this.1, this.2.1, this.2.2.1, fun a k ha hp => this.i ha (by unfold hP; omega), this.2.2.2.2.1, fun a k ha hp => this.r ha (fun z => ?_)⟩
        rcases z with z | z
        · exact hp (Or.inl z)
        · omega
      refine k h3 ⟨G.le (fun a k z => Or.inr z.1) (fun a k z => z.elim) (fun a k z => by unfold pC; omega), ?_, ?_⟩ (C.image ok hi C1 C2 C3 hW G ?_ ⟨by omega, fun j hj => if_neg (by omega)⟩ A3)
      · have : h_n h3 = h_n h1 := congrArg Prod.fst g3.1
        have q : h_n (p_n h 2 4) = h_n h + 1 := rfl
        omega
      · have : h_s h3 = h_s h1 := congrArg Prod.snd g3.1
        have q : h_s (p_n h 2 4) = h_s h + 4 := rfl
        omega
      · rw [g3.r (la_n L2 (by omega)) (by unfold hR; omega)]
        exact r1
    | some H =>
      rw [y] at B
      obtain ⟨o, eo, wo, Ao⟩ := B
      have w0 : ∀ a, o ≤ a → a < o + 5 → W a = 11 + i := fun a h1 h2 => by
        have := wo.2 (a - o) (by omega)
        rwa [Nat.add_sub_cancel' h1] at this
      have o118 := wo.1
      have Yo := Ao.1
      have Y10 := or_y L
      simp (disch := first | assumption | omega | (simp only [ya_pi, ya_pj, ya_pa, ya_pr, yo_pi, yo_pj, yo_pa, yf_pi, yf_pj, yf_pa, yh_pi, yh_pj, yh_pa, yt_pi, yt_pj, yt_pa, la_pi, la_pj, la_pa]; assumption)) only [b_X11_image_0, b_X11_image_9, b_X11_image_4, b_X11_image_12, b_X11_image_21, b_X11_image_34, b_X11_image_33, b_X11_image_44, b_X11_image_39, b_X11_image_47, i_lit, i_m1, i_31, il_t, il_f, iq_t, iq_f, it_t, it_f, im_e, im_l, im_g, im_g2, nI_add, pk_mul, i_sub, i_div, sdm, i_dec, i_cl, iv_t, bI_or2, bI_t0, bI_one, not_true_eq_false, not_false_eq_true, ↓reduceIte, am_tl, am_tn, am_t0, am_n0, and_true, true_and, List.cons_append, List.nil_append, List.append_nil, eo, reduceCtorEq]
      refine c_hCopy ok.1 Yo C1 (by omega) (fun a h1 h2 h3 => by rw [w0 a h1 h2]; omega) (fun h3 g3 A3 => ?_)
      simp (disch := first | assumption | omega | (simp only [ya_pi, ya_pj, ya_pa, ya_pr, yo_pi, yo_pj, yo_pa, yf_pi, yf_pj, yf_pa, yh_pi, yh_pj, yh_pa, yt_pi, yt_pj, yt_pa, la_pi, la_pj, la_pa]; assumption)) only [b_X11_image_0, b_X11_image_9, b_X11_image_4, b_X11_image_12, b_X11_image_21, b_X11_image_34, b_X11_image_33, b_X11_image_44, b_X11_image_39, b_X11_image_47, i_lit, i_m1, i_31, il_t, il_f, iq_t, iq_f, it_t, it_f, im_e, im_l, im_g, im_g2, nI_add, pk_mul, i_sub, i_div, sdm, i_dec, i_cl, iv_t, bI_or2, bI_t0, bI_one, not_true_eq_false, not_false_eq_true, ↓reduceIte, am_tl, am_tn, am_t0, am_n0, and_true, true_and, List.cons_append, List.nil_append, List.append_nil]
      have G : gf h h3 (fun a _ => 118 ≤ a ∧ W a = 11 + i) N0 (fun a k => (a = 84 ∧ k = i) ∨ (118 ≤ a ∧ W a = 11 + i)) := g3.2.le (fun a k z => ⟨by unfold hP at z; omega, w0 a z.1 z.2⟩) (fun a k z => z) (fun a k z => Or.inr ⟨by unfold hR at z; omega, w0 a (by unfold hR at z; omega) (by unfold hR at z; omega)⟩)
      refine k h3 (gC.gj g3 (fun a k z => by unfold hP at z; unfold pC; omega) (fun a k z => z.elim) (fun a k z => by unfold hR at z; unfold pC; omega)) (C.image ok hi C1 C2 C3 (fun _ _ => rfl) G ?_ wo A3)
      rw [g3.r (la_n L (by omega)) (by unfold hR; omega)]
      exact eo
  · rw [if_neg hx] at k
    by_cases z : x < nI 0
    · simp (disch := first | assumption | omega | (simp only [ya_pi, ya_pj, ya_pa, ya_pr, yo_pi, yo_pj, yo_pa, yf_pi, yf_pj, yf_pa, yh_pi, yh_pj, yh_pa, yt_pi, yt_pj, yt_pa, la_pi, la_pj, la_pa]; assumption)) only [b_X11_image_0, b_X11_image_9, b_X11_image_4, b_X11_image_12, b_X11_image_21, b_X11_image_34, b_X11_image_33, b_X11_image_44, b_X11_image_39, b_X11_image_47, i_lit, i_m1, i_31, il_t, il_f, iq_t, iq_f, it_t, it_f, im_e, im_l, im_g, im_g2, nI_add, pk_mul, i_sub, i_div, sdm, i_dec, i_cl, iv_t, bI_or2, bI_t0, bI_one, not_true_eq_false, not_false_eq_true, ↓reduceIte, am_tl, am_tn, am_t0, am_n0, and_true, true_and, List.cons_append, List.nil_append, List.append_nil, z]
      exact k h gC.rf C
    · have z2 : ¬ x < nI 2 := fun w => hx ⟨z, w⟩
      simp (disch := first | assumption | omega | (simp only [ya_pi, ya_pj, ya_pa, ya_pr, yo_pi, yo_pj, yo_pa, yf_pi, yf_pj, yf_pa, yh_pi, yh_pj, yh_pa, yt_pi, yt_pj, yt_pa, la_pi, la_pj, la_pa]; assumption)) only [b_X11_image_0, b_X11_image_9, b_X11_image_4, b_X11_image_12, b_X11_image_21, b_X11_image_34, b_X11_image_33, b_X11_image_44, b_X11_image_39, b_X11_image_47, i_lit, i_m1, i_31, il_t, il_f, iq_t, iq_f, it_t, it_f, im_e, im_l, im_g, im_g2, nI_add, pk_mul, i_sub, i_div, sdm, i_dec, i_cl, iv_t, bI_or2, bI_t0, bI_one, not_true_eq_false, not_false_eq_true, ↓reduceIte, am_tl, am_tn, am_t0, am_n0, and_true, true_and, List.cons_append, List.nil_append, List.append_nil, z, z2]
      exact k h gC.rf C
theorem y_ref10 : ∀ q ∈ y_ref, ¬ (q.1 = 10 ∧ (q.2.1 = 1 ∨ q.2.1 = 2)) := by decide
def setR (S : St) (H : ho_S) : St := (H, [], S.2.2)
def t_restore (S : St) (x : Int32) : Int32 × St := if ¬ x < 0 ∧ x < nI 2 then (match s_i S x.toNatClampNeg with
  | some H => (nI 0, setR S H)
  | none => (-5, S)) else (-2, S)
theorem c_restore {d : Nat} {Q : Option am_V → am_H → Prop} {h : am_H} {S : St} {x : Int32} (ok : St_ok S) (C : cI h S) (k : ∀ h', gC h h' → cI h' (t_restore S x).2 → Q (some (v_i (t_restore S x).1)) h') : ex_ (d + 5) 227 0 [some (v_r (some 0)), some (v_i x)] [] h Q := by
  have L := C.1
  unfold t_restore at k
  rcases iw_cs x with ⟨i, hi, rfl⟩ | hx
  · rw [if_pos ⟨nI_pos (by omega), nI_lt hi (by omega)⟩, nI_clamp (by omega)] at k
    have C' := C
    obtain ⟨-, -, ⟨W, e, C1, C2, C3⟩, C4, C5, C6, -, -⟩ := C'
    have B := C3 i hi
    cases y : s_i S i with
    | none =>
      rw [y] at B k
      have B' : h_r h 84 i = none := B
      simp (disch := first | assumption | omega | (simp only [ya_pi, ya_pj, ya_pa, ya_pr, yo_pi, yo_pj, yo_pa, yf_pi, yf_pj, yf_pa, yh_pi, yh_pj, yh_pa, yt_pi, yt_pj, yt_pa, la_pi, la_pj, la_pa]; assumption)) only [b_X11_restore_0, b_X11_restore_9, b_X11_restore_4, b_X11_restore_12, b_X11_restore_21, b_X11_restore_24, b_X11_restore_37, b_X11_restore_44, b_X11_restore_48, i_lit, i_m1, i_31, il_t, il_f, iq_t, iq_f, it_t, it_f, im_e, im_l, im_g, im_g2, nI_add, pk_mul, i_sub, i_div, sdm, i_dec, i_cl, iv_t, bI_or2, bI_t0, bI_one, not_true_eq_false, not_false_eq_true, ↓reduceIte, am_tl, am_tn, am_t0, am_n0, and_true, true_and, List.cons_append, List.nil_append, List.append_nil, B']
      exact k h gC.rf C
    | some H =>
      rw [y] at B k
      have okH := ok.2.2.1 i H y
      obtain ⟨o, eo, wo, Ao⟩ := B
      have o118 := wo.1
      have Yo := Ao.1
      have Y10 := or_y L
      simp (disch := first | assumption | omega | (simp only [ya_pi, ya_pj, ya_pa, ya_pr, yo_pi, yo_pj, yo_pa, yf_pi, yf_pj, yf_pa, yh_pi, yh_pj, yh_pa, yt_pi, yt_pj, yt_pa, la_pi, la_pj, la_pa]; assumption)) only [b_X11_restore_0, b_X11_restore_9, b_X11_restore_4, b_X11_restore_12, b_X11_restore_21, b_X11_restore_24, b_X11_restore_37, b_X11_restore_44, b_X11_restore_48, i_lit, i_m1, i_31, il_t, il_f, iq_t, iq_f, it_t, it_f, im_e, im_l, im_g, im_g2, nI_add, pk_mul, i_sub, i_div, sdm, i_dec, i_cl, iv_t, bI_or2, bI_t0, bI_one, not_true_eq_false, not_false_eq_true, ↓reduceIte, am_tl, am_tn, am_t0, am_n0, and_true, true_and, List.cons_append, List.nil_append, List.append_nil, eo, reduceCtorEq]
      refine c_hCopy okH Y10 Ao (by omega) (fun a h1 h2 h3 => by omega) (fun h1 g1 A1 => ?_)
      have L1 : Lay h1 := g1.2.lay (fun q hq z => by
        exact y_ref10 q hq z) L
      simp (disch := first | assumption | omega | (simp only [ya_pi, ya_pj, ya_pa, ya_pr, yo_pi, yo_pj, yo_pa, yf_pi, yf_pj, yf_pa, yh_pi, yh_pj, yh_pa, yt_pi, yt_pj, yt_pa, la_pi, la_pj, la_pa]; assumption)) only [b_X11_restore_0, b_X11_restore_9, b_X11_restore_4, b_X11_restore_12, b_X11_restore_21, b_X11_restore_24, b_X11_restore_37, b_X11_restore_44, b_X11_restore_48, b_X7_forget_0, i_lit, i_m1, i_31, il_t, il_f, iq_t, iq_f, it_t, it_f, im_e, im_l, im_g, im_g2, nI_add, pk_mul, i_sub, i_div, sdm, i_dec, i_cl, iv_t, bI_or2, bI_t0, bI_one, not_true_eq_false, not_false_eq_true, ↓reduceIte, am_tl, am_tn, am_t0, am_n0, and_true, true_and, List.cons_append, List.nil_append, List.append_nil]
      have fr2 : am_fr h1 (p_i h1 25 2 (nI 0)) (fun a k => a = 25 ∧ k = 2) := am_fr_pi ⟨rfl, rfl⟩
      have L2 := fr2.lay L1
      have gdH : fa_gd H.1 := okH.1.1
      have F2 : fa_at (p_i h1 25 2 (nI 0)) 11 H.1 := fr2.fa A1.2.1 (fun a k h1 h2 z => by omega)
      refine c_settleAgain L2 gdH.1 F2 (y_O L2) (fun h3 fr3 O3 M3 T3 => ?_)
      simp (disch := first | assumption | omega | (simp only [ya_pi, ya_pj, ya_pa, ya_pr, yo_pi, yo_pj, yo_pa, yf_pi, yf_pj, yf_pa, yh_pi, yh_pj, yh_pa, yt_pi, yt_pj, yt_pa, la_pi, la_pj, la_pa]; assumption)) only [b_X11_restore_0, b_X11_restore_9, b_X11_restore_4, b_X11_restore_12, b_X11_restore_21, b_X11_restore_24, b_X11_restore_37, b_X11_restore_44, b_X11_restore_48, i_lit, i_m1, i_31, il_t, il_f, iq_t, iq_f, it_t, it_f, im_e, im_l, im_g, im_g2, nI_add, pk_mul, i_sub, i_div, sdm, i_dec, i_cl, iv_t, bI_or2, bI_t0, bI_one, not_true_eq_false, not_false_eq_true, ↓reduceIte, am_tl, am_tn, am_t0, am_n0, and_true, true_and, List.cons_append, List.nil_append, List.append_nil]
      have fr13 : am_fr h1 h3 (fun a k => (a = 25 ∧ k = 2) ∨ sP a k) := (fr2.le (fun a k z => Or.inl z)).tr (fr3.le (fun a k z => Or.inr z))
      have L3 := fr13.lay L1
      have G3 : gf h1 h3 (fun a k => (a = 25 ∧ k = 2) ∨ sP a k) N0 N0 := fr13.g
      have G : gf h h3 (fun a k => hP 10 a k ∨ (a = 25 ∧ k = 2) ∨ sP a k) N0 (hR 10) := (g1.2.le (fun a k z => Or.inl z) (fun a k z => z) (fun a k z => z)).tr (G3.le (fun a k z => Or.inr z) (fun a k z => z) (fun a k z => z.elim))
      have G1 : gf h h1 (hP 10) N0 (hR 10) := g1.2
      have C2' : paA h1 W e (s_p S) := G1.paA L (fun q hq => (ok.2.1.2 q hq).1) C2 (by unfold hP; omega) (by unfold hP; omega) (fun k => by unfold hR; omega) (fun a k h1 h2 h3 => ⟨by unfold hP; omega, by unfold hR; omega⟩)
      have C3' : imA h1 W (s_i S) := G1.imA L ok.2.2.1 C3 (fun k => by unfold hR; omega) (fun a k h1 h2 => by unfold hP; omega) (fun a k h1 h2 h3 => ⟨by unfold hP; omega, by unfold hR; omega⟩)
      refine k h3 ⟨G.le (fun a k z => by unfold hP sP at z; unfold pC; omega) (fun a k z => z.elim) (fun a k z => by unfold hR at z; unfold pC; omega), ?_, ?_⟩ ⟨L3, O3, ⟨W, e, G3.hoA okH A1 (fun _ _ _ _ z => z) (fun a k h1 h2 => by unfold sP; omega) (fun a k h1 h2 => by unfold sP; omega), ⟨?_, C2'.2.1, ?_, fun j hj => ?_, fun j hj => absurd hj (Nat.not_lt_zero _)⟩, G3.imA L1 ok.2.2.1 C3' (fun k z => z) (fun a k h1 h2 => by unfold sP; omega) (fun a k h1 h2 h3 => ⟨by unfold sP; omega, fun z => z⟩)⟩, G.tyA L C4 (fun a k h1 h2 => by unfold hP sP; omega) (fun _ _ _ _ z => z), G.tpA L C5 (by unfold hP sP; omega) (fun k => by unfold hP sP; omega), ⟨(G.i (la_n L (by omega)) (by unfold hP sP; omega)).trans C6.1, (G.i (la_n L (by omega)) (by unfold hP sP; omega)).trans C6.2⟩, M3, T3⟩
      · have n1 : h_n h1 = h_n h := congrArg Prod.fst g1.1
        have n3 := fr13.n
        omega
      · have s1 : h_s h1 = h_s h := congrArg Prod.snd g1.1
        have s3 : h_s h3 = h_s h1 := congrArg Prod.snd fr13.1
        omega
      · rw [fr13.i (by unfold sP; omega)]
        exact C2'.1
      · rw [fr3.i (by unfold sP; omega), hi_s]
        rfl
      · rw [fr13.r]
        rcases C2'.2.2.2.1 j hj with z | ⟨q, z, Yq, wq⟩
        · exact Or.inl z
        · exact Or.inr ⟨q, z, fr13.facts Yq, wq⟩
  · rw [if_neg hx] at k
    by_cases z : x < nI 0
    · simp (disch := first | assumption | omega | (simp only [ya_pi, ya_pj, ya_pa, ya_pr, yo_pi, yo_pj, yo_pa, yf_pi, yf_pj, yf_pa, yh_pi, yh_pj, yh_pa, yt_pi, yt_pj, yt_pa, la_pi, la_pj, la_pa]; assumption)) only [b_X11_restore_0, b_X11_restore_9, b_X11_restore_4, b_X11_restore_12, b_X11_restore_21, b_X11_restore_24, b_X11_restore_37, b_X11_restore_44, b_X11_restore_48, i_lit, i_m1, i_31, il_t, il_f, iq_t, iq_f, it_t, it_f, im_e, im_l, im_g, im_g2, nI_add, pk_mul, i_sub, i_div, sdm, i_dec, i_cl, iv_t, bI_or2, bI_t0, bI_one, not_true_eq_false, not_false_eq_true, ↓reduceIte, am_tl, am_tn, am_t0, am_n0, and_true, true_and, List.cons_append, List.nil_append, List.append_nil, z]
      exact k h gC.rf C
    · have z2 : ¬ x < nI 2 := fun w => hx ⟨z, w⟩
      simp (disch := first | assumption | omega | (simp only [ya_pi, ya_pj, ya_pa, ya_pr, yo_pi, yo_pj, yo_pa, yf_pi, yf_pj, yf_pa, yh_pi, yh_pj, yh_pa, yt_pi, yt_pj, yt_pa, la_pi, la_pj, la_pa]; assumption)) only [b_X11_restore_0, b_X11_restore_9, b_X11_restore_4, b_X11_restore_12, b_X11_restore_21, b_X11_restore_24, b_X11_restore_37, b_X11_restore_44, b_X11_restore_48, i_lit, i_m1, i_31, il_t, il_f, iq_t, iq_f, it_t, it_f, im_e, im_l, im_g, im_g2, nI_add, pk_mul, i_sub, i_div, sdm, i_dec, i_cl, iv_t, bI_or2, bI_t0, bI_one, not_true_eq_false, not_false_eq_true, ↓reduceIte, am_tl, am_tn, am_t0, am_n0, and_true, true_and, List.cons_append, List.nil_append, List.append_nil, z, z2]
      exact k h gC.rf C
/-! images of the reference -/
theorem rsb_cp {h h' : am_H} {b b' law : Nat} {o : Option (List Nat)} (A : rsb h b law o) (hl : law < 2) (e : ∀ k, k < 139 ∨ (1451 ≤ k ∧ k < 2351) → h_i h' 94 (b' + k) = h_i h 94 (b + k)) : rsb h' b' law o := by
  cases o with
  | none => exact (e _ (by omega)).trans A
  | some l =>
    obtain ⟨e1, s, hs, e2, e3, e4⟩ := A
    exact ⟨(e _ (by omega)).trans e1, s, hs, (e _ (by omega)).trans e2, (e _ (by omega)).trans e3, fun k hk => (e _ (by omega)).trans (e4 k hk)⟩
theorem rhA_cp {h h' : am_H} {b b' : Nat} {H : ho_S} (ok : ho_ok H) (A : rhA h b H) (e : ∀ k, k < 139 ∨ (1451 ≤ k ∧ k < 2351) → h_i h' 94 (b' + k) = h_i h 94 (b + k)) : rhA h' b' H := by
  obtain ⟨e0, e1, F, l0, l1⟩ := A
  refine ⟨(e 0 (by omega)).trans e0, (e 1 (by omega)).trans e1, fb_cp (fa_len ok.1.1) F (fun k hk => ?_), rsb_cp l0 (by omega) e, rsb_cp l1 (by omega) e⟩
  rw [Nat.add_assoc, Nat.add_assoc]
  exact e (8 + k) (by omega)
def rIm (a k : Nat) : Prop := a = 94 ∨ a = 95 ∨ (a = 93 ∧ k = 0)
theorem w1 {v : Int64} : (v < lN 0 ∨ lN 1 < v) = ¬ lh 2 v := w_iff (n := 2) (by omega) (v := v)
theorem c_rImage {d : Nat} {Q : Option am_V → am_H → Prop} {h : am_H} {S : St} {x : Int32} {l2 : Option am_V} (ok : St_ok S) (C : rI h S) (k : ∀ h', am_fr h h' rIm → rI h' (t_image S x).2 → Q (some (v_i (t_image S x).1)) h') : ex_ (d + 1) 372 0 [some (v_r (some 93)), some (v_i x), l2] [] h Q := by
  have fr0 : am_fr h (p_i h 93 0 (nI 0)) rS := am_fr_pi (by unfold rS; omega)
  have fr0' : am_fr h (p_i h 93 0 (nI 0)) rIm := am_fr_pi (by unfold rIm; omega)
  have L := C.1
  have C0 := C.q ok fr0
  have L0 := C0.1
  unfold t_image at k
  rcases iw_cs x with ⟨i, hi, rfl⟩ | hx
  · rw [if_pos ⟨nI_pos (by omega), nI_lt hi (by omega)⟩, nI_clamp (by omega)] at k
    simp (disch := first | assumption | omega | (simp only [ya_pi, ya_pj, ya_pa, ya_pr, yo_pi, yo_pj, yo_pa, yf_pi, yf_pj, yf_pa, yh_pi, yh_pj, yh_pa, yt_pi, yt_pj, yt_pa, la_pi, la_pj, la_pa]; assumption)) only [b_X12_image_0, b_X12_image_12, b_X12_image_18, b_X12_image_15, b_X12_image_53, b_X12_image_27, i_lit, i_m1, i_31, il_t, il_f, iq_t, iq_f, it_t, it_f, im_e, im_l, im_g, im_g2, nI_add, pk_mul, i_sub, i_div, sdm, i_dec, i_cl, iv_t, bI_or2, bI_t0, bI_one, not_true_eq_false, not_false_eq_true, ↓reduceIte, am_tl, am_tn, am_t0, am_n0, and_true, true_and, List.cons_append, List.nil_append, List.append_nil, nI_l, l_lit, c_within_y]
    generalize p_i h 93 0 (nI 0) = h0 at C0 L0 fr0'
    refine lp_up 2351 (fun j (_ : Unit) => [some (v_r (some 93)), some (v_i (nI i)), some (v_i (nI j))]) (fun j _ h' => am_fr h0 h' (fun a k => a = 94 ∧ 2351 * (i + 1) ≤ k ∧ k < 2351 * (i + 1) + 2351) ∧ ∀ m, m < j → h_i h' 94 (2351 * (i + 1) + m) = h_i h0 94 m) ?_ ?_ (Nat.zero_le _) ⟨am_fr.rf, fun j hj => absurd hj (Nat.not_lt_zero _)⟩ (s := ())
    · rintro j - h1 hj ⟨fr1, e1⟩ nxt
      have L1 := fr1.lay L0
      have ej : h_i h1 94 j = h_i h0 94 j := fr1.i (by omega)
      rw [b_X12_image_20 _ _ _ _]
      simp (disch := first | assumption | omega | (simp only [ya_pi, ya_pj, ya_pa, ya_pr, yo_pi, yo_pj, yo_pa, yf_pi, yf_pj, yf_pa, yh_pi, yh_pj, yh_pa, yt_pi, yt_pj, yt_pa, la_pi, la_pj, la_pa]; assumption)) only [b_X12_image_0, b_X12_image_12, b_X12_image_18, b_X12_image_15, b_X12_image_53, b_X12_image_27, i_lit, i_m1, i_31, il_t, il_f, iq_t, iq_f, it_t, it_f, im_e, im_l, im_g, im_g2, nI_add, pk_mul, i_sub, i_div, sdm, i_dec, i_cl, iv_t, bI_or2, bI_t0, bI_one, not_true_eq_false, not_false_eq_true, ↓reduceIte, am_tl, am_tn, am_t0, am_n0, and_true, true_and, List.cons_append, List.nil_append, List.append_nil, ej]
      refine nxt () _ ⟨fr1.pi (by omega), fun m hm => ?_⟩
      by_cases w : m = j
      · rw [w, hi_s]
      · rw [hi_k (by omega)]
        exact e1 m (by omega)
    · rintro - h1 ⟨fr1, e1⟩
      have L1 := fr1.lay L0
      rw [b_X12_image_20 _ _ _ _]
      simp (disch := first | assumption | omega | (simp only [ya_pi, ya_pj, ya_pa, ya_pr, yo_pi, yo_pj, yo_pa, yf_pi, yf_pj, yf_pa, yh_pi, yh_pj, yh_pa, yt_pi, yt_pj, yt_pa, la_pi, la_pj, la_pa]; assumption)) only [b_X12_image_0, b_X12_image_12, b_X12_image_18, b_X12_image_15, b_X12_image_53, b_X12_image_27, i_lit, i_m1, i_31, il_t, il_f, iq_t, iq_f, it_t, it_f, im_e, im_l, im_g, im_g2, nI_add, pk_mul, i_sub, i_div, sdm, i_dec, i_cl, iv_t, bI_or2, bI_t0, bI_one, not_true_eq_false, not_false_eq_true, ↓reduceIte, am_tl, am_tn, am_t0, am_n0, and_true, true_and, List.cons_append, List.nil_append, List.append_nil]
      have bz : vp_nar .boolean (nI 1) = nI 1 := by decide
      rw [bz]
      have fr2 : am_fr h0 (p_i h1 95 i (nI 1)) (fun a k => (a = 94 ∧ 2351 * (i + 1) ≤ k ∧ k < 2351 * (i + 1) + 2351) ∨ (a = 95 ∧ k = i)) := (fr1.le (fun a k z => Or.inl z)).pi (Or.inr ⟨rfl, rfl⟩)
      have G := fr2.g (J := N0) (R := N0)
      obtain ⟨-, C1, C2, C3, C4, C5, C6, C7⟩ := C0
      refine k _ (fr0'.tr (fr2.le (fun a k z => by unfold rIm; omega))) ⟨L1, G.rhA L0 ok.1 C1 (fun k hk => by omega), G.rpa L0 (fun q hq => (ok.2.1.2 q hq).1) C2 (fun k h1 h2 => by omega), fun j hj => ?_, G.rtA L0 C4 (fun a k h1 h2 => by omega) (fun k z => z), ⟨(fr2.i (by omega)).trans C5.1, fun k hk => (fr2.i (by omega)).trans (C5.2 k hk)⟩, (fr2.i (by omega)).trans C6, (fr2.i (by omega)).trans C7⟩
      show match (if j = i then some S.1 else s_i S j) with
        | none => h_i (p_i h1 95 i (nI 1)) 95 j = nI 0
        | some H => h_i (p_i h1 95 i (nI 1)) 95 j = nI 1 ∧ rhA (p_i h1 95 i (nI 1)) (2351 * (j + 1)) H
      by_cases z : j = i
      · rw [if_pos z, z]
        refine ⟨hi_s, rhA_cp ok.1 C1 (fun m hm => ?_)⟩
        rw [hi_o (by omega), e1 m (by omega), Nat.zero_add]
      · rw [if_neg z]
        have B := C3 j hj
        cases y : s_i S j with
        | none =>
          rw [y] at B
          exact (fr2.i (by omega)).trans B
        | some H =>
          rw [y] at B
          exact ⟨(fr2.i (by omega)).trans B.1, G.rhA L0 (ok.2.2.1 j H y) B.2 (fun k hk => by omega)⟩
  · rw [if_neg hx] at k
    have z' : x.toInt64 < lN 0 ∨ lN 1 < x.toInt64 := by
      rw [w1]
      exact fun z => hx ((hs_32 (by omega)).1 z)
    simp (disch := first | assumption | omega | (simp only [ya_pi, ya_pj, ya_pa, ya_pr, yo_pi, yo_pj, yo_pa, yf_pi, yf_pj, yf_pa, yh_pi, yh_pj, yh_pa, yt_pi, yt_pj, yt_pa, la_pi, la_pj, la_pa]; assumption)) only [b_X12_image_0, b_X12_image_12, b_X12_image_18, b_X12_image_15, b_X12_image_53, b_X12_image_27, i_lit, i_m1, i_31, il_t, il_f, iq_t, iq_f, it_t, it_f, im_e, im_l, im_g, im_g2, nI_add, pk_mul, i_sub, i_div, sdm, i_dec, i_cl, iv_t, bI_or2, bI_t0, bI_one, not_true_eq_false, not_false_eq_true, ↓reduceIte, am_tl, am_tn, am_t0, am_n0, and_true, true_and, List.cons_append, List.nil_append, List.append_nil, l_lit, c_within_n z']
    exact k _ fr0' C0
theorem c_rRestore {d : Nat} {Q : Option am_V → am_H → Prop} {h : am_H} {S : St} {x : Int32} {l2 : Option am_V} (ok : St_ok S) (C : rI h S) (k : ∀ h', am_fr h h' rIm → rI h' (t_restore S x).2 → Q (some (v_i (t_restore S x).1)) h') : ex_ (d + 1) 373 0 [some (v_r (some 93)), some (v_i x), l2] [] h Q := by
  have fr0 : am_fr h (p_i h 93 0 (nI 0)) rS := am_fr_pi (by unfold rS; omega)
  have fr0' : am_fr h (p_i h 93 0 (nI 0)) rIm := am_fr_pi (by unfold rIm; omega)
  have L := C.1
  have C0 := C.q ok fr0
  have L0 := C0.1
  unfold t_restore at k
  rcases iw_cs x with ⟨i, hi, rfl⟩ | hx
  · rw [if_pos ⟨nI_pos (by omega), nI_lt hi (by omega)⟩, nI_clamp (by omega)] at k
    have B := C0.2.2.2.1 i hi
    cases y : s_i S i with
    | none =>
      rw [y] at B k
      have B' : h_i (p_i h 93 0 (nI 0)) 95 i = nI 0 := B
      simp (disch := first | assumption | omega | (simp only [ya_pi, ya_pj, ya_pa, ya_pr, yo_pi, yo_pj, yo_pa, yf_pi, yf_pj, yf_pa, yh_pi, yh_pj, yh_pa, yt_pi, yt_pj, yt_pa, la_pi, la_pj, la_pa]; assumption)) only [b_X12_restore_0, b_X12_restore_12, b_X12_restore_18, b_X12_restore_15, b_X12_restore_30, b_X12_restore_27, b_X12_restore_65, b_X12_restore_39, i_lit, i_m1, i_31, il_t, il_f, iq_t, iq_f, it_t, it_f, im_e, im_l, im_g, im_g2, nI_add, pk_mul, i_sub, i_div, sdm, i_dec, i_cl, iv_t, bI_or2, bI_t0, bI_one, not_true_eq_false, not_false_eq_true, ↓reduceIte, am_tl, am_tn, am_t0, am_n0, and_true, true_and, List.cons_append, List.nil_append, List.append_nil, nI_l, l_lit, c_within_y, B']
      exact k _ fr0' C0
    | some H =>
      rw [y] at B k
      have okH := ok.2.2.1 i H y
      obtain ⟨B1, B2⟩ := B
      simp (disch := first | assumption | omega | (simp only [ya_pi, ya_pj, ya_pa, ya_pr, yo_pi, yo_pj, yo_pa, yf_pi, yf_pj, yf_pa, yh_pi, yh_pj, yh_pa, yt_pi, yt_pj, yt_pa, la_pi, la_pj, la_pa]; assumption)) only [b_X12_restore_0, b_X12_restore_12, b_X12_restore_18, b_X12_restore_15, b_X12_restore_30, b_X12_restore_27, b_X12_restore_65, b_X12_restore_39, i_lit, i_m1, i_31, il_t, il_f, iq_t, iq_f, it_t, it_f, im_e, im_l, im_g, im_g2, nI_add, pk_mul, i_sub, i_div, sdm, i_dec, i_cl, iv_t, bI_or2, bI_t0, bI_one, not_true_eq_false, not_false_eq_true, ↓reduceIte, am_tl, am_tn, am_t0, am_n0, and_true, true_and, List.cons_append, List.nil_append, List.append_nil, nI_l, l_lit, c_within_y, B1]
      generalize p_i h 93 0 (nI 0) = h0 at C0 L0 fr0' B1 B2
      refine lp_up 2351 (fun j (_ : Unit) => [some (v_r (some 93)), some (v_i (nI i)), some (v_i (nI j))]) (fun j _ h' => am_fr h0 h' (fun a k => a = 94 ∧ k < 2351) ∧ ∀ m, m < j → h_i h' 94 m = h_i h0 94 (2351 * (i + 1) + m)) ?_ ?_ (Nat.zero_le _) ⟨am_fr.rf, fun j hj => absurd hj (Nat.not_lt_zero _)⟩ (s := ())
      · rintro j - h1 hj ⟨fr1, e1⟩ nxt
        have L1 := fr1.lay L0
        have ej : h_i h1 94 (2351 * (i + 1) + j) = h_i h0 94 (2351 * (i + 1) + j) := fr1.i (by omega)
        rw [b_X12_restore_32 _ _ _ _]
        simp (disch := first | assumption | omega | (simp only [ya_pi, ya_pj, ya_pa, ya_pr, yo_pi, yo_pj, yo_pa, yf_pi, yf_pj, yf_pa, yh_pi, yh_pj, yh_pa, yt_pi, yt_pj, yt_pa, la_pi, la_pj, la_pa]; assumption)) only [b_X12_restore_0, b_X12_restore_12, b_X12_restore_18, b_X12_restore_15, b_X12_restore_30, b_X12_restore_27, b_X12_restore_65, b_X12_restore_39, i_lit, i_m1, i_31, il_t, il_f, iq_t, iq_f, it_t, it_f, im_e, im_l, im_g, im_g2, nI_add, pk_mul, i_sub, i_div, sdm, i_dec, i_cl, iv_t, bI_or2, bI_t0, bI_one, not_true_eq_false, not_false_eq_true, ↓reduceIte, am_tl, am_tn, am_t0, am_n0, and_true, true_and, List.cons_append, List.nil_append, List.append_nil, ej]
        refine nxt () _ ⟨fr1.pi (by omega), fun m hm => ?_⟩
        by_cases w : m = j
        · rw [w, hi_s]
        · rw [hi_k (by omega)]
          exact e1 m (by omega)
      · rintro - h1 ⟨fr1, e1⟩
        have L1 := fr1.lay L0
        rw [b_X12_restore_32 _ _ _ _]
        simp (disch := first | assumption | omega | (simp only [ya_pi, ya_pj, ya_pa, ya_pr, yo_pi, yo_pj, yo_pa, yf_pi, yf_pj, yf_pa, yh_pi, yh_pj, yh_pa, yt_pi, yt_pj, yt_pa, la_pi, la_pj, la_pa]; assumption)) only [b_X12_restore_0, b_X12_restore_12, b_X12_restore_18, b_X12_restore_15, b_X12_restore_30, b_X12_restore_27, b_X12_restore_65, b_X12_restore_39, i_lit, i_m1, i_31, il_t, il_f, iq_t, iq_f, it_t, it_f, im_e, im_l, im_g, im_g2, nI_add, pk_mul, i_sub, i_div, sdm, i_dec, i_cl, iv_t, bI_or2, bI_t0, bI_one, not_true_eq_false, not_false_eq_true, ↓reduceIte, am_tl, am_tn, am_t0, am_n0, and_true, true_and, List.cons_append, List.nil_append, List.append_nil]
        have fr2 : am_fr h0 (p_i h1 94 139 (nI 0)) (fun a k => a = 94 ∧ k < 2351) := fr1.pi ⟨rfl, by omega⟩
        have G := fr2.g (J := N0) (R := N0)
        obtain ⟨-, C1, C2, C3, C4, C5, C6, C7⟩ := C0
        exact k _ (fr0'.tr (fr2.le (fun a k z => by unfold rIm; omega))) ⟨L1, rhA_cp okH B2 (fun m hm => by rw [Nat.zero_add, hi_k (by omega), e1 m (by omega)]), ⟨hi_s, Nat.zero_le _, fun j hj => absurd hj (Nat.not_lt_zero _)⟩, G.riA L0 ok.2.2.1 C3 (fun k => by omega) (fun k hk => by omega), G.rtA L0 C4 (fun a k h1 h2 => by omega) (fun k z => z), ⟨(fr2.i (by omega)).trans C5.1, fun k hk => (fr2.i (by omega)).trans (C5.2 k hk)⟩, (fr2.i (by omega)).trans C6, (fr2.i (by omega)).trans C7⟩
  · rw [if_neg hx] at k
    have z' : x.toInt64 < lN 0 ∨ lN 1 < x.toInt64 := by
      rw [w1]
      exact fun z => hx ((hs_32 (by omega)).1 z)
    simp (disch := first | assumption | omega | (simp only [ya_pi, ya_pj, ya_pa, ya_pr, yo_pi, yo_pj, yo_pa, yf_pi, yf_pj, yf_pa, yh_pi, yh_pj, yh_pa, yt_pi, yt_pj, yt_pa, la_pi, la_pj, la_pa]; assumption)) only [b_X12_restore_0, b_X12_restore_12, b_X12_restore_18, b_X12_restore_15, b_X12_restore_30, b_X12_restore_27, b_X12_restore_65, b_X12_restore_39, i_lit, i_m1, i_31, il_t, il_f, iq_t, iq_f, it_t, it_f, im_e, im_l, im_g, im_g2, nI_add, pk_mul, i_sub, i_div, sdm, i_dec, i_cl, iv_t, bI_or2, bI_t0, bI_one, not_true_eq_false, not_false_eq_true, ↓reduceIte, am_tl, am_tn, am_t0, am_n0, and_true, true_and, List.cons_append, List.nil_append, List.append_nil, l_lit, c_within_n z']
    exact k _ fr0' C0
