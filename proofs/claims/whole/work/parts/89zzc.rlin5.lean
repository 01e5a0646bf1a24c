/-! ===== house(), the reference: what it begins and ends with ===== -/
theorem c_plain {d o n : Nat} {Q : Option am_V → am_H → Prop} {h : am_H} (Y : y_arr h o 20 n) (hn : 2351 ≤ n) (hn2 : n < 2147483648) (K : ∀ h', am_fr h h' (fun a k => a = o ∧ k < 2351) → (∀ k, k < 2351 → h_i h' o k = nI 0) → Q none h') : ex_ d 230 0 [some (v_r (some o)), none] [] h Q := by
  rw [b_X12_plain_0 _ _ _]
  refine lp_up 2351 (fun i (_ : Unit) => [some (v_r (some o)), some (v_i (nI i))]) (fun i _ h' => am_fr h h' (fun a k => a = o ∧ k < 2351) ∧ ∀ k, k < i → h_i h' o k = nI 0) ?_ ?_ (Nat.zero_le _) ⟨am_fr.rf, fun k hk => absurd hk (Nat.not_lt_zero _)⟩ (s := ())
  · rintro i - h1 hi ⟨fr1, e1⟩ nxt
    have Y1 : y_arr h1 o 20 n := fr1.c Y
    rw [b_X12_plain_2 _ _ _]
    simp (disch := first | assumption | omega | (simp only [ya_pi, ya_pj, ya_pa, ya_pr, yo_pi, yo_pj, yo_pa, yf_pi, yf_pj, yf_pa, yh_pi, yh_pj, yh_pa, yt_pi, yt_pj, yt_pa, la_pi, la_pj, la_pa]; assumption)) only [b_X12_plain_9, i_lit, i_m1, i_31, il_t, il_f, iq_t, iq_f, it_t, it_f, im_e, im_l, im_g, im_g2, nI_add, pk_mul, i_sub, i_div, sdm, i_dec, i_cl, iv_t, bI_or2, bI_t0, bI_one, not_true_eq_false, not_false_eq_true, ↓reduceIte, am_tl, am_tn, am_t0, am_n0, and_true, true_and, List.cons_append, List.nil_append, List.append_nil]
    refine nxt () _ ⟨fr1.pi ⟨rfl, hi⟩, fun k hk => ?_⟩
    by_cases z : k = i
    · rw [z, hi_s]
    · rw [hi_k z]
      exact e1 k (by omega)
  · rintro - h1 ⟨fr1, e1⟩
    rw [b_X12_plain_2 _ _ _]
    simp (disch := first | assumption | omega | (simp only [ya_pi, ya_pj, ya_pa, ya_pr, yo_pi, yo_pj, yo_pa, yf_pi, yf_pj, yf_pa, yh_pi, yh_pj, yh_pa, yt_pi, yt_pj, yt_pa, la_pi, la_pj, la_pa]; assumption)) only [b_X12_plain_19, i_lit, i_m1, i_31, il_t, il_f, iq_t, iq_f, it_t, it_f, im_e, im_l, im_g, im_g2, nI_add, pk_mul, i_sub, i_div, sdm, i_dec, i_cl, iv_t, bI_or2, bI_t0, bI_one, not_true_eq_false, not_false_eq_true, ↓reduceIte, am_tl, am_tn, am_t0, am_n0, and_true, true_and, List.cons_append, List.nil_append, List.append_nil]
    exact K h1 fr1 e1
def rHo (a k : Nat) : Prop := a = 93 ∨ (a = 94 ∧ k < 2351) ∨ a = 97
theorem rHo_R {a k : Nat} (z : rHo a k) : pR a k := by unfold rHo at z; unfold pR; omega
theorem rsF.b {h h' : am_H} {cs : List Nat} {law : Nat} {o : Option (List Nat)} (A : rsF h cs law o) (C : rcA h cs) (hl : law < 2) (e : ∀ k, k < 2351 → h_i h' 94 k = h_i h 97 k) : rsb h' 0 law o := by
  cases o with
  | none =>
    show h_i h' 94 (0 + (2 + law)) = nI 0
    rw [Nat.zero_add, e _ (by omega)]
    exact A
  | some l =>
    obtain ⟨a1, a, b, rfl, a3, a4⟩ := A
    have c2 := C.2.1
    rw [List.length_append, List.length_append] at c2
    refine ⟨?_, a.length, by omega, ?_, ?_, fun k hk => ?_⟩
    · rw [Nat.zero_add, e _ (by omega)]; exact a1
    · rw [Nat.zero_add, e _ (by omega)]; exact a3
    · rw [Nat.zero_add, e _ (by omega)]; exact a4
    · have := C.2.2 (a.length + k) (by rw [List.length_append, List.length_append]; omega)
      rw [Nat.zero_add, e _ (by omega), show 1451 + a.length + k = 1451 + (a.length + k) from by omega, this]
      congr 1
      rw [List.getD_eq_getElem?_getD, List.getD_eq_getElem?_getD, List.getElem?_append_right (by omega), Nat.add_sub_cancel_left, List.getElem?_append_left hk]
theorem rlB.A {h h' : am_H} {cs : List Nat} {H : ho_S} (B : rlB h cs H) (gd : fa_gd H.1) (C : rcA h cs) (e : ∀ k, k < 2351 → h_i h' 94 k = h_i h 97 k) : rhA h' 0 H ∧ rpa h' [] := by
  obtain ⟨b1, b2, b3, b4, b5, b6⟩ := B
  refine ⟨⟨by rw [Nat.zero_add, e _ (by omega)]; exact b1, by rw [Nat.zero_add, e _ (by omega)]; exact b2, fb_cp (fa_len gd) b3 (fun k hk => ?_), b4.b C (by omega) e, b5.b C (by omega) e⟩, by rw [e _ (by omega)]; exact b6, by decide, fun k hk => absurd hk (Nat.not_lt_zero _)⟩
  rw [Nat.zero_add]
  exact e _ (by omega)
theorem rlB_0 {h : am_H} (z : ∀ k, k < 2351 → h_i h 97 k = nI 0) : rlB h [] ho_0 ∧ rcA h [] := ⟨⟨z _ (by omega), z _ (by omega), ⟨fun c hc => z _ (by omega), fun c hc k hk => absurd hk (Nat.not_lt_zero _), fun c m hc hm => z _ (by omega), z _ (by omega)⟩, z _ (by omega), z _ (by omega), z _ (by omega)⟩, z _ (by omega), by decide, fun k hk => absurd hk (Nat.not_lt_zero _)⟩
theorem fb_setm {h : am_H} {a : Nat} {f : fa_S} {v : Int32} (h4 : ∀ c, (f_p f c).length ≤ 4) (F : fb h a 8 f) : fb (p_i h a 138 v) a 8 (f_setm f v) := by
  obtain ⟨F1, F2, F3, F4⟩ := F
  refine ⟨?_, ?_, ?_, ?_⟩
  · intro q hq
    rw [hi_k (by omega)]
    exact F1 q hq
  · intro q hq j hj
    have hj2 : j < (f_p f q).length := hj
    have h44 := h4 q
    rw [hi_k (by omega)]
    exact F2 q hq j hj
  · intro q j hq hj
    rw [hi_k (by omega)]
    exact F3 q j hq hj
  · exact hi_s
/-- the end of house(): all well -/
theorem c_rEnd {d m : Nat} {Q : Option am_V → am_H → Prop} {h h2 h5 : am_H} {S : St} {tx : List Nat} {ts : List (Nat × Nat)} {j : Nat} {H : ho_S} (ok : St_ok S) (C : rI h S) (gd : fa_gd H.1) (F : am_fr h h2 rHo) (e5 : h_i h2 93 5 = nI 0) (fx : ∀ k, h_i h2 94 k = h_i h 94 k) (S5 : rlS h2 h5 tx ts j H) (k : ∀ h', am_fr h h' rHo → rI h' (H, [], s_i S, s_t S, [], nI 0, mI) → Q (some (v_i (nI H.2.2.2))) h') : ex_ d 260 113 [some (v_r (some 93)), some (v_i (nI m)), none] [] h5 Q := by
  have L5 := S5.1.1
  have w5 := S5.2.1
  obtain ⟨-, -, f5, -, cs, C5, -, B5⟩ := S5
  have fr6 : am_fr h5 (p_i (p_i h5 93 13 (nI 0)) 93 14 mI) (fun a k => a = 93 ∧ (k = 13 ∨ k = 14)) := (am_fr_pi ⟨rfl, by omega⟩).pi ⟨rfl, by omega⟩
  have u13 : h_i (p_i (p_i h5 93 13 (nI 0)) 93 14 mI) 93 13 = nI 0 := by simp (disch := first | assumption | omega | (simp only [ya_pi, ya_pj, ya_pa, ya_pr, yo_pi, yo_pj, yo_pa, yf_pi, yf_pj, yf_pa, yh_pi, yh_pj, yh_pa, yt_pi, yt_pj, yt_pa, la_pi, la_pj, la_pa]; assumption)) only [hi_s, hi_o, hi_k, hr_pi, hj_pi, hn_pi, hi_pas, hi_pao, hr_pa, hj_pa]
  have u14 : h_i (p_i (p_i h5 93 13 (nI 0)) 93 14 mI) 93 14 = mI := by simp (disch := first | assumption | omega | (simp only [ya_pi, ya_pj, ya_pa, ya_pr, yo_pi, yo_pj, yo_pa, yf_pi, yf_pj, yf_pa, yh_pi, yh_pj, yh_pa, yt_pi, yt_pj, yt_pa, la_pi, la_pj, la_pa]; assumption)) only [hi_s, hi_o, hi_k, hr_pi, hj_pi, hn_pi, hi_pas, hi_pao, hr_pa, hj_pa]
  have L0 : Lay (p_i h5 93 13 (nI 0)) := (am_fr_pi (P := fun _ _ => True) trivial).lay L5
  have L6 := fr6.lay L5
  simp (disch := first | assumption | omega | (simp only [ya_pi, ya_pj, ya_pa, ya_pr, yo_pi, yo_pj, yo_pa, yf_pi, yf_pj, yf_pa, yh_pi, yh_pj, yh_pa, yt_pi, yt_pj, yt_pa, la_pi, la_pj, la_pa]; assumption)) only [b_X12_house_113, b_X12_house_129, b_X12_house_155, i_lit, i_m1, i_31, il_t, il_f, iq_t, iq_f, it_t, it_f, im_e, im_l, im_g, im_g2, nI_add, pk_mul, i_sub, i_div, sdm, i_dec, i_cl, iv_t, bI_or2, bI_t0, bI_one, not_true_eq_false, not_false_eq_true, ↓reduceIte, am_tl, am_tn, am_t0, am_n0, and_true, true_and, List.cons_append, List.nil_append, List.append_nil, hi_s, hi_o, hi_k, hr_pi, hj_pi, hn_pi, hi_pas, hi_pao, hr_pa, hj_pa, w5]
  generalize p_i (p_i h5 93 13 (nI 0)) 93 14 mI = h6 at fr6 u13 u14 L6 ⊢
  refine lp_up 2351 (fun j (_ : Unit) => [some (v_r (some 93)), some (v_i (nI m)), some (v_i (nI j))]) (fun j _ h' => am_fr h6 h' (fun a k => a = 94 ∧ k < 2351) ∧ ∀ m, m < j → h_i h' 94 m = h_i h6 97 m) ?_ ?_ (Nat.zero_le _) ⟨am_fr.rf, fun j hj => absurd hj (Nat.not_lt_zero _)⟩ (s := ())
  · rintro j - h1 hj ⟨fr1, e1⟩ nxt
    have L1 := fr1.lay L6
    have ej : h_i h1 97 j = h_i h6 97 j := fr1.i (by omega)
    rw [b_X12_house_157 _ _ _ _]
    simp (disch := first | assumption | omega | (simp only [ya_pi, ya_pj, ya_pa, ya_pr, yo_pi, yo_pj, yo_pa, yf_pi, yf_pj, yf_pa, yh_pi, yh_pj, yh_pa, yt_pi, yt_pj, yt_pa, la_pi, la_pj, la_pa]; assumption)) only [b_X12_house_164, i_lit, i_m1, i_31, il_t, il_f, iq_t, iq_f, it_t, it_f, im_e, im_l, im_g, im_g2, nI_add, pk_mul, i_sub, i_div, sdm, i_dec, i_cl, iv_t, bI_or2, bI_t0, bI_one, not_true_eq_false, not_false_eq_true, ↓reduceIte, am_tl, am_tn, am_t0, am_n0, and_true, true_and, List.cons_append, List.nil_append, List.append_nil, ej]
    refine nxt () _ ⟨fr1.pi ⟨rfl, hj⟩, fun m hm => ?_⟩
    by_cases w : m = j
    · rw [w, hi_s]
    · rw [hi_k w]
      exact e1 m (by omega)
  · rintro - h7 ⟨fr7, e7⟩
    have L7 := fr7.lay L6
    have C6 : rcA h6 cs := C5.fr fr6 (fun k _ z => by omega)
    have B6 : rlB h6 cs H := B5.fr gd.1 fr6 (fun k _ z => by omega)
    have q0 : h_i h7 94 0 = nI H.2.2.2 := by rw [e7 0 (by omega)]; exact B6.1
    rw [b_X12_house_157 _ _ _ _]
    simp (disch := first | assumption | omega | (simp only [ya_pi, ya_pj, ya_pa, ya_pr, yo_pi, yo_pj, yo_pa, yf_pi, yf_pj, yf_pa, yh_pi, yh_pj, yh_pa, yt_pi, yt_pj, yt_pa, la_pi, la_pj, la_pa]; assumption)) only [b_X12_house_182, i_lit, i_m1, i_31, il_t, il_f, iq_t, iq_f, it_t, it_f, im_e, im_l, im_g, im_g2, nI_add, pk_mul, i_sub, i_div, sdm, i_dec, i_cl, iv_t, bI_or2, bI_t0, bI_one, not_true_eq_false, not_false_eq_true, ↓reduceIte, am_tl, am_tn, am_t0, am_n0, and_true, true_and, List.cons_append, List.nil_append, List.append_nil, q0]
    have FF : am_fr h h7 rHo := F.tr ((f5.le (fun a k z => by unfold rlQ at z; unfold rHo; omega)).tr ((fr6.le (fun a k z => by unfold rHo; omega)).tr (fr7.le (fun a k z => by unfold rHo; omega))))
    have A := B6.A gd C6 e7
    have G := FF.g (J := N0) (R := N0)
    obtain ⟨L, C1, C2, C3, C4, C5', C6', C7⟩ := C
    refine k h7 FF ⟨L7, A.1, A.2, G.riA L ok.2.2.1 C3 (fun k z => by unfold rHo at z; omega) (fun k hk z => by unfold rHo at z; omega), G.rtA L C4 (fun a k h1 h2 z => by unfold rHo at z; omega) (fun k z => z), ⟨?_, fun k hk => absurd hk (Nat.not_lt_zero _)⟩, ?_, ?_⟩
    · rw [fr7.i (by omega), fr6.i (by omega), f5.i (fun z => by unfold rlQ at z; omega)]
      exact e5
    · rw [fr7.i (by omega)]; exact u13
    · rw [fr7.i (by omega)]; exact u14
/-- the end of house(): a fault -/
theorem c_rEndX {d m : Nat} {Q : Option am_V → am_H → Prop} {h h2 h5 : am_H} {S : St} {ts : List (Nat × Nat)} {e j : Nat} (ok : St_ok S) (C : rI h S) (F : am_fr h h2 rHo) (e5 : h_i h2 93 5 = nI 0) (fx : ∀ k, h_i h2 94 k = h_i h 94 k) (X5 : rlX h2 h5 ts e j) (k : ∀ h', am_fr h h' rHo → rI h' (s_H S, s_p S, s_i S, s_t S, [], nI e, nI (tS ts j)) → Q (some (v_i (-30 - nI e))) h') : ex_ d 260 113 [some (v_r (some 93)), some (v_i (nI m)), none] [] h5 Q := by
  obtain ⟨⟨L5, w5, x0, x4, w12⟩, f5⟩ := X5
  have fr6 : am_fr h5 (p_i (p_i h5 93 13 (nI e)) 93 14 (nI (tS ts j))) (fun a k => a = 93 ∧ (k = 13 ∨ k = 14)) := (am_fr_pi ⟨rfl, by omega⟩).pi ⟨rfl, by omega⟩
  have u13 : h_i (p_i (p_i h5 93 13 (nI e)) 93 14 (nI (tS ts j))) 93 13 = nI e := by simp (disch := first | assumption | omega | (simp only [ya_pi, ya_pj, ya_pa, ya_pr, yo_pi, yo_pj, yo_pa, yf_pi, yf_pj, yf_pa, yh_pi, yh_pj, yh_pa, yt_pi, yt_pj, yt_pa, la_pi, la_pj, la_pa]; assumption)) only [hi_s, hi_o, hi_k, hr_pi, hj_pi, hn_pi, hi_pas, hi_pao, hr_pa, hj_pa]
  have u14 : h_i (p_i (p_i h5 93 13 (nI e)) 93 14 (nI (tS ts j))) 93 14 = nI (tS ts j) := by simp (disch := first | assumption | omega | (simp only [ya_pi, ya_pj, ya_pa, ya_pr, yo_pi, yo_pj, yo_pa, yf_pi, yf_pj, yf_pa, yh_pi, yh_pj, yh_pa, yt_pi, yt_pj, yt_pa, la_pi, la_pj, la_pa]; assumption)) only [hi_s, hi_o, hi_k, hr_pi, hj_pi, hn_pi, hi_pas, hi_pao, hr_pa, hj_pa]
  have u11 : h_i (p_i (p_i h5 93 13 (nI e)) 93 14 (nI (tS ts j))) 93 11 = nI e := by simp (disch := first | assumption | omega | (simp only [ya_pi, ya_pj, ya_pa, ya_pr, yo_pi, yo_pj, yo_pa, yf_pi, yf_pj, yf_pa, yh_pi, yh_pj, yh_pa, yt_pi, yt_pj, yt_pa, la_pi, la_pj, la_pa]; assumption)) only [hi_s, hi_o, hi_k, hr_pi, hj_pi, hn_pi, hi_pas, hi_pao, hr_pa, hj_pa]; exact w5
  have L0 : Lay (p_i h5 93 13 (nI e)) := (am_fr_pi (P := fun _ _ => True) trivial).lay L5
  have L6 := fr6.lay L5
  have ne : ¬ nI e = 0 := fun u => by have := nI_inj (a := e) (b := 0) (by omega) (by omega) u; omega
  have p11 : h_i (p_i h5 93 13 (nI e)) 93 11 = nI e := by rw [hi_k (by decide)]; exact w5
  have p12 : h_i (p_i h5 93 13 (nI e)) 93 12 = nI (tS ts j) := by rw [hi_k (by decide)]; exact w12
  rw [b_X12_house_113 _ _ _ L5, w5, p11, if_pos ne, b_X12_house_133 _ _ _ L0, p12]
  generalize p_i (p_i h5 93 13 (nI e)) 93 14 (nI (tS ts j)) = h6 at fr6 u13 u14 u11 L6 ⊢
  rw [u11, if_neg ne, b_X12_house_147 _ _ _ L6, u11]
  have FF : am_fr h h6 rHo := F.tr ((f5.le (fun a k z => by unfold rlQ at z; unfold rHo; omega)).tr (fr6.le (fun a k z => by unfold rHo; omega)))
  have G := FF.g (J := N0) (R := N0)
  have q94 : ∀ k, h_i h6 94 k = h_i h 94 k := fun k => by rw [fr6.i (by omega), f5.i (fun z => by unfold rlQ at z; omega)]; exact fx k
  have G2 : am_fr h h6 (fun a _ => a = 93 ∨ a = 97) := ⟨FF.1, FF.2.1, FF.2.2.1, fun a k z => by
    by_cases y : a = 94
    · rw [y]; exact q94 k
    · exact FF.i (fun u => by unfold rHo at u; omega)⟩
  have G := G2.g (J := N0) (R := N0)
  obtain ⟨L, C1, C2, C3, C4, C5', C6', C7⟩ := C
  refine k h6 FF ⟨L6, G.rhA L ok.1 C1 (fun k _ z => by omega), G.rpa L (fun q hq => (ok.2.1.2 q hq).1) C2 (fun k _ _ z => by omega), G.riA L ok.2.2.1 C3 (fun k z => by omega) (fun k _ z => by omega), G.rtA L C4 (fun a k h1 h2 z => by omega) (fun k z => z), ⟨?_, fun k hk => absurd hk (Nat.not_lt_zero _)⟩, u13, u14⟩
  rw [fr6.i (by omega), f5.i (fun z => by unfold rlQ at z; omega)]
  exact e5
