/-! ===== the reference reads laws: small steps ===== -/
def kT (k : Nat) : Nat := if k < 18 then 200 + pm k else sgL.getD (k - 30) 0
theorem rk_k1 : ∀ t, t < 1000 → ∀ k, k < 42 → (k < 18 ∨ 30 ≤ k) → (rk t = k ↔ t = kT k) := by decide +kernel
theorem kT_b : ∀ k, k < 42 → (k < 18 ∨ 30 ≤ k) → kT k < 1000 ∧ ¬ kT k = 1 ∧ ¬ kT k = 2 := by decide +kernel
theorem rk_k {t k : Nat} (hk : k < 42) (h : k < 18 ∨ 30 ≤ k) : rk t = k ↔ t = kT k := by
  by_cases z : t < 1000
  · exact rk_k1 t z k hk h
  · rw [rk_n (by omega)]
    have := kT_b k hk h
    constructor
    · intro w; omega
    · intro w; omega
theorem rk_25a : ∀ t, t < 1000 → (rk t = 25 ↔ t = 2) ∧ ¬ rk t = 23 ∧ (rk t = 24 ↔ t = 1) ∧ rk t < 100 := by decide +kernel
theorem rk_25 {t : Nat} : (rk t = 25 ↔ t = 2) ∧ (rk t = 23 ↔ 1000 ≤ t) ∧ (rk t = 24 ↔ t = 1) ∧ rk t < 100 := by
  by_cases z : t < 1000
  · have := rk_25a t z
    exact ⟨this.1, ⟨fun w => absurd w this.2.1, fun w => by omega⟩, this.2.2⟩
  · rw [rk_n (by omega)]
    exact ⟨⟨fun w => by omega, fun w => by omega⟩, ⟨fun _ => by omega, fun _ => rfl⟩, ⟨fun w => by omega, fun w => by omega⟩, by decide⟩
def rgP (q k : Nat) : Prop := (q = 93 ∧ (k = 6 ∨ k = 7 ∨ k = 9 ∨ k = 10 ∨ k = 11 ∨ k = 12)) ∨ (q = 97 ∧ 1450 ≤ k)
theorem nx_rg {q k : Nat} (h : nxP q k) : rgP q k := by unfold nxP at h; unfold rgP; omega
def rcA (h : am_H) (cs : List Nat) : Prop := h_i h 97 1450 = nI cs.length ∧ cs.length ≤ 900 ∧ ∀ k, k < cs.length → h_i h 97 (1451 + k) = nI (cs.getD k 0)
def rgS (h : am_H) (tx : List Nat) (ts : List (Nat × Nat)) (sy : Bool) (i : Nat) (cs : List Nat) : Prop := rTk h tx ts i ∧ rcA h cs ∧ h_i h 93 15 = nI (if sy = true then 0 else 1) ∧ h_i h 93 11 = nI 0
def rgX (h : am_H) (ts : List (Nat × Nat)) (e j : Nat) : Prop := Lay h ∧ h_i h 93 11 = nI e ∧ 0 < e ∧ e ≤ 4 ∧ h_i h 93 12 = nI (tS ts j)
theorem c_is {d : Nat} {Q : Option am_V → am_H → Prop} {h : am_H} {tx : List Nat} {ts : List (Nat × Nat)} {i k : Nat} (R : rTk h tx ts i) (w : h_i h 93 11 = nI 0) (hk : k < 100) : ex_ d 239 0 [some (v_r (some 93)), some (v_i (nI k))] [] h Q ↔ Q (some (v_i (nI (if rk (tK ts i) = k then 1 else 0)))) h := by
  have L := R.1
  have e9 := R.2.2.2.1
  have rb := (rk_25 (t := tK ts i)).2.2.2
  by_cases z : rk (tK ts i) = k
  · simp (disch := first | assumption | omega | (simp only [ya_pi, ya_pj, ya_pa, ya_pr, yo_pi, yo_pj, yo_pa, yf_pi, yf_pj, yf_pa, yh_pi, yh_pj, yh_pa, yt_pi, yt_pj, yt_pa, la_pi, la_pj, la_pa]; assumption)) only [b_X12_is_0, b_X12_is_19, b_X12_is_7, b_X12_is_15, i_lit, i_m1, i_31, il_t, il_f, iq_t, iq_f, it_t, it_f, im_e, im_l, im_g, im_g2, nI_add, pk_mul, i_sub, i_div, sdm, i_dec, i_cl, iv_t, bI_or2, bI_t0, bI_one, not_true_eq_false, not_false_eq_true, ↓reduceIte, am_tl, am_tn, am_t0, am_n0, and_true, true_and, List.cons_append, List.nil_append, List.append_nil, w, e9, if_pos z]
  · simp (disch := first | assumption | omega | (simp only [ya_pi, ya_pj, ya_pa, ya_pr, yo_pi, yo_pj, yo_pa, yf_pi, yf_pj, yf_pa, yh_pi, yh_pj, yh_pa, yt_pi, yt_pj, yt_pa, la_pi, la_pj, la_pa]; assumption)) only [b_X12_is_0, b_X12_is_19, b_X12_is_7, b_X12_is_15, i_lit, i_m1, i_31, il_t, il_f, iq_t, iq_f, it_t, it_f, im_e, im_l, im_g, im_g2, nI_add, pk_mul, i_sub, i_div, sdm, i_dec, i_cl, iv_t, bI_or2, bI_t0, bI_one, not_true_eq_false, not_false_eq_true, ↓reduceIte, am_tl, am_tn, am_t0, am_n0, and_true, true_and, List.cons_append, List.nil_append, List.append_nil, w, e9, if_neg z]
theorem c_isX {d : Nat} {Q : Option am_V → am_H → Prop} {h : am_H} {ts : List (Nat × Nat)} {e j : Nat} (X : rgX h ts e j) {v : Int32} : ex_ d 239 0 [some (v_r (some 93)), some (v_i v)] [] h Q ↔ Q (some (v_i (nI 0))) h := by
  have L := X.1
  have w := X.2.1
  have e0 := X.2.2.1
  have e4 := X.2.2.2.1
  simp (disch := first | assumption | omega | (simp only [ya_pi, ya_pj, ya_pa, ya_pr, yo_pi, yo_pj, yo_pa, yf_pi, yf_pj, yf_pa, yh_pi, yh_pj, yh_pa, yt_pi, yt_pj, yt_pa, la_pi, la_pj, la_pa]; assumption)) only [b_X12_is_0, b_X12_is_19, i_lit, i_m1, i_31, il_t, il_f, iq_t, iq_f, it_t, it_f, im_e, im_l, im_g, im_g2, nI_add, pk_mul, i_sub, i_div, sdm, i_dec, i_cl, iv_t, bI_or2, bI_t0, bI_one, not_true_eq_false, not_false_eq_true, ↓reduceIte, am_tl, am_tn, am_t0, am_n0, and_true, true_and, List.cons_append, List.nil_append, List.append_nil, w]
def rfR (h : am_H) (ts : List (Nat × Nat)) (k i : Nat) : am_H := p_i (p_i h 93 11 (nI (pF ts k i).1)) 93 12 (nI (tS ts i))
theorem rfR_fr {h : am_H} {ts : List (Nat × Nat)} {k i : Nat} : am_fr h (rfR h ts k i) rgP := (am_fr_pi (Or.inl ⟨rfl, by omega⟩)).pi (Or.inl ⟨rfl, by omega⟩)
theorem rfR_X {h : am_H} {tx : List Nat} {ts : List (Nat × Nat)} {k i : Nat} (R : rTk h tx ts i) (hk : 0 < k) (h4 : k ≤ 4) : rgX (rfR h ts k i) ts (pF ts k i).1 i := by
  have p : 0 < (pF ts k i).1 ∧ (pF ts k i).1 ≤ 4 := by
    show 0 < (if tK ts i = 2 then 1 else k) ∧ (if tK ts i = 2 then 1 else k) ≤ 4
    split <;> omega
  exact ⟨rfR_fr.lay R.1, by unfold rfR; simp (disch := first | assumption | omega | (simp only [ya_pi, ya_pj, ya_pa, ya_pr, yo_pi, yo_pj, yo_pa, yf_pi, yf_pj, yf_pa, yh_pi, yh_pj, yh_pa, yt_pi, yt_pj, yt_pa, la_pi, la_pj, la_pa]; assumption)) only [hi_s, hi_o, hi_k, hr_pi, hj_pi, hn_pi, hi_pas, hi_pao, hr_pa, hj_pa], p.1, p.2, by unfold rfR; simp (disch := first | assumption | omega | (simp only [ya_pi, ya_pj, ya_pa, ya_pr, yo_pi, yo_pj, yo_pa, yf_pi, yf_pj, yf_pa, yh_pi, yh_pj, yh_pa, yt_pi, yt_pj, yt_pa, la_pi, la_pj, la_pa]; assumption)) only [hi_s, hi_o, hi_k, hr_pi, hj_pi, hn_pi, hi_pas, hi_pao, hr_pa, hj_pa]⟩
theorem c_fails {d : Nat} {Q : Option am_V → am_H → Prop} {h : am_H} {tx : List Nat} {ts : List (Nat × Nat)} {i k : Nat} (R : rTk h tx ts i) (w : h_i h 93 11 = nI 0) (hk : k ≤ 4) : ex_ d 238 0 [some (v_r (some 93)), some (v_i (nI k))] [] h Q ↔ Q none (rfR h ts k i) := by
  have L := R.1
  have e9 := R.2.2.2.1
  have e6 := R.2.2.1
  have rb := (rk_25 (t := tK ts i)).2.2.2
  have r2 := (rk_25 (t := tK ts i)).1
  unfold rfR pF
  by_cases z : tK ts i = 2
  · have z2 := r2.2 z
    simp (disch := first | assumption | omega | (simp only [ya_pi, ya_pj, ya_pa, ya_pr, yo_pi, yo_pj, yo_pa, yf_pi, yf_pj, yf_pa, yh_pi, yh_pj, yh_pa, yt_pi, yt_pj, yt_pa, la_pi, la_pj, la_pa]; assumption)) only [b_X12_fails_0, b_X12_fails_8, b_X12_fails_7, b_X12_fails_22, b_X12_fails_18, i_lit, i_m1, i_31, il_t, il_f, iq_t, iq_f, it_t, it_f, im_e, im_l, im_g, im_g2, nI_add, pk_mul, i_sub, i_div, sdm, i_dec, i_cl, iv_t, bI_or2, bI_t0, bI_one, not_true_eq_false, not_false_eq_true, ↓reduceIte, am_tl, am_tn, am_t0, am_n0, and_true, true_and, List.cons_append, List.nil_append, List.append_nil, hi_s, hi_o, hi_k, hr_pi, hj_pi, hn_pi, hi_pas, hi_pao, hr_pa, hj_pa, w, e9, e6, if_pos z]
  · have z2 : ¬ rk (tK ts i) = 25 := fun u => z (r2.1 u)
    simp (disch := first | assumption | omega | (simp only [ya_pi, ya_pj, ya_pa, ya_pr, yo_pi, yo_pj, yo_pa, yf_pi, yf_pj, yf_pa, yh_pi, yh_pj, yh_pa, yt_pi, yt_pj, yt_pa, la_pi, la_pj, la_pa]; assumption)) only [b_X12_fails_0, b_X12_fails_8, b_X12_fails_7, b_X12_fails_22, b_X12_fails_18, i_lit, i_m1, i_31, il_t, il_f, iq_t, iq_f, it_t, it_f, im_e, im_l, im_g, im_g2, nI_add, pk_mul, i_sub, i_div, sdm, i_dec, i_cl, iv_t, bI_or2, bI_t0, bI_one, not_true_eq_false, not_false_eq_true, ↓reduceIte, am_tl, am_tn, am_t0, am_n0, and_true, true_and, List.cons_append, List.nil_append, List.append_nil, hi_s, hi_o, hi_k, hr_pi, hj_pi, hn_pi, hi_pas, hi_pao, hr_pa, hj_pa, w, e9, e6, if_neg z]
theorem c_failsX {d : Nat} {Q : Option am_V → am_H → Prop} {h : am_H} {ts : List (Nat × Nat)} {e j : Nat} (X : rgX h ts e j) {v : Int32} : ex_ d 238 0 [some (v_r (some 93)), some (v_i v)] [] h Q ↔ Q none h := by
  have L := X.1
  have w := X.2.1
  have e0 := X.2.2.1
  have e4 := X.2.2.2.1
  simp (disch := first | assumption | omega | (simp only [ya_pi, ya_pj, ya_pa, ya_pr, yo_pi, yo_pj, yo_pa, yf_pi, yf_pj, yf_pa, yh_pi, yh_pj, yh_pa, yt_pi, yt_pj, yt_pa, la_pi, la_pj, la_pa]; assumption)) only [b_X12_fails_0, b_X12_fails_7, i_lit, i_m1, i_31, il_t, il_f, iq_t, iq_f, it_t, it_f, im_e, im_l, im_g, im_g2, nI_add, pk_mul, i_sub, i_div, sdm, i_dec, i_cl, iv_t, bI_or2, bI_t0, bI_one, not_true_eq_false, not_false_eq_true, ↓reduceIte, am_tl, am_tn, am_t0, am_n0, and_true, true_and, List.cons_append, List.nil_append, List.append_nil, w]
theorem rTk.next {d : Nat} {Q : Option am_V → am_H → Prop} {h : am_H} {tx : List Nat} {ts : List (Nat × Nat)} {i : Nat} (R : rTk h tx ts i) (h1 : ¬ tK ts i = 1) (h2 : ¬ tK ts i = 2) (k : ∀ h', am_fr h h' nxP → rTk h' tx ts (i + 1) → Q none h') : ex_ (d + 5) 237 0 [some (v_r (some 93)), none] [] h Q := by
  obtain ⟨b, e7, hb, hz⟩ := R.2.2.2.2.2.2
  exact c_next R.1 R.2.1 e7 hb (hz h1 h2) k
theorem c_eats_y {d : Nat} {Q : Option am_V → am_H → Prop} {h : am_H} {tx : List Nat} {ts : List (Nat × Nat)} {i k : Nat} (R : rTk h tx ts i) (w : h_i h 93 11 = nI 0) (hk : k < 42) (hk2 : k < 18 ∨ 30 ≤ k) (z : tK ts i = kT k) (K : ∀ h', am_fr h h' nxP → rTk h' tx ts (i + 1) → Q (some (v_i (nI 1))) h') : ex_ (d + 6) 240 0 [some (v_r (some 93)), some (v_i (nI k))] [] h Q := by
  have L := R.1
  have b := kT_b k hk hk2
  have z2 := (rk_k (t := tK ts i) hk hk2).2 z
  simp (disch := first | assumption | omega | (simp only [ya_pi, ya_pj, ya_pa, ya_pr, yo_pi, yo_pj, yo_pa, yf_pi, yf_pj, yf_pa, yh_pi, yh_pj, yh_pa, yt_pi, yt_pj, yt_pa, la_pi, la_pj, la_pa]; assumption)) only [b_X12_eats_0, b_X12_eats_5, b_X12_eats_10, i_lit, i_m1, i_31, il_t, il_f, iq_t, iq_f, it_t, it_f, im_e, im_l, im_g, im_g2, nI_add, pk_mul, i_sub, i_div, sdm, i_dec, i_cl, iv_t, bI_or2, bI_t0, bI_one, not_true_eq_false, not_false_eq_true, ↓reduceIte, am_tl, am_tn, am_t0, am_n0, and_true, true_and, List.cons_append, List.nil_append, List.append_nil, c_is R w (show k < 100 by omega), if_pos z2]
  refine R.next (by omega) (by omega) (fun h' fr R' => ?_)
  simp (disch := first | assumption | omega | (simp only [ya_pi, ya_pj, ya_pa, ya_pr, yo_pi, yo_pj, yo_pa, yf_pi, yf_pj, yf_pa, yh_pi, yh_pj, yh_pa, yt_pi, yt_pj, yt_pa, la_pi, la_pj, la_pa]; assumption)) only [b_X12_eats_14, i_lit, i_m1, i_31, il_t, il_f, iq_t, iq_f, it_t, it_f, im_e, im_l, im_g, im_g2, nI_add, pk_mul, i_sub, i_div, sdm, i_dec, i_cl, iv_t, bI_or2, bI_t0, bI_one, not_true_eq_false, not_false_eq_true, ↓reduceIte, am_tl, am_tn, am_t0, am_n0, and_true, true_and, List.cons_append, List.nil_append, List.append_nil]
  exact K h' fr R'
theorem c_eats_n {d : Nat} {Q : Option am_V → am_H → Prop} {h : am_H} {tx : List Nat} {ts : List (Nat × Nat)} {i k : Nat} (R : rTk h tx ts i) (w : h_i h 93 11 = nI 0) (hk : k < 42) (hk2 : k < 18 ∨ 30 ≤ k) (z : ¬ tK ts i = kT k) : ex_ (d + 1) 240 0 [some (v_r (some 93)), some (v_i (nI k))] [] h Q ↔ Q (some (v_i (nI 0))) h := by
  have L := R.1
  have z2 : ¬ rk (tK ts i) = k := fun u => z ((rk_k hk hk2).1 u)
  simp (disch := first | assumption | omega | (simp only [ya_pi, ya_pj, ya_pa, ya_pr, yo_pi, yo_pj, yo_pa, yf_pi, yf_pj, yf_pa, yh_pi, yh_pj, yh_pa, yt_pi, yt_pj, yt_pa, la_pi, la_pj, la_pa]; assumption)) only [b_X12_eats_0, b_X12_eats_5, b_X12_eats_8, i_lit, i_m1, i_31, il_t, il_f, iq_t, iq_f, it_t, it_f, im_e, im_l, im_g, im_g2, nI_add, pk_mul, i_sub, i_div, sdm, i_dec, i_cl, iv_t, bI_or2, bI_t0, bI_one, not_true_eq_false, not_false_eq_true, ↓reduceIte, am_tl, am_tn, am_t0, am_n0, and_true, true_and, List.cons_append, List.nil_append, List.append_nil, c_is R w (show k < 100 by omega), if_neg z2]
theorem c_eatsX {d : Nat} {Q : Option am_V → am_H → Prop} {h : am_H} {ts : List (Nat × Nat)} {e j : Nat} (X : rgX h ts e j) {v : Int32} : ex_ (d + 1) 240 0 [some (v_r (some 93)), some (v_i v)] [] h Q ↔ Q (some (v_i (nI 0))) h := by
  have L := X.1
  simp (disch := first | assumption | omega | (simp only [ya_pi, ya_pj, ya_pa, ya_pr, yo_pi, yo_pj, yo_pa, yf_pi, yf_pj, yf_pa, yh_pi, yh_pj, yh_pa, yt_pi, yt_pj, yt_pa, la_pi, la_pj, la_pa]; assumption)) only [b_X12_eats_0, b_X12_eats_5, b_X12_eats_8, i_lit, i_m1, i_31, il_t, il_f, iq_t, iq_f, it_t, it_f, im_e, im_l, im_g, im_g2, nI_add, pk_mul, i_sub, i_div, sdm, i_dec, i_cl, iv_t, bI_or2, bI_t0, bI_one, not_true_eq_false, not_false_eq_true, ↓reduceIte, am_tl, am_tn, am_t0, am_n0, and_true, true_and, List.cons_append, List.nil_append, List.append_nil, c_isX X]
