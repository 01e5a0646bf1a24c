/-! ===== the reference reads lines: what stands meanwhile; small steps ===== -/
def rlQ (q k : Nat) : Prop := (q = 93 ∧ (k = 6 ∨ k = 7 ∨ k = 9 ∨ k = 10 ∨ k = 11 ∨ k = 12 ∨ k = 15)) ∨ q = 97
theorem rg_rl {q k : Nat} (h : rgP q k) : rlQ q k := by unfold rgP at h; unfold rlQ; omega
theorem nx_rl {q k : Nat} (h : nxP q k) : rlQ q k := rg_rl (nx_rg h)
def rsF (h : am_H) (cs : List Nat) (law : Nat) (o : Option (List Nat)) : Prop := match o with
  | none => h_i h 97 (2 + law) = nI 0
  | some l => h_i h 97 (2 + law) = nI 1 ∧ ∃ a b, cs = a ++ (l ++ b) ∧ h_i h 97 (4 + law) = nI a.length ∧ h_i h 97 (6 + law) = nI l.length
def rlB (h : am_H) (cs : List Nat) (H : ho_S) : Prop := h_i h 97 0 = nI H.2.2.2 ∧ h_i h 97 1 = nI (f_n H.1) ∧ fb h 97 8 H.1 ∧ rsF h cs 0 H.2.1 ∧ rsF h cs 1 H.2.2.1 ∧ h_i h 97 139 = nI 0
def rlS (h0 h : am_H) (tx : List Nat) (ts : List (Nat × Nat)) (i : Nat) (H : ho_S) : Prop := rTk h tx ts i ∧ h_i h 93 11 = nI 0 ∧ am_fr h0 h rlQ ∧ H.2.2.2 ≤ i ∧ ∃ cs, rcA h cs ∧ cs.length ≤ i ∧ rlB h cs H
def rlX (h0 h : am_H) (ts : List (Nat × Nat)) (e j : Nat) : Prop := rgX h ts e j ∧ am_fr h0 h rlQ
def rlO (h0 : am_H) (tx : List Nat) (ts : List (Nat × Nat)) (r : lR_) (Q : Option am_V → am_H → Prop) : Prop := (r.1 = 0 → ∀ h', rlS h0 h' tx ts r.2.1 r.2.2 → Q none h') ∧ (¬ r.1 = 0 → ∀ h', rlX h0 h' ts r.1 r.2.1 → Q none h')
theorem rcA.fr {h h' : am_H} {P : Nat → Nat → Prop} {cs : List Nat} (C : rcA h cs) (fr : am_fr h h' P) (hp : ∀ k, 1450 ≤ k → ¬ P 97 k) : rcA h' cs := ⟨by rw [fr.i (hp _ (by omega))]; exact C.1, C.2.1, fun k hk => by rw [fr.i (hp _ (by omega))]; exact C.2.2 k hk⟩
theorem rsF.fr {h h' : am_H} {P : Nat → Nat → Prop} {cs : List Nat} {law : Nat} {o : Option (List Nat)} (A : rsF h cs law o) (fr : am_fr h h' P) (h2 : ¬ P 97 (2 + law)) (h4 : ¬ P 97 (4 + law)) (h6 : ¬ P 97 (6 + law)) : rsF h' cs law o := by
  cases o with
  | none => exact (fr.i h2).trans A
  | some l =>
    obtain ⟨a1, a, b, a2, a3, a4⟩ := A
    exact ⟨(fr.i h2).trans a1, a, b, a2, (fr.i h4).trans a3, (fr.i h6).trans a4⟩
theorem rsF.app {h : am_H} {cs : List Nat} {law : Nat} {o : Option (List Nat)} (A : rsF h cs law o) (d : List Nat) : rsF h (cs ++ d) law o := by
  cases o with
  | none => exact A
  | some l =>
    obtain ⟨a1, a, b, a2, a3, a4⟩ := A
    exact ⟨a1, a, b ++ d, by rw [a2]; simp only [List.append_assoc], a3, a4⟩
theorem rlB.fr {h h' : am_H} {P : Nat → Nat → Prop} {cs : List Nat} {H : ho_S} (B : rlB h cs H) (ok : fa_ok H.1) (fr : am_fr h h' P) (hp : ∀ k, k ≤ 139 → ¬ P 97 k) : rlB h' cs H := by
  obtain ⟨b1, b2, b3, b4, b5, b6⟩ := B
  exact ⟨(fr.i (hp _ (by omega))).trans b1, (fr.i (hp _ (by omega))).trans b2, fr.fb (fa4 ok) b3 (fun k h1 h2 => hp k (by omega)), b4.fr fr (hp _ (by omega)) (hp _ (by omega)) (hp _ (by omega)), b5.fr fr (hp _ (by omega)) (hp _ (by omega)) (hp _ (by omega)), (fr.i (hp _ (by omega))).trans b6⟩
theorem rlS.nx {h0 h h' : am_H} {tx : List Nat} {ts : List (Nat × Nat)} {i j : Nat} {H : ho_S} (S : rlS h0 h tx ts i H) (ok : fa_ok H.1) (fr : am_fr h h' nxP) (R : rTk h' tx ts j) (hj : i ≤ j) : rlS h0 h' tx ts j H := by
  obtain ⟨-, w, f, ln, cs, C, l, B⟩ := S
  exact ⟨R, by rw [fr.i (fun z => by unfold nxP at z; omega)]; exact w, f.tr (fr.le (fun _ _ z => nx_rl z)), by omega, cs, C.nx fr, by omega, B.fr ok fr (fun k _ z => by unfold nxP at z; omega)⟩
theorem rlX.rf {h0 h : am_H} {tx : List Nat} {ts : List (Nat × Nat)} {i k : Nat} (f : am_fr h0 h rlQ) (R : rTk h tx ts i) (hk : 0 < k) (h4 : k ≤ 4) : rlX h0 (rfR h ts k i) ts (pF ts k i).1 i := ⟨rfR_X R hk h4, f.tr (rfR_fr.le (fun _ _ z => rg_rl z))⟩
theorem rlS.no {h0 h : am_H} {tx : List Nat} {ts : List (Nat × Nat)} {i k : Nat} {H : ho_S} (S : rlS h0 h tx ts i H) (hk : 0 < k) (h4 : k ≤ 4) : rlX h0 (rfR h ts k i) ts (pF ts k i).1 i := rlX.rf S.2.2.1 S.1 hk h4
/-- facts alone change -/
theorem rlS.upd {h0 h h' : am_H} {tx : List Nat} {ts : List (Nat × Nat)} {i : Nat} {H : ho_S} {f : fa_S} (S : rlS h0 h tx ts i H) (fr : am_fr h h' (fun q k => q = 97 ∧ 8 ≤ k ∧ k ≤ 138)) (e : f_n f = f_n H.1) (F : fb h' 97 8 f) : rlS h0 h' tx ts i (f, H.2) := by
  obtain ⟨R, w, f0, ln, cs, C, l, b1, b2, b3, b4, b5, b6⟩ := S
  exact ⟨R.fr fr (fun k _ _ z => by omega) (fun k z => by omega), by rw [fr.i (by omega)]; exact w, f0.tr (fr.le (fun q k z => Or.inr z.1)), ln, cs, C.fr fr (fun k hk z => by omega), l, by rw [fr.i (by omega)]; exact b1, by rw [fr.i (by omega), b2]; show nI (f_n H.1) = nI (f_n f); rw [e], F, b4.fr fr (by omega) (by omega) (by omega), b5.fr fr (by omega) (by omega) (by omega), by rw [fr.i (by omega)]; exact b6⟩
/-! the end of a line -/
theorem c_closes {d : Nat} {Q : Option am_V → am_H → Prop} {h0 h : am_H} {tx : List Nat} {ts : List (Nat × Nat)} {i : Nat} {H : ho_S} (ok : fa_ok H.1) (S : rlS h0 h tx ts i H) (K : rlO h0 tx ts (zE ts i H) Q) : ex_ (d + 7) 259 0 [some (v_r (some 93))] [] h Q := by
  have L := S.1.1
  have w := S.2.1
  have k30 : kT 30 = 59 := by decide
  have n1 : ¬ nI 1 = 0 := by decide
  unfold zE at K
  by_cases y : tK ts i = 59
  · rw [pE_y y] at K
    rw [b_X12_closes_0 _ L]
    refine c_eats_y (d := d) (k := 30) S.1 w (by decide) (by decide) (by rw [k30]; exact y) (fun h1 fr1 R1 => ?_)
    have S1 := S.nx ok fr1 R1 (Nat.le_succ _)
    obtain ⟨-, w1, f1, ln, cs, C1, l1, b1, b2, b3, b4, b5, b6⟩ := S1
    have L1 := R1.1
    have ln0 := S.2.2.2.1
    show ex_ (d + 7) 259 6 [some (v_r (some 93))] [v_i (nI 1)] h1 Q
    simp (disch := first | assumption | omega | (simp only [ya_pi, ya_pj, ya_pa, ya_pr, yo_pi, yo_pj, yo_pa, yf_pi, yf_pj, yf_pa, yh_pi, yh_pj, yh_pa, yt_pi, yt_pj, yt_pa, la_pi, la_pj, la_pa]; assumption)) only [b_X12_closes_6, b_X12_closes_14, i_lit, i_m1, i_31, il_t, il_f, iq_t, iq_f, it_t, it_f, im_e, im_l, im_g, im_g2, nI_add, pk_mul, i_sub, i_div, sdm, i_dec, i_cl, iv_t, bI_or2, bI_t0, bI_one, not_true_eq_false, not_false_eq_true, ↓reduceIte, am_tl, am_tn, am_t0, am_n0, and_true, true_and, List.cons_append, List.nil_append, List.append_nil, b1]
    have fr : am_fr h1 (p_i h1 97 0 (nI (H.2.2.2 + 1))) (fun q k => q = 97 ∧ k = 0) := am_fr_pi ⟨rfl, rfl⟩
    exact K.1 rfl _ ⟨R1.fr fr (fun k _ _ z => by omega) (fun k z => by omega), by rw [fr.i (by omega)]; exact w1, f1.tr (fr.le (fun q k z => Or.inr z.1)), (by show H.2.2.2 + 1 ≤ i + 1; omega), cs, C1.fr fr (fun k hk z => by omega), l1, hi_s, by rw [fr.i (by omega)]; exact b2, fr.fb (fa4 ok) b3 (fun k h1 h2 z => by omega), b4.fr fr (by omega) (by omega) (by omega), b5.fr fr (by omega) (by omega) (by omega), by rw [fr.i (by omega)]; exact b6⟩
  · rw [pE_n y] at K
    have Y := S.no (k := 2) (by decide) (by decide)
    have LY := Y.1.1
    have n := fun Q => c_eats_n (d := d + 5) (Q := Q) (k := 30) S.1 w (by decide) (by decide) (by rw [k30]; exact y)
    have fl := fun Q => c_fails (d := d + 6) (Q := Q) (k := 2) S.1 w (by decide)
    simp (disch := first | assumption | omega | (simp only [ya_pi, ya_pj, ya_pa, ya_pr, yo_pi, yo_pj, yo_pa, yf_pi, yf_pj, yf_pa, yh_pi, yh_pj, yh_pa, yt_pi, yt_pj, yt_pa, la_pi, la_pj, la_pa]; assumption)) only [b_X12_closes_0, b_X12_closes_6, b_X12_closes_9, b_X12_closes_14, i_lit, i_m1, i_31, il_t, il_f, iq_t, iq_f, it_t, it_f, im_e, im_l, im_g, im_g2, nI_add, pk_mul, i_sub, i_div, sdm, i_dec, i_cl, iv_t, bI_or2, bI_t0, bI_one, not_true_eq_false, not_false_eq_true, ↓reduceIte, am_tl, am_tn, am_t0, am_n0, and_true, true_and, List.cons_append, List.nil_append, List.append_nil, n, fl]
    have fr : ∀ v, am_fr (rfR h ts 2 i) (p_i (rfR h ts 2 i) 97 0 v) (fun q k => q = 97 ∧ k = 0) := fun v => am_fr_pi ⟨rfl, rfl⟩
    refine K.2 (pF_ne (by decide)) _ ⟨⟨(fr _).lay LY, by rw [(fr _).i (by omega)]; exact Y.1.2.1, Y.1.2.2.1, Y.1.2.2.2.1, by rw [(fr _).i (by omega)]; exact Y.1.2.2.2.2⟩, Y.2.tr ((fr _).le (fun q k z => Or.inr z.1))⟩
theorem c_closesX {d : Nat} {Q : Option am_V → am_H → Prop} {h0 h : am_H} {ts : List (Nat × Nat)} {e j : Nat} (Y : rlX h0 h ts e j) (K : ∀ h', rlX h0 h' ts e j → Q none h') : ex_ (d + 7) 259 0 [some (v_r (some 93))] [] h Q := by
  have X := Y.1
  have L := X.1
  simp (disch := first | assumption | omega | (simp only [ya_pi, ya_pj, ya_pa, ya_pr, yo_pi, yo_pj, yo_pa, yf_pi, yf_pj, yf_pa, yh_pi, yh_pj, yh_pa, yt_pi, yt_pj, yt_pa, la_pi, la_pj, la_pa]; assumption)) only [b_X12_closes_0, b_X12_closes_6, b_X12_closes_9, b_X12_closes_14, i_lit, i_m1, i_31, il_t, il_f, iq_t, iq_f, it_t, it_f, im_e, im_l, im_g, im_g2, nI_add, pk_mul, i_sub, i_div, sdm, i_dec, i_cl, iv_t, bI_or2, bI_t0, bI_one, not_true_eq_false, not_false_eq_true, ↓reduceIte, am_tl, am_tn, am_t0, am_n0, and_true, true_and, List.cons_append, List.nil_append, List.append_nil, c_eatsX X, c_failsX X]
  have fr : ∀ v, am_fr h (p_i h 97 0 v) (fun q k => q = 97 ∧ k = 0) := fun v => am_fr_pi ⟨rfl, rfl⟩
  exact K _ ⟨⟨(fr _).lay L, by rw [(fr _).i (by omega)]; exact X.2.1, X.2.2.1, X.2.2.2.1, by rw [(fr _).i (by omega)]; exact X.2.2.2.2⟩, Y.2.tr ((fr _).le (fun q k z => Or.inr z.1))⟩
/-! numbers -/
theorem pB_F {ts : List (Nat × Nat)} {k i : Nat} {f : Nat → pR_} (hk : 0 < k) : pB (pF ts k i) f = pF ts k i := pB_n (pF_ne hk)
theorem tk_W {b v : Nat} (hb : b ≤ 1000) (hv : v < 1000) : ((nI v).toInt64 < (nI 0).toInt64 ∨ (nI b - nI 1).toInt64 < (nI v).toInt64) = ¬ v < b := by
  rw [nI_l (n := 0) (by omega), w_iff hb, nI_l (by omega)]
  apply propext
  constructor
  · exact fun u y => u (lh_k y)
  · exact fun u => lh_nk (by omega) (by omega) hb
theorem c_takes {d b : Nat} {Q : Option am_V → am_H → Prop} {h : am_H} {tx : List Nat} {ts : List (Nat × Nat)} {i : Nat} (G : gT ts) (R : rTk h tx ts i) (w : h_i h 93 11 = nI 0) (hb : b ≤ 1000) (Kg : 1000 ≤ tK ts i → tK ts i - 1000 < b → ∀ h', am_fr h h' nxP → rTk h' tx ts (i + 1) → Q (some (v_i (nI (tK ts i - 1000)))) h') (Kb : ∀ k v, pN ts b i = pF ts k i → 0 < k → k ≤ 4 → Q (some (v_i v)) (rfR h ts k i)) : ex_ (d + 6) 241 0 [some (v_r (some 93)), some (v_i (nI 0)), some (v_i (nI b - nI 1)), none] [] h Q := by
  have L := R.1
  have t4 := G.2.1 i
  have r25 := (rk_25 (t := tK ts i)).2.1
  have n1 : ¬ nI 1 = 0 := by decide
  have n00 : ¬ ¬ nI 0 = 0 := fun u => u rfl
  have is23 := fun Q => c_is (d := d + 5) (Q := Q) (k := 23) R w (by decide)
  by_cases z : 1000 ≤ tK ts i
  · have e10 := R.2.2.2.2.1 z
    rw [if_pos (r25.2 z)] at is23
    have P3 := fun y => pN_3 (ts := ts) (b := b) (i := i) z y
    obtain ⟨v, hv⟩ : ∃ v, v = tK ts i - 1000 := ⟨_, rfl⟩
    have Kg := Kg z
    rw [← hv] at Kg P3 e10
    rw [b_X12_takes_0 _ _ _ _ L, show (23 : Int32) = nI 23 from rfl, is23]
    show ex_ (d + 6) 241 6 [some (v_r (some 93)), some (v_i (nI 0)), some (v_i (nI b - nI 1)), none] [v_i (nI 1)] h Q
    rw [b_X12_takes_6 _ _ _ _ _ _, if_pos n1, b_X12_takes_17 _ _ _ _ L, e10, c_within]
    have W := tk_W (b := b) (v := v) hb (by omega)
    by_cases y : v < b
    · rw [if_neg (fun u => by rw [W] at u; exact u y)]
      show ex_ (d + 6) 241 29 [some (v_r (some 93)), some (v_i (nI 0)), some (v_i (nI b - nI 1)), none] [v_i (nI 1)] h Q
      have wn : ¬ ¬ h_i h 93 11 = 0 := fun u => u (by rw [w]; rfl)
      rw [b_X12_takes_29 _ _ _ _ _ _, if_pos n1, b_X12_takes_37 _ _ _ _ L, if_neg wn, e10, b_X12_takes_49 _ _ _ _ L]
      refine R.next (d := d) (by omega) (by omega) (fun h' fr R' => ?_)
      show ex_ (d + 6) 241 53 [some (v_r (some 93)), some (v_i (nI 0)), some (v_i (nI b - nI 1)), some (v_i (nI v))] [] h' Q
      rw [b_X12_takes_53 _ _ _ _ _]
      exact Kg y h' fr R'
    · rw [if_pos (by rw [W]; exact y)]
      show ex_ (d + 6) 241 29 [some (v_r (some 93)), some (v_i (nI 0)), some (v_i (nI b - nI 1)), none] [v_i (nI 0)] h Q
      have X := rfR_X (k := 3) R (by decide) (by decide)
      have LX := X.1
      have wx := X.2.1
      have x0 := X.2.2.1
      have x4 := X.2.2.2.1
      have fl := fun Q => c_fails (d := d + 5) (Q := Q) (k := 3) R w (by decide)
      simp (disch := first | assumption | omega | (simp only [ya_pi, ya_pj, ya_pa, ya_pr, yo_pi, yo_pj, yo_pa, yf_pi, yf_pj, yf_pa, yh_pi, yh_pj, yh_pa, yt_pi, yt_pj, yt_pa, la_pi, la_pj, la_pa]; assumption)) only [b_X12_takes_29, b_X12_takes_32, b_X12_takes_37, b_X12_takes_53, i_lit, i_m1, i_31, il_t, il_f, iq_t, iq_f, it_t, it_f, im_e, im_l, im_g, im_g2, nI_add, pk_mul, i_sub, i_div, sdm, i_dec, i_cl, iv_t, bI_or2, bI_t0, bI_one, not_true_eq_false, not_false_eq_true, ↓reduceIte, am_tl, am_tn, am_t0, am_n0, and_true, true_and, List.cons_append, List.nil_append, List.append_nil, fl, wx]
      exact Kb 3 _ (P3 y) (by decide) (by decide)
  · rw [if_neg (fun u => z (r25.1 u))] at is23
    have X := rfR_X (k := 2) R (by decide) (by decide)
    have LX := X.1
    have wx := X.2.1
    have x0 := X.2.2.1
    have x4 := X.2.2.2.1
    have fl := fun Q => c_fails (d := d + 5) (Q := Q) (k := 2) R w (by decide)
    simp (disch := first | assumption | omega | (simp only [ya_pi, ya_pj, ya_pa, ya_pr, yo_pi, yo_pj, yo_pa, yf_pi, yf_pj, yf_pa, yh_pi, yh_pj, yh_pa, yt_pi, yt_pj, yt_pa, la_pi, la_pj, la_pa]; assumption)) only [b_X12_takes_0, b_X12_takes_6, b_X12_takes_9, b_X12_takes_14, b_X12_takes_53, i_lit, i_m1, i_31, il_t, il_f, iq_t, iq_f, it_t, it_f, im_e, im_l, im_g, im_g2, nI_add, pk_mul, i_sub, i_div, sdm, i_dec, i_cl, iv_t, bI_or2, bI_t0, bI_one, not_true_eq_false, not_false_eq_true, ↓reduceIte, am_tl, am_tn, am_t0, am_n0, and_true, true_and, List.cons_append, List.nil_append, List.append_nil, is23, fl, wx]
    exact Kb 2 _ (pN_2 z) (by decide) (by decide)
theorem c_takesX {d : Nat} {Q : Option am_V → am_H → Prop} {h : am_H} {ts : List (Nat × Nat)} {e j : Nat} (X : rgX h ts e j) {l1 l2 : Option am_V} : ex_ (d + 1) 241 0 [some (v_r (some 93)), l1, l2, none] [] h Q ↔ Q (some (v_i (h_i h 93 10))) h := by
  have L := X.1
  have w := X.2.1
  have e0 := X.2.2.1
  have e4 := X.2.2.2.1
  simp (disch := first | assumption | omega | (simp only [ya_pi, ya_pj, ya_pa, ya_pr, yo_pi, yo_pj, yo_pa, yf_pi, yf_pj, yf_pa, yh_pi, yh_pj, yh_pa, yt_pi, yt_pj, yt_pa, la_pi, la_pj, la_pa]; assumption)) only [b_X12_takes_0, b_X12_takes_6, b_X12_takes_9, b_X12_takes_14, b_X12_takes_53, i_lit, i_m1, i_31, il_t, il_f, iq_t, iq_f, it_t, it_f, im_e, im_l, im_g, im_g2, nI_add, pk_mul, i_sub, i_div, sdm, i_dec, i_cl, iv_t, bI_or2, bI_t0, bI_one, not_true_eq_false, not_false_eq_true, ↓reduceIte, am_tl, am_tn, am_t0, am_n0, and_true, true_and, List.cons_append, List.nil_append, List.append_nil, c_isX X, c_failsX X, w]
theorem c_namedX {d : Nat} {Q : Option am_V → am_H → Prop} {h : am_H} {ts : List (Nat × Nat)} {e j : Nat} (X : rgX h ts e j) {x1 x2 x3 : Int32} : ex_ (d + 2) 253 0 [some (v_r (some 93)), some (v_i x1), some (v_i x2), some (v_i x3)] [] h Q ↔ Q (some (v_i (h_i h 93 10))) h := by
  have L := X.1
  simp (disch := first | assumption | omega | (simp only [ya_pi, ya_pj, ya_pa, ya_pr, yo_pi, yo_pj, yo_pa, yf_pi, yf_pj, yf_pa, yh_pi, yh_pj, yh_pa, yt_pi, yt_pj, yt_pa, la_pi, la_pj, la_pa]; assumption)) only [b_X12_named_0, b_X12_named_5, b_X12_named_8, b_X12_named_13, b_X12_named_19, i_lit, i_m1, i_31, il_t, il_f, iq_t, iq_f, it_t, it_f, im_e, im_l, im_g, im_g2, nI_add, pk_mul, i_sub, i_div, sdm, i_dec, i_cl, iv_t, bI_or2, bI_t0, bI_one, not_true_eq_false, not_false_eq_true, ↓reduceIte, am_tl, am_tn, am_t0, am_n0, and_true, true_and, List.cons_append, List.nil_append, List.append_nil, c_eatsX X, c_failsX X, c_takesX X]
theorem c_named {d b k : Nat} {Q : Option am_V → am_H → Prop} {h : am_H} {tx : List Nat} {ts : List (Nat × Nat)} {i : Nat} (G : gT ts) (R : rTk h tx ts i) (w : h_i h 93 11 = nI 0) (hb : b ≤ 1000) (hk : k < 42) (hk2 : k < 18 ∨ 30 ≤ k) (Kg : tK ts i = kT k → 1000 ≤ tK ts (i + 1) → tK ts (i + 1) - 1000 < b → ∀ h', am_fr h h' nxP → rTk h' tx ts (i + 2) → Q (some (v_i (nI (tK ts (i + 1) - 1000)))) h') (Kb : ∀ q j v h', pB (pE ts (kT k) i) (pN ts b) = pF ts q j → 0 < q → q ≤ 4 → am_fr h h' rgP → rgX h' ts (pF ts q j).1 j → Q (some (v_i v)) h') : ex_ (d + 7) 253 0 [some (v_r (some 93)), some (v_i (nI k)), some (v_i (nI 0)), some (v_i (nI b - nI 1))] [] h Q := by
  have L := R.1
  have n1 : ¬ nI 1 = 0 := by decide
  by_cases y : tK ts i = kT k
  · rw [pE_y y, pB_1] at Kb
    rw [b_X12_named_0 _ _ _ _ L]
    refine c_eats_y (d := d) R w hk hk2 y (fun h1 fr1 R1 => ?_)
    have L1 := R1.1
    have w1 : h_i h1 93 11 = nI 0 := by rw [fr1.i (fun z => by unfold nxP at z; omega)]; exact w
    show ex_ (d + 7) 253 5 [some (v_r (some 93)), some (v_i (nI k)), some (v_i (nI 0)), some (v_i (nI b - nI 1))] [v_i (nI 1)] h1 Q
    rw [b_X12_named_5 _ _ _ _ _ _, if_pos n1, b_X12_named_13 _ _ _ _ L1]
    refine c_takes (d := d) G R1 w1 hb (fun z1 z2 h2 fr2 R2 => ?_) (fun q v e hq h4 => ?_)
    · show ex_ (d + 7) 253 19 [some (v_r (some 93)), some (v_i (nI k)), some (v_i (nI 0)), some (v_i (nI b - nI 1))] [v_i (nI (tK ts (i + 1) - 1000))] h2 Q
      rw [b_X12_named_19 _ _ _ _ _ _]
      exact Kg y z1 z2 h2 (fr1.tr fr2) R2
    · show ex_ (d + 7) 253 19 [some (v_r (some 93)), some (v_i (nI k)), some (v_i (nI 0)), some (v_i (nI b - nI 1))] [v_i v] _ Q
      rw [b_X12_named_19 _ _ _ _ _ _]
      exact Kb q (i + 1) v _ e hq h4 ((nx_fr fr1).tr rfR_fr) (rfR_X R1 hq h4)
  · rw [pE_n y, pB_F (by decide)] at Kb
    have X := rfR_X (k := 2) R (by decide) (by decide)
    have LX := X.1
    have n := fun Q => c_eats_n (d := d + 5) (Q := Q) R w hk hk2 y
    have fl := fun Q => c_fails (d := d + 6) (Q := Q) (k := 2) R w (by decide)
    have tx1 := fun Q => c_takesX (d := d + 5) (Q := Q) (l1 := some (v_i (nI 0))) (l2 := some (v_i (nI b - nI 1))) X
    rw [b_X12_named_0 _ _ _ _ L, n]
    show ex_ (d + 7) 253 5 [some (v_r (some 93)), some (v_i (nI k)), some (v_i (nI 0)), some (v_i (nI b - nI 1))] [v_i (nI 0)] h Q
    have n00 : ¬ ¬ nI 0 = 0 := fun u => u rfl
    rw [b_X12_named_5 _ _ _ _ _ _, if_neg n00, b_X12_named_8 _ _ _ _ L, show (2 : Int32) = nI 2 from rfl, fl]
    show ex_ (d + 7) 253 13 [some (v_r (some 93)), some (v_i (nI k)), some (v_i (nI 0)), some (v_i (nI b - nI 1))] [] (rfR h ts 2 i) Q
    rw [b_X12_named_13 _ _ _ _ LX, tx1]
    show ex_ (d + 7) 253 19 [some (v_r (some 93)), some (v_i (nI k)), some (v_i (nI 0)), some (v_i (nI b - nI 1))] [v_i _] (rfR h ts 2 i) Q
    rw [b_X12_named_19 _ _ _ _ _ _]
    exact Kb 2 i _ _ rfl (by decide) (by decide) rfR_fr X
