/-! ===== the reference reads laws: atoms ===== -/
theorem oI_w {sy : Bool} {t w : Nat} (h : wO sy t = some w) : ¬ nI w = (-1 : Int32) ∧ w < 10 := by
  have hw : w < 10 := by have := (wO_lt h).2.2; omega
  have : ∀ w, w < 10 → ¬ nI w = (-1 : Int32) := by decide
  exact ⟨this w hw, hw⟩
theorem c_rAtom {e n : Nat} {tx : List Nat} {ts : List (Nat × Nat)} {sy : Bool} (G : gT ts) (hn : n ≤ 6) (C : ∀ m, n = m + 1 → rLv tx ts sy m (e + 7)) : rRd 246 [some (v_r (some 93)), some (v_i (nI (6 - n)))] (e + 9) (pA ts sy (lo ts sy n)) tx ts sy := by
  intro Q h i cs S hc K
  have hi := S.1.2.2.2.2.2.1
  have L := S.1.1
  have G3 := G.2.2.1
  have e9 := S.1.2.2.2.1
  have w0 := S.2.2.2
  have e15 := S.2.2.1
  have r25 := rk_25 (t := tK ts i)
  have isk := fun k (hk : k < 100) Q => c_is (d := e + 8) (Q := Q) (k := k) S.1 w0 hk
  have n1 : ¬ nI 1 = 0 := by decide
  have n0 : nI 0 = 0 := rfl
  unfold pA at K
  rw [b_X12_readAtom_0 _ _ L, show (23 : Int32) = nI 23 from rfl, isk 23 (by decide)]
  show ex_ (e + 9) 246 6 [some (v_r (some 93)), some (v_i (nI (6 - n)))] [v_i (nI (if rk (tK ts i) = 23 then 1 else 0))] h Q
  by_cases z : 1000 ≤ tK ts i
  · rw [if_pos z] at K
    have e10 := S.1.2.2.2.2.1 z
    have i1 := G.1 i (by omega)
    rw [if_pos (r25.2.1.2 z), b_X12_readAtom_6 _ _ _ _, if_neg n1, b_X12_readAtom_9 _ _ L, e10]
    refine c_codes S (by omega) (fun h1 fr1 S1 => ?_)
    have L1 := S1.1.1
    show ex_ (e + 9) 246 17 [some (v_r (some 93)), some (v_i (nI (6 - n)))] [] h1 Q
    rw [b_X12_readAtom_17 _ _ L1]
    refine S1.1.next (by omega) (by omega) (fun h2 fr2 R2 => ?_)
    show ex_ (e + 9) 246 21 [some (v_r (some 93)), some (v_i (nI (6 - n)))] [] h2 Q
    rw [b_X12_readAtom_21 _ _ _]
    exact K.1 rfl h2 (fr1.tr (nx_fr fr2)) (S1.nx fr2 R2)
  · rw [if_neg z] at K
    have wn : ¬ ¬ h_i h 93 11 = 0 := fun u => u (by rw [w0]; rfl)
    rw [if_neg (fun u => z (r25.2.1.1 u)), b_X12_readAtom_6 _ _ _ _, if_pos n0, b_X12_readAtom_24 _ _ L, if_neg wn, b_X12_readAtom_31 _ _ L, e9, c_wordOf L e15]
    show ex_ (e + 9) 246 39 [some (v_r (some 93)), some (v_i (nI (6 - n)))] [v_i (oI (wO sy (tK ts i)))] h Q
    have k35 : kT 35 = 40 ∧ kT 9 = 209 ∧ kT 36 = 41 := by decide
    have r35 := rk_k (t := tK ts i) (k := 35) (by decide) (by decide)
    have r9 := rk_k (t := tK ts i) (k := 9) (by decide) (by decide)
    rw [k35.1] at r35
    rw [k35.2.1] at r9
    cases w : wO sy (tK ts i) with
    | some v =>
      have wl := wO_lt w
      have i1 := G.1 i wl.2.1
      have ov := oI_w w
      have t40 : ¬ tK ts i = 40 := fun u => by rw [u] at w; unfold wO at w; simp at w
      have t209 : ¬ tK ts i = 209 := fun u => by rw [u] at w; unfold wO at w; simp at w
      rw [if_neg t40, if_neg t209, w] at K
      show ex_ (e + 9) 246 39 [some (v_r (some 93)), some (v_i (nI (6 - n)))] [v_i (nI v)] h Q
      rw [b_X12_readAtom_39 _ _ _ _, if_neg ov.1, b_X12_readAtom_43 _ _ L, e9, c_wordOf L e15, w]
      show ex_ (e + 9) 246 55 [some (v_r (some 93)), some (v_i (nI (6 - n)))] [v_i (nI v), v_i (1000 : Int32), v_r (some 93)] h Q
      rw [b_X12_readAtom_55 _ _ _ _ _ L, show (1000 : Int32) + nI v = nI (1000 + v) from nI_add 1000 v]
      refine c_codes S (by omega) (fun h1 fr1 S1 => ?_)
      have L1 := S1.1.1
      show ex_ (e + 9) 246 59 [some (v_r (some 93)), some (v_i (nI (6 - n)))] [] h1 Q
      rw [b_X12_readAtom_59 _ _ L1]
      refine S1.1.next (by omega) (fun u => by rw [u] at w; unfold wO at w; simp at w) (fun h2 fr2 R2 => ?_)
      show ex_ (e + 9) 246 63 [some (v_r (some 93)), some (v_i (nI (6 - n)))] [] h2 Q
      rw [b_X12_readAtom_63 _ _ _]
      exact K.1 rfl h2 (fr1.tr (nx_fr fr2)) (S1.nx fr2 R2)
    | none =>
      have m1 : oI (none : Option Nat) = (-1 : Int32) := rfl
      rw [w] at K
      rw [m1, b_X12_readAtom_39 _ _ _ _, if_pos rfl, b_X12_readAtom_66 _ _ L, show (35 : Int32) = nI 35 from rfl, isk 35 (by decide)]
      show ex_ (e + 9) 246 72 [some (v_r (some 93)), some (v_i (nI (6 - n)))] [v_i (nI (if rk (tK ts i) = 35 then 1 else 0))] h Q
      by_cases y : tK ts i = 40
      · rw [if_pos y] at K
        have i1 := G.1 i (by omega)
        rw [if_pos (r35.2 y), b_X12_readAtom_72 _ _ _ _, if_neg n1, b_X12_readAtom_75 _ _ L]
        cases n with
        | zero =>
          rw [c_goes_n S.1 w0]
          show ex_ (e + 9) 246 80 [some (v_r (some 93)), some (v_i (nI (6 - 0)))] [v_i (nI 0)] _ Q
          have n00 : ¬ ¬ nI 0 = 0 := fun u => u rfl
          rw [b_X12_readAtom_80 _ _ _ _, if_neg n00, b_X12_readAtom_83 _ _ _]
          exact K.no (by decide) (by decide) S.1
        | succ m =>
          have K : rOK tx ts sy cs (pB ((gN ts sy m).1 (i + 1)) (pE ts 41)) h Q := K
          have dp : nI (6 - (m + 1)) + 1 = nI (6 - m) := by
            rw [show (1 : Int32) = nI 1 from rfl, nI_add]
            congr 1
            omega
          refine c_goes_y (d := e + 2) S.1 w0 (by omega) (by omega) (by omega) (fun h1 fr1 R1 => ?_)
          have S1 := S.nx fr1 R1
          have L1 := R1.1
          show ex_ (e + 9) 246 80 [some (v_r (some 93)), some (v_i (nI (6 - (m + 1))))] [v_i (nI 1)] h1 Q
          rw [b_X12_readAtom_80 _ _ _ _, if_pos n1, b_X12_readAtom_84 _ _ L1, dp]
          refine ((C m rfl).1.deep (by omega)) _ _ _ _ S1 (by omega) ⟨fun z2 h2 fr2 S2 => ?_, fun z2 h2 fr2 X2 => ?_⟩
          · have K2 := K.go z2 ((nx_fr fr1).tr fr2)
            have L2 := S2.1.1
            clear K
            generalize ((gN ts sy m).1 (i + 1)).2.1 = j2 at S2 K2
            generalize cs ++ ((gN ts sy m).1 (i + 1)).2.2 = c2 at S2 K2
            show ex_ (e + 9) 246 91 [some (v_r (some 93)), some (v_i (nI (6 - (m + 1))))] [] h2 Q
            rw [b_X12_readAtom_91 _ _ L2]
            by_cases y2 : tK ts j2 = 41
            · refine c_eats_y (d := e + 2) (k := 36) S2.1 S2.2.2.2 (by decide) (by decide) (by rw [k35.2.2]; exact y2) (fun h3 fr3 R3 => ?_)
              show ex_ (e + 9) 246 97 [some (v_r (some 93)), some (v_i (nI (6 - (m + 1))))] [v_i (nI 1)] h3 Q
              rw [b_X12_readAtom_97 _ _ _ _, if_pos n1, b_X12_readAtom_130 _ _ _]
              rw [pE_y y2] at K2
              refine K2.1 rfl h3 (nx_fr fr3) ?_
              have e7 : c2 ++ ((0, j2 + 1, []) : pR_).2.2 = c2 := List.append_nil c2
              rw [e7]
              exact S2.nx fr3 R3
            · have n := fun Q => c_eats_n (d := e + 7) (Q := Q) (k := 36) S2.1 S2.2.2.2 (by decide) (by decide) (by rw [k35.2.2]; exact y2)
              have fl := fun Q => c_fails (d := e + 8) (Q := Q) (k := 2) S2.1 S2.2.2.2 (by decide)
              rw [pE_n y2] at K2
              have X := K2.no (by decide) (by decide) S2.1
              simp (disch := first | assumption | omega | (simp only [ya_pi, ya_pj, ya_pa, ya_pr, yo_pi, yo_pj, yo_pa, yf_pi, yf_pj, yf_pa, yh_pi, yh_pj, yh_pa, yt_pi, yt_pj, yt_pa, la_pi, la_pj, la_pa]; assumption)) only [b_X12_readAtom_97, b_X12_readAtom_100, b_X12_readAtom_105, i_lit, i_m1, i_31, il_t, il_f, iq_t, iq_f, it_t, it_f, im_e, im_l, im_g, im_g2, nI_add, pk_mul, i_sub, i_div, sdm, i_dec, i_cl, iv_t, bI_or2, bI_t0, bI_one, not_true_eq_false, not_false_eq_true, ↓reduceIte, am_tl, am_tn, am_t0, am_n0, and_true, true_and, List.cons_append, List.nil_append, List.append_nil, n, fl]
              exact X
          · have L2 := X2.1
            show ex_ (e + 9) 246 91 [some (v_r (some 93)), some (v_i (nI (6 - (m + 1))))] [] h2 Q
            simp (disch := first | assumption | omega | (simp only [ya_pi, ya_pj, ya_pa, ya_pr, yo_pi, yo_pj, yo_pa, yf_pi, yf_pj, yf_pa, yh_pi, yh_pj, yh_pa, yt_pi, yt_pj, yt_pa, la_pi, la_pj, la_pa]; assumption)) only [b_X12_readAtom_91, b_X12_readAtom_97, b_X12_readAtom_100, b_X12_readAtom_105, i_lit, i_m1, i_31, il_t, il_f, iq_t, iq_f, it_t, it_f, im_e, im_l, im_g, im_g2, nI_add, pk_mul, i_sub, i_div, sdm, i_dec, i_cl, iv_t, bI_or2, bI_t0, bI_one, not_true_eq_false, not_false_eq_true, ↓reduceIte, am_tl, am_tn, am_t0, am_n0, and_true, true_and, List.cons_append, List.nil_append, List.append_nil, c_eatsX X2, c_failsX X2]
            exact K.stop z2 ((nx_fr fr1).tr fr2) X2
      · rw [if_neg y] at K
        rw [if_neg (fun u => y (r35.1 u)), b_X12_readAtom_72 _ _ _ _, if_pos n0, b_X12_readAtom_108 _ _ L, show (9 : Int32) = nI 9 from rfl, isk 9 (by decide)]
        show ex_ (e + 9) 246 114 [some (v_r (some 93)), some (v_i (nI (6 - n)))] [v_i (nI (if rk (tK ts i) = 9 then 1 else 0))] h Q
        by_cases x : tK ts i = 209
        · rw [if_pos x] at K
          rw [if_pos (r9.2 x), b_X12_readAtom_114 _ _ _ _, if_neg n1, b_X12_readAtom_117 _ _ L]
          have go : ex_ (e + 8) 248 0 [some (v_r (some 93)), some (v_i (nI (6 - n)))] [] h (fun r h' => r = none ∧ Q none h') := by
            cases n with
            | zero =>
              have n00 : ¬ ¬ nI 0 = 0 := fun u => u rfl
              rw [b_X12_readIf_0 _ _ L, c_goes_n S.1 w0]
              show ex_ (e + 8) 248 5 [some (v_r (some 93)), some (v_i (nI (6 - 0)))] [v_i (nI 0)] _ _
              rw [b_X12_readIf_5 _ _ _ _, if_neg n00, b_X12_readIf_8 _ _ _]
              exact ⟨rfl, K.no (by decide) (by decide) S.1⟩
            | succ m =>
              have K : rOK tx ts sy cs (pIf ts (gN ts sy m) (i + 1)) h Q := K
              exact c_rIf G hn (C m rfl) S hc x ⟨fun z h' fr S' => ⟨rfl, K.1 z h' fr S'⟩, fun z h' fr X' => ⟨rfl, K.2 z h' fr X'⟩⟩
          refine go.mono ?_
          rintro r h' ⟨rfl, q⟩
          show ex_ (e + 9) 246 122 [some (v_r (some 93)), some (v_i (nI (6 - n)))] [] h' Q
          rw [b_X12_readAtom_122 _ _ _]
          exact q
        · rw [if_neg x] at K
          have fl := fun Q => c_fails (d := e + 8) (Q := Q) (k := 2) S.1 w0 (by decide)
          have X := K.no (by decide) (by decide) S.1
          rw [if_neg (fun u => x (r9.1 u)), b_X12_readAtom_114 _ _ _ _, if_pos n0]
          simp (disch := first | assumption | omega | (simp only [ya_pi, ya_pj, ya_pa, ya_pr, yo_pi, yo_pj, yo_pa, yf_pi, yf_pj, yf_pa, yh_pi, yh_pj, yh_pa, yt_pi, yt_pj, yt_pa, la_pi, la_pj, la_pa]; assumption)) only [b_X12_readAtom_125, b_X12_readAtom_130, i_lit, i_m1, i_31, il_t, il_f, iq_t, iq_f, it_t, it_f, im_e, im_l, im_g, im_g2, nI_add, pk_mul, i_sub, i_div, sdm, i_dec, i_cl, iv_t, bI_or2, bI_t0, bI_one, not_true_eq_false, not_false_eq_true, ↓reduceIte, am_tl, am_tn, am_t0, am_n0, and_true, true_and, List.cons_append, List.nil_append, List.append_nil, fl]
          exact X
