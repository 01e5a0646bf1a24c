def at_u (s : Option (Nat × Nat)) (a code : Nat) : Option (Nat × Nat) := match s with
  | none => some (a, code)
  | some (l, c) => if a < l then some (a, code) else some (l, c)
def atm (A : Nat → Nat → Nat) (c : Nat) (s : Option (Nat × Nat)) : Nat → Option (Nat × Nat)
  | 0 => s
  | m + 1 => at_u (atm A c s m) (A c m) (10 * c + m)
def atc (A : Nat → Nat → Nat) (O : Nat → Bool) : Nat → Option (Nat × Nat)
  | 0 => none
  | c + 1 => if O c = true then atm A c (atc A O c) 8 else atc A O c
/-- what a pair of locals holds of it -/
def atI (s : Option (Nat × Nat)) (far : Nat) (best least : Int32) : Prop := best = oI (s.map (fun x => x.2)) ∧ least = nI ((s.map (fun x => x.1)).getD far) ∧ ∀ x, s = some x → x.1 ≤ 10
theorem atI_y {s : Option (Nat × Nat)} {far a code : Nat} {best least : Int32} (hf : 10 < far) (ha : a ≤ 10) (I : atI s far best least) (h : nI a < least) (hfar : far < 2147483648) : atI (at_u s a code) far (nI code) (nI a) := by
  cases s with
  | none => exact ⟨rfl, rfl, fun x hx => by cases hx; exact ha⟩
  | some q =>
    obtain ⟨l, c⟩ := q
    obtain ⟨-, e, l10⟩ := I
    have l10 := l10 _ rfl
    rw [e] at h
    have : a < l := (nI_ltI (by omega) (by dsimp only at l10; show l < 2147483648; omega)).1 h
    rw [at_u, if_pos this]
    exact ⟨rfl, rfl, fun x hx => by cases hx; exact ha⟩
theorem atI_n {s : Option (Nat × Nat)} {far a code : Nat} {best least : Int32} (hf : 10 < far) (ha : a ≤ 10) (I : atI s far best least) (h : ¬ nI a < least) (hfar : far < 2147483648) : atI (at_u s a code) far best least := by
  cases s with
  | none =>
    obtain ⟨-, e, -⟩ := I
    exact absurd (by rw [e]; exact nI_lt (show a < far by omega) hfar) h
  | some q =>
    obtain ⟨l, c⟩ := q
    obtain ⟨e1, e, l10⟩ := I
    have l10' := l10 _ rfl
    dsimp only at l10'
    rw [e] at h
    have : ¬ a < l := fun w => h (nI_lt w (show l < 2147483648 by omega))
    rw [at_u, if_neg this]
    exact ⟨e1, e, l10⟩
def atA (S : St) (vs : List Int64) (c m : Nat) : Nat := mal (fun md => an (s_f S) (s_H S).2.1 (s_H S).2.2.1 c m (nI md)) (bl (moP (s_f S) (s_H S).2.1 (s_H S).2.2.1 vs) 10)
def t_attempt (S : St) (x : Int32) : Int32 := if tdC (s_f S) (s_t S) x = nI 0 then (if bs (bl (moP (s_f S) (s_H S).2.1 (s_H S).2.2.1 (s_t S x.toNatClampNeg).2) 10) = 0 then mI else oI ((atc (atA S (s_t S x.toNatClampNeg).2) (fun c => (fT (s_f S) c).1 == 0) (f_n (s_f S))).map (fun x => x.2))) else tdC (s_f S) (s_t S) x
theorem c_attempt {d : Nat} {Q : Option am_V → am_H → Prop} {h : am_H} {S : St} {x : Int32} {l2 l3 l4 l5 l6 l7 lx : Option am_V} (ok : St_ok S) (C : cI h S) (k : ∀ h', am_fr h h' cS → Q (some (v_i (t_attempt S x))) h') : ex_ (d + 6) 218 0 [some (v_r (some 0)), some (v_i x), l2, l3, l4, l5, l6, l7, lx] [] h Q := by
  have L := C.1
  have gd : fa_gd (s_f S) := ok.1.1.1
  have n10 : f_n (s_f S) ≤ 10 := gd.1.1
  have T := C.2.2.2.1
  unfold t_attempt at k
  rcases tdC_cs (f := s_f S) (s_t S) x with z | ⟨z, t, ht, rfl, l1, l8, al⟩
  · rw [if_neg z] at k
    simp (disch := first | assumption | omega | (simp only [ya_pi, ya_pj, ya_pa, ya_pr, yo_pi, yo_pj, yo_pa, yf_pi, yf_pj, yf_pa, yh_pi, yh_pj, yh_pa, yt_pi, yt_pj, yt_pa, la_pi, la_pj, la_pa]; assumption)) only [b_X11_attempt_0, b_X11_attempt_5, b_X11_attempt_12, b_X11_attempt_10, b_X11_attempt_22, b_X11_attempt_29, b_X11_attempt_27, b_X11_attempt_123, b_X11_attempt_54, b_X11_attempt_117, b_X11_attempt_64, b_X11_attempt_73, b_X11_attempt_76, b_X11_attempt_88, b_X11_attempt_111, b_X11_attempt_97, i_lit, i_m1, i_31, il_t, il_f, iq_t, iq_f, it_t, it_f, im_e, im_l, im_g, im_g2, nI_add, pk_mul, i_sub, i_div, sdm, i_dec, i_cl, iv_t, bI_or2, bI_t0, bI_one, not_true_eq_false, not_false_eq_true, ↓reduceIte, am_tl, am_tn, am_t0, am_n0, and_true, true_and, List.cons_append, List.nil_append, List.append_nil, c_toldCode gd.1 C.cQ T, z]
    exact k h am_fr.rf
  · rw [if_pos z, nI_clamp (by omega)] at k
    have er := tr_ref L ht
    simp (disch := first | assumption | omega | (simp only [ya_pi, ya_pj, ya_pa, ya_pr, yo_pi, yo_pj, yo_pa, yf_pi, yf_pj, yf_pa, yh_pi, yh_pj, yh_pa, yt_pi, yt_pj, yt_pa, la_pi, la_pj, la_pa]; assumption)) only [b_X11_attempt_0, b_X11_attempt_5, b_X11_attempt_12, b_X11_attempt_10, b_X11_attempt_22, b_X11_attempt_29, b_X11_attempt_27, b_X11_attempt_123, b_X11_attempt_54, b_X11_attempt_117, b_X11_attempt_64, b_X11_attempt_73, b_X11_attempt_76, b_X11_attempt_88, b_X11_attempt_111, b_X11_attempt_97, i_lit, i_m1, i_31, il_t, il_f, iq_t, iq_f, it_t, it_f, im_e, im_l, im_g, im_g2, nI_add, pk_mul, i_sub, i_div, sdm, i_dec, i_cl, iv_t, bI_or2, bI_t0, bI_one, not_true_eq_false, not_false_eq_true, ↓reduceIte, am_tl, am_tn, am_t0, am_n0, and_true, true_and, List.cons_append, List.nil_append, List.append_nil, c_toldCode gd.1 C.cQ T, z, er]
    refine c_moodsOf ok C ht l8 al (fun h1 fr1 => ?_)
    have blt := bs_lt (bl (moP (s_f S) (s_H S).2.1 (s_H S).2.2.1 (s_t S t).2) 10)
    by_cases w : bs (bl (moP (s_f S) (s_H S).2.1 (s_H S).2.2.1 (s_t S t).2) 10) = 0
    · rw [if_pos w] at k
      simp (disch := first | assumption | omega | (simp only [ya_pi, ya_pj, ya_pa, ya_pr, yo_pi, yo_pj, yo_pa, yf_pi, yf_pj, yf_pa, yh_pi, yh_pj, yh_pa, yt_pi, yt_pj, yt_pa, la_pi, la_pj, la_pa]; assumption)) only [b_X11_attempt_0, b_X11_attempt_5, b_X11_attempt_12, b_X11_attempt_10, b_X11_attempt_22, b_X11_attempt_29, b_X11_attempt_27, b_X11_attempt_123, b_X11_attempt_54, b_X11_attempt_117, b_X11_attempt_64, b_X11_attempt_73, b_X11_attempt_76, b_X11_attempt_88, b_X11_attempt_111, b_X11_attempt_97, i_lit, i_m1, i_31, il_t, il_f, iq_t, iq_f, it_t, it_f, im_e, im_l, im_g, im_g2, nI_add, pk_mul, i_sub, i_div, sdm, i_dec, i_cl, iv_t, bI_or2, bI_t0, bI_one, not_true_eq_false, not_false_eq_true, ↓reduceIte, am_tl, am_tn, am_t0, am_n0, and_true, true_and, List.cons_append, List.nil_append, List.append_nil, w]
      exact k h1 fr1
    · rw [if_neg w] at k
      simp (disch := first | assumption | omega | (simp only [ya_pi, ya_pj, ya_pa, ya_pr, yo_pi, yo_pj, yo_pa, yf_pi, yf_pj, yf_pa, yh_pi, yh_pj, yh_pa, yt_pi, yt_pj, yt_pa, la_pi, la_pj, la_pa]; assumption)) only [b_X11_attempt_0, b_X11_attempt_5, b_X11_attempt_12, b_X11_attempt_10, b_X11_attempt_22, b_X11_attempt_29, b_X11_attempt_27, b_X11_attempt_123, b_X11_attempt_54, b_X11_attempt_117, b_X11_attempt_64, b_X11_attempt_73, b_X11_attempt_76, b_X11_attempt_88, b_X11_attempt_111, b_X11_attempt_97, i_lit, i_m1, i_31, il_t, il_f, iq_t, iq_f, it_t, it_f, im_e, im_l, im_g, im_g2, nI_add, pk_mul, i_sub, i_div, sdm, i_dec, i_cl, iv_t, bI_or2, bI_t0, bI_one, not_true_eq_false, not_false_eq_true, ↓reduceIte, am_tl, am_tn, am_t0, am_n0, and_true, true_and, List.cons_append, List.nil_append, List.append_nil, w]
      have hA : ∀ c m, mal (fun md => an (s_f S) (s_H S).2.1 (s_H S).2.2.1 c m (nI md)) (bl (moP (s_f S) (s_H S).2.1 (s_H S).2.2.1 (s_t S t).2) 10) = atA S (s_t S t).2 c m := fun _ _ => rfl
      generalize hP : bl (moP (s_f S) (s_H S).2.1 (s_H S).2.2.1 (s_t S t).2) 10 = P at hA
      generalize atA S (s_t S t).2 = A at k hA
      have A10 : ∀ c m, A c m ≤ 10 := fun c m => by rw [← hA]; exact mal_le
      have I0 : atI none 11 mI (nI 11) := ⟨rfl, rfl, fun x hx => by cases hx⟩
      refine lp_up (f_n (s_f S)) (fun i (s : Int32 × Int32 × Option am_V × Option am_V) => [some (v_r (some 0)), some (v_i (nI t)), some (v_i (nI 0)), some (v_i (nI (bs P))), some (v_i s.1), some (v_i s.2.1), some (v_i (nI i)), s.2.2.1, s.2.2.2]) (fun i s h' => am_fr h h' cS ∧ atI (atc A (fun c => (fT (s_f S) c).1 == 0) i) 11 s.1 s.2.1) ?_ ?_ (Nat.zero_le _) ⟨fr1, I0⟩ (s := (mI, nI 11, l7, lx))
      · rintro i ⟨be, le, m7, m8⟩ h2 hi ⟨fr2, I2⟩ nxt
        dsimp only at I2 nxt ⊢
        have C2 := C.q ok fr2
        have L2 := C2.1
        have e0 := C2.cQ.2.1.2.1
        have i11 : i < 11 := by omega
        rw [b_X11_attempt_39 _ _ _ _ _ _ _ _ _ L2]
        rcases T_st gd.1 hi with ⟨sa, na⟩ | ⟨sa, na⟩
        · have la := (fT_ok gd.1 _ hi).2.2.2.2
          simp (disch := first | assumption | omega | (simp only [ya_pi, ya_pj, ya_pa, ya_pr, yo_pi, yo_pj, yo_pa, yf_pi, yf_pj, yf_pa, yh_pi, yh_pj, yh_pa, yt_pi, yt_pj, yt_pa, la_pi, la_pj, la_pa]; assumption)) only [b_X11_attempt_54, i_lit, i_m1, i_31, il_t, il_f, iq_t, iq_f, it_t, it_f, im_e, im_l, im_g, im_g2, nI_add, pk_mul, i_sub, i_div, sdm, i_dec, i_cl, iv_t, bI_or2, bI_t0, bI_one, not_true_eq_false, not_false_eq_true, ↓reduceIte, am_tl, am_tn, am_t0, am_n0, and_true, true_and, List.cons_append, List.nil_append, List.append_nil, e0]
          refine lp_up 8 (fun m (s : Int32 × Int32 × Option am_V) => [some (v_r (some 0)), some (v_i (nI t)), some (v_i (nI 0)), some (v_i (nI (bs P))), some (v_i s.1), some (v_i s.2.1), some (v_i (nI i)), some (v_i (nI m)), s.2.2]) (fun m s h' => am_fr h h' cS ∧ atI (atm A i (atc A (fun c => (fT (s_f S) c).1 == 0) i) m) 11 s.1 s.2.1) ?_ ?_ (Nat.zero_le _) ⟨fr2, I2⟩ (s := (be, le, m8))
          · rintro m ⟨be, le, m8⟩ h3 hm ⟨fr3, I3⟩ nx2
            dsimp only at I3 nx2 ⊢
            have C3 := C.q ok fr3
            have L3 := C3.1
            rw [b_X11_attempt_57 _ _ _ _ _ _ _ _ _ _]
            simp (disch := first | assumption | omega | (simp only [ya_pi, ya_pj, ya_pa, ya_pr, yo_pi, yo_pj, yo_pa, yf_pi, yf_pj, yf_pa, yh_pi, yh_pj, yh_pa, yt_pi, yt_pj, yt_pa, la_pi, la_pj, la_pa]; assumption)) only [b_X11_attempt_64, b_X11_attempt_73, b_X11_attempt_76, i_lit, i_m1, i_31, il_t, il_f, iq_t, iq_f, it_t, it_f, im_e, im_l, im_g, im_g2, nI_add, pk_mul, i_sub, i_div, sdm, i_dec, i_cl, iv_t, bI_or2, bI_t0, bI_one, not_true_eq_false, not_false_eq_true, ↓reduceIte, am_tl, am_tn, am_t0, am_n0, and_true, true_and, List.cons_append, List.nil_append, List.append_nil, c_hasOrder_y C3.2.1.1 (C3.2.1.2 _ hi) i11 na (by omega)]
            refine c_mostAlike ok C3 hi hm (fun h4 fr4 => ?_)
            have fr4' := fr3.tr fr4
            have a10 := A10 i m
            rw [hA i m]
            by_cases y : nI (A i m) < le
            · have I4 := atI_y (code := 10 * i + m) (by omega) a10 I3 y (by omega)
              have y' : ¬ le ≤ nI (A i m) := fun w => Int32.not_lt.2 w y
              simp (disch := first | assumption | omega | (simp only [ya_pi, ya_pj, ya_pa, ya_pr, yo_pi, yo_pj, yo_pa, yf_pi, yf_pj, yf_pa, yh_pi, yh_pj, yh_pa, yt_pi, yt_pj, yt_pa, la_pi, la_pj, la_pa]; assumption)) only [b_X11_attempt_88, b_X11_attempt_97, i_lit, i_m1, i_31, il_t, il_f, iq_t, iq_f, it_t, it_f, im_e, im_l, im_g, im_g2, nI_add, pk_mul, i_sub, i_div, sdm, i_dec, i_cl, iv_t, bI_or2, bI_t0, bI_one, not_true_eq_false, not_false_eq_true, ↓reduceIte, am_tl, am_tn, am_t0, am_n0, and_true, true_and, List.cons_append, List.nil_append, List.append_nil, y']
              exact nx2 (_, _, _) h4 ⟨fr4', I4⟩
            · have I4 := atI_n (code := 10 * i + m) (by omega) a10 I3 y (by omega)
              have y' : le ≤ nI (A i m) := Int32.not_lt.1 y
              simp (disch := first | assumption | omega | (simp only [ya_pi, ya_pj, ya_pa, ya_pr, yo_pi, yo_pj, yo_pa, yf_pi, yf_pj, yf_pa, yh_pi, yh_pj, yh_pa, yt_pi, yt_pj, yt_pa, la_pi, la_pj, la_pa]; assumption)) only [b_X11_attempt_88, b_X11_attempt_111, i_lit, i_m1, i_31, il_t, il_f, iq_t, iq_f, it_t, it_f, im_e, im_l, im_g, im_g2, nI_add, pk_mul, i_sub, i_div, sdm, i_dec, i_cl, iv_t, bI_or2, bI_t0, bI_one, not_true_eq_false, not_false_eq_true, ↓reduceIte, am_tl, am_tn, am_t0, am_n0, and_true, true_and, List.cons_append, List.nil_append, List.append_nil, y']
              exact nx2 (_, _, _) h4 ⟨fr4', I4⟩
          · rintro ⟨be, le, m8⟩ h3 ⟨fr3, I3⟩
            dsimp only at I3 ⊢
            rw [b_X11_attempt_57 _ _ _ _ _ _ _ _ _ _]
            simp (disch := first | assumption | omega | (simp only [ya_pi, ya_pj, ya_pa, ya_pr, yo_pi, yo_pj, yo_pa, yf_pi, yf_pj, yf_pa, yh_pi, yh_pj, yh_pa, yt_pi, yt_pj, yt_pa, la_pi, la_pj, la_pa]; assumption)) only [b_X11_attempt_117, i_lit, i_m1, i_31, il_t, il_f, iq_t, iq_f, it_t, it_f, im_e, im_l, im_g, im_g2, nI_add, pk_mul, i_sub, i_div, sdm, i_dec, i_cl, iv_t, bI_or2, bI_t0, bI_one, not_true_eq_false, not_false_eq_true, ↓reduceIte, am_tl, am_tn, am_t0, am_n0, and_true, true_and, List.cons_append, List.nil_append, List.append_nil]
            refine nxt (_, _, _, _) h3 ⟨fr3, ?_⟩
            rw [atc, if_pos (beq_iff_eq.2 sa)]
            exact I3
        · simp (disch := first | assumption | omega | (simp only [ya_pi, ya_pj, ya_pa, ya_pr, yo_pi, yo_pj, yo_pa, yf_pi, yf_pj, yf_pa, yh_pi, yh_pj, yh_pa, yt_pi, yt_pj, yt_pa, la_pi, la_pj, la_pa]; assumption)) only [b_X11_attempt_54, i_lit, i_m1, i_31, il_t, il_f, iq_t, iq_f, it_t, it_f, im_e, im_l, im_g, im_g2, nI_add, pk_mul, i_sub, i_div, sdm, i_dec, i_cl, iv_t, bI_or2, bI_t0, bI_one, not_true_eq_false, not_false_eq_true, ↓reduceIte, am_tl, am_tn, am_t0, am_n0, and_true, true_and, List.cons_append, List.nil_append, List.append_nil, e0]
          rw [b_X11_attempt_57 _ _ _ _ _ _ _ _ _ _]
          simp (disch := first | assumption | omega | (simp only [ya_pi, ya_pj, ya_pa, ya_pr, yo_pi, yo_pj, yo_pa, yf_pi, yf_pj, yf_pa, yh_pi, yh_pj, yh_pa, yt_pi, yt_pj, yt_pa, la_pi, la_pj, la_pa]; assumption)) only [b_X11_attempt_64, b_X11_attempt_73, b_X11_attempt_117, i_lit, i_m1, i_31, il_t, il_f, iq_t, iq_f, it_t, it_f, im_e, im_l, im_g, im_g2, nI_add, pk_mul, i_sub, i_div, sdm, i_dec, i_cl, iv_t, bI_or2, bI_t0, bI_one, not_true_eq_false, not_false_eq_true, ↓reduceIte, am_tl, am_tn, am_t0, am_n0, and_true, true_and, List.cons_append, List.nil_append, List.append_nil, c_hasOrder_n C2.2.1.1 (C2.2.1.2 _ hi) i11 na]
          refine nxt (_, _, _, _) h2 ⟨fr2, ?_⟩
          rw [atc, if_neg (fun w => sa (beq_iff_eq.1 w))]
          exact I2
      · rintro ⟨be, le, m7, m8⟩ h2 ⟨fr2, I2⟩
        dsimp only at I2 ⊢
        have C2 := C.q ok fr2
        have L2 := C2.1
        have e0 := C2.cQ.2.1.2.1
        rw [b_X11_attempt_39 _ _ _ _ _ _ _ _ _ L2]
        simp (disch := first | assumption | omega | (simp only [ya_pi, ya_pj, ya_pa, ya_pr, yo_pi, yo_pj, yo_pa, yf_pi, yf_pj, yf_pa, yh_pi, yh_pj, yh_pa, yt_pi, yt_pj, yt_pa, la_pi, la_pj, la_pa]; assumption)) only [b_X11_attempt_123, i_lit, i_m1, i_31, il_t, il_f, iq_t, iq_f, it_t, it_f, im_e, im_l, im_g, im_g2, nI_add, pk_mul, i_sub, i_div, sdm, i_dec, i_cl, iv_t, bI_or2, bI_t0, bI_one, not_true_eq_false, not_false_eq_true, ↓reduceIte, am_tl, am_tn, am_t0, am_n0, and_true, true_and, List.cons_append, List.nil_append, List.append_nil, e0]
        rw [I2.1]
        exact k h2 fr2
theorem c_rAttempt {d : Nat} {Q : Option am_V → am_H → Prop} {h : am_H} {S : St} {x : Int32} {l2 l3 l4 l5 l6 l7 lx : Option am_V} (ok : St_ok S) (C : rI h S) (k : ∀ h', am_fr h h' rS → Q (some (v_i (t_attempt S x))) h') : ex_ (d + 7) 361 0 [some (v_r (some 93)), some (v_i x), l2, l3, l4, l5, l6, l7, lx] [] h Q := by
  have L := C.1
  have gd : fa_gd (s_f S) := ok.1.1.1
  have n10 : f_n (s_f S) ≤ 10 := gd.1.1
  have fr0 : am_fr h (p_i h 93 0 (nI 0)) rS := am_fr_pi (by unfold rS; omega)
  have C0 := C.q ok fr0
  have L0 := C0.1
  unfold t_attempt at k
  simp (disch := first | assumption | omega | (simp only [ya_pi, ya_pj, ya_pa, ya_pr, yo_pi, yo_pj, yo_pa, yf_pi, yf_pj, yf_pa, yh_pi, yh_pj, yh_pa, yt_pi, yt_pj, yt_pa, la_pi, la_pj, la_pa]; assumption)) only [b_X12_attempt_0, i_lit, i_m1, i_31, il_t, il_f, iq_t, iq_f, it_t, it_f, im_e, im_l, im_g, im_g2, nI_add, pk_mul, i_sub, i_div, sdm, i_dec, i_cl, iv_t, bI_or2, bI_t0, bI_one, not_true_eq_false, not_false_eq_true, ↓reduceIte, am_tl, am_tn, am_t0, am_n0, and_true, true_and, List.cons_append, List.nil_append, List.append_nil]
  refine c_noTold gd.1 C0.rfa C0.2.2.2.2.1 (fun h1 fr1 A1 => ?_)
  have fr01 := fr0.tr (fr1.le (fun a k (z : rA a k) => z.S))
  have C1 := C.q ok fr01
  have L1 := C1.1
  rcases tdC_cs (f := s_f S) (s_t S) x with z | ⟨z, t, ht, rfl, l1, l8, al⟩
  · rw [if_neg z] at k
    simp (disch := first | assumption | omega | (simp only [ya_pi, ya_pj, ya_pa, ya_pr, yo_pi, yo_pj, yo_pa, yf_pi, yf_pj, yf_pa, yh_pi, yh_pj, yh_pa, yt_pi, yt_pj, yt_pa, la_pi, la_pj, la_pa]; assumption)) only [b_X12_attempt_0, b_X12_attempt_10, b_X12_attempt_17, b_X12_attempt_15, b_X12_attempt_22, b_X12_attempt_116, b_X12_attempt_45, b_X12_attempt_49, b_X12_attempt_110, b_X12_attempt_59, b_X12_attempt_69, b_X12_attempt_78, b_X12_attempt_90, b_X12_attempt_87, i_lit, i_m1, i_31, il_t, il_f, iq_t, iq_f, it_t, it_f, im_e, im_l, im_g, im_g2, nI_add, pk_mul, i_sub, i_div, sdm, i_dec, i_cl, iv_t, bI_or2, bI_t0, bI_one, not_true_eq_false, not_false_eq_true, ↓reduceIte, am_tl, am_tn, am_t0, am_n0, and_true, true_and, List.cons_append, List.nil_append, List.append_nil, z]
    exact k h1 fr01
  · rw [if_pos z, nI_clamp (by omega)] at k
    simp (disch := first | assumption | omega | (simp only [ya_pi, ya_pj, ya_pa, ya_pr, yo_pi, yo_pj, yo_pa, yf_pi, yf_pj, yf_pa, yh_pi, yh_pj, yh_pa, yt_pi, yt_pj, yt_pa, la_pi, la_pj, la_pa]; assumption)) only [b_X12_attempt_0, b_X12_attempt_10, b_X12_attempt_17, b_X12_attempt_15, b_X12_attempt_22, b_X12_attempt_116, b_X12_attempt_45, b_X12_attempt_49, b_X12_attempt_110, b_X12_attempt_59, b_X12_attempt_69, b_X12_attempt_78, b_X12_attempt_90, b_X12_attempt_87, i_lit, i_m1, i_31, il_t, il_f, iq_t, iq_f, it_t, it_f, im_e, im_l, im_g, im_g2, nI_add, pk_mul, i_sub, i_div, sdm, i_dec, i_cl, iv_t, bI_or2, bI_t0, bI_one, not_true_eq_false, not_false_eq_true, ↓reduceIte, am_tl, am_tn, am_t0, am_n0, and_true, true_and, List.cons_append, List.nil_append, List.append_nil, z]
    have A1 := A1 z
    refine c_rMoodsOf ok C1 A1 ht l8 al (fun h2 fr2 => ?_)
    have fr02 := fr01.tr (fr2.le (fun a k (z : rV a k) => z.S))
    have A2 : ra h2 (fT (s_f S)) (f_n (s_f S)) := A1.fr (fT_ok gd.1) fr2 (fun a k h1 h2 => by unfold rV; omega)
    have blt := bs_lt (bl (moP (s_f S) (s_H S).2.1 (s_H S).2.2.1 (s_t S t).2) 10)
    simp (disch := first | assumption | omega | (simp only [ya_pi, ya_pj, ya_pa, ya_pr, yo_pi, yo_pj, yo_pa, yf_pi, yf_pj, yf_pa, yh_pi, yh_pj, yh_pa, yt_pi, yt_pj, yt_pa, la_pi, la_pj, la_pa]; assumption)) only [b_X12_attempt_22, i_lit, i_m1, i_31, il_t, il_f, iq_t, iq_f, it_t, it_f, im_e, im_l, im_g, im_g2, nI_add, pk_mul, i_sub, i_div, sdm, i_dec, i_cl, iv_t, bI_or2, bI_t0, bI_one, not_true_eq_false, not_false_eq_true, ↓reduceIte, am_tl, am_tn, am_t0, am_n0, and_true, true_and, List.cons_append, List.nil_append, List.append_nil]
    have hA : ∀ c m, mal (fun md => an (s_f S) (s_H S).2.1 (s_H S).2.2.1 c m (nI md)) (bl (moP (s_f S) (s_H S).2.1 (s_H S).2.2.1 (s_t S t).2) 10) = atA S (s_t S t).2 c m := fun _ _ => rfl
    generalize hP : bl (moP (s_f S) (s_H S).2.1 (s_H S).2.2.1 (s_t S t).2) 10 = P at hA blt k
    generalize atA S (s_t S t).2 = A at k hA
    have A10 : ∀ c m, A c m ≤ 10 := fun c m => by rw [← hA]; exact mal_le
    have I0 : atI none 268435456 mI (nI 268435456) := ⟨rfl, rfl, fun x hx => by cases hx⟩
    by_cases w : bs P = 0
    · rw [if_pos w] at k
      have C2 := C.q ok fr02
      have L2 := C2.1
      have e0 : h_i h2 94 1 = nI (f_n (s_f S)) := C2.rfa.2.1
      rw [b_X12_attempt_34 _ _ _ _ _ _ _ _ _ L2]
      by_cases y : f_n (s_f S) = 0
      · simp (disch := first | assumption | omega | (simp only [ya_pi, ya_pj, ya_pa, ya_pr, yo_pi, yo_pj, yo_pa, yf_pi, yf_pj, yf_pa, yh_pi, yh_pj, yh_pa, yt_pi, yt_pj, yt_pa, la_pi, la_pj, la_pa]; assumption)) only [b_X12_attempt_116, i_lit, i_m1, i_31, il_t, il_f, iq_t, iq_f, it_t, it_f, im_e, im_l, im_g, im_g2, nI_add, pk_mul, i_sub, i_div, sdm, i_dec, i_cl, iv_t, bI_or2, bI_t0, bI_one, not_true_eq_false, not_false_eq_true, ↓reduceIte, am_tl, am_tn, am_t0, am_n0, and_true, true_and, List.cons_append, List.nil_append, List.append_nil, e0, y]
        exact k h2 fr02
      · have y' : 0 < f_n (s_f S) := by omega
        simp (disch := first | assumption | omega | (simp only [ya_pi, ya_pj, ya_pa, ya_pr, yo_pi, yo_pj, yo_pa, yf_pi, yf_pj, yf_pa, yh_pi, yh_pj, yh_pa, yt_pi, yt_pj, yt_pa, la_pi, la_pj, la_pa]; assumption)) only [b_X12_attempt_116, b_X12_attempt_45, i_lit, i_m1, i_31, il_t, il_f, iq_t, iq_f, it_t, it_f, im_e, im_l, im_g, im_g2, nI_add, pk_mul, i_sub, i_div, sdm, i_dec, i_cl, iv_t, bI_or2, bI_t0, bI_one, not_true_eq_false, not_false_eq_true, ↓reduceIte, am_tl, am_tn, am_t0, am_n0, and_true, true_and, List.cons_append, List.nil_append, List.append_nil, e0, w]
        exact k h2 fr02
    · rw [if_neg w] at k
      refine lp_up (f_n (s_f S)) (fun i (s : Int32 × Int32 × Option am_V × Option am_V) => [some (v_r (some 93)), some (v_i (nI t)), some (v_i (nI 0)), some (v_i (nI (bs P))), some (v_i s.1), some (v_i s.2.1), some (v_i (nI i)), s.2.2.1, s.2.2.2]) (fun i s h' => am_fr h h' rS ∧ ra h' (fT (s_f S)) (f_n (s_f S)) ∧ atI (atc A (fun c => (fT (s_f S) c).1 == 0) i) 268435456 s.1 s.2.1) ?_ ?_ (Nat.zero_le _) ⟨fr02, A2, I0⟩ (s := (mI, nI 268435456, l7, lx))
      · rintro i ⟨be, le, m7, m8⟩ h3 hi ⟨fr3, A3, I3⟩ nxt
        dsimp only at I3 nxt ⊢
        have C3 := C.q ok fr3
        have L3 := C3.1
        have e0 : h_i h3 94 1 = nI (f_n (s_f S)) := C3.rfa.2.1
        have i11 : i < 11 := by omega
        have ea := (A3.2 i hi).1
        have o2 := (fT_ok gd.1 i hi).1
        rw [b_X12_attempt_34 _ _ _ _ _ _ _ _ _ L3]
        by_cases sa : (fT (s_f S) i).1 = 0
        · simp (disch := first | assumption | omega | (simp only [ya_pi, ya_pj, ya_pa, ya_pr, yo_pi, yo_pj, yo_pa, yf_pi, yf_pj, yf_pa, yh_pi, yh_pj, yh_pa, yt_pi, yt_pj, yt_pa, la_pi, la_pj, la_pa]; assumption)) only [b_X12_attempt_45, b_X12_attempt_49, i_lit, i_m1, i_31, il_t, il_f, iq_t, iq_f, it_t, it_f, im_e, im_l, im_g, im_g2, nI_add, pk_mul, i_sub, i_div, sdm, i_dec, i_cl, iv_t, bI_or2, bI_t0, bI_one, not_true_eq_false, not_false_eq_true, ↓reduceIte, am_tl, am_tn, am_t0, am_n0, and_true, true_and, List.cons_append, List.nil_append, List.append_nil, e0, w]
          refine lp_up 8 (fun m (s : Int32 × Int32 × Option am_V) => [some (v_r (some 93)), some (v_i (nI t)), some (v_i (nI 0)), some (v_i (nI (bs P))), some (v_i s.1), some (v_i s.2.1), some (v_i (nI i)), some (v_i (nI m)), s.2.2]) (fun m s h' => am_fr h h' rS ∧ ra h' (fT (s_f S)) (f_n (s_f S)) ∧ atI (atm A i (atc A (fun c => (fT (s_f S) c).1 == 0) i) m) 268435456 s.1 s.2.1) ?_ ?_ (Nat.zero_le _) ⟨fr3, A3, I3⟩ (s := (be, le, m8))
          · rintro m ⟨be, le, m8⟩ h4 hm ⟨fr4, A4, I4⟩ nx2
            dsimp only at I4 nx2 ⊢
            have C4 := C.q ok fr4
            have L4 := C4.1
            have ea4 := (A4.2 i hi).1
            rw [sa] at ea4
            rw [b_X12_attempt_52 _ _ _ _ _ _ _ _ _ _]
            simp (disch := first | assumption | omega | (simp only [ya_pi, ya_pj, ya_pa, ya_pr, yo_pi, yo_pj, yo_pa, yf_pi, yf_pj, yf_pa, yh_pi, yh_pj, yh_pa, yt_pi, yt_pj, yt_pa, la_pi, la_pj, la_pa]; assumption)) only [b_X12_attempt_59, b_X12_attempt_69, i_lit, i_m1, i_31, il_t, il_f, iq_t, iq_f, it_t, it_f, im_e, im_l, im_g, im_g2, nI_add, pk_mul, i_sub, i_div, sdm, i_dec, i_cl, iv_t, bI_or2, bI_t0, bI_one, not_true_eq_false, not_false_eq_true, ↓reduceIte, am_tl, am_tn, am_t0, am_n0, and_true, true_and, List.cons_append, List.nil_append, List.append_nil, ea4]
            refine c_rMostAlike ok C4 A4 hi hm (fun h5 fr5 => ?_)
            have fr5' := fr4.tr (fr5.le (fun a k (z : rMA a k) => z.S))
            have A5 : ra h5 (fT (s_f S)) (f_n (s_f S)) := A4.fr (fT_ok gd.1) fr5 (fun a k h1 h2 => by unfold rMA rV; omega)
            have a10 := A10 i m
            rw [hA i m]
            by_cases y : nI (A i m) < le
            · have I5 := atI_y (code := 10 * i + m) (by omega) a10 I4 y (by omega)
              simp (disch := first | assumption | omega | (simp only [ya_pi, ya_pj, ya_pa, ya_pr, yo_pi, yo_pj, yo_pa, yf_pi, yf_pj, yf_pa, yh_pi, yh_pj, yh_pa, yt_pi, yt_pj, yt_pa, la_pi, la_pj, la_pa]; assumption)) only [b_X12_attempt_78, b_X12_attempt_90, i_lit, i_m1, i_31, il_t, il_f, iq_t, iq_f, it_t, it_f, im_e, im_l, im_g, im_g2, nI_add, pk_mul, i_sub, i_div, sdm, i_dec, i_cl, iv_t, bI_or2, bI_t0, bI_one, not_true_eq_false, not_false_eq_true, ↓reduceIte, am_tl, am_tn, am_t0, am_n0, and_true, true_and, List.cons_append, List.nil_append, List.append_nil, y]
              exact nx2 (_, _, _) h5 ⟨fr5', A5, I5⟩
            · have I5 := atI_n (code := 10 * i + m) (by omega) a10 I4 y (by omega)
              simp (disch := first | assumption | omega | (simp only [ya_pi, ya_pj, ya_pa, ya_pr, yo_pi, yo_pj, yo_pa, yf_pi, yf_pj, yf_pa, yh_pi, yh_pj, yh_pa, yt_pi, yt_pj, yt_pa, la_pi, la_pj, la_pa]; assumption)) only [b_X12_attempt_78, b_X12_attempt_87, i_lit, i_m1, i_31, il_t, il_f, iq_t, iq_f, it_t, it_f, im_e, im_l, im_g, im_g2, nI_add, pk_mul, i_sub, i_div, sdm, i_dec, i_cl, iv_t, bI_or2, bI_t0, bI_one, not_true_eq_false, not_false_eq_true, ↓reduceIte, am_tl, am_tn, am_t0, am_n0, and_true, true_and, List.cons_append, List.nil_append, List.append_nil, y]
              exact nx2 (_, _, _) h5 ⟨fr5', A5, I5⟩
          · rintro ⟨be, le, m8⟩ h4 ⟨fr4, A4, I4⟩
            dsimp only at I4 ⊢
            rw [b_X12_attempt_52 _ _ _ _ _ _ _ _ _ _]
            simp (disch := first | assumption | omega | (simp only [ya_pi, ya_pj, ya_pa, ya_pr, yo_pi, yo_pj, yo_pa, yf_pi, yf_pj, yf_pa, yh_pi, yh_pj, yh_pa, yt_pi, yt_pj, yt_pa, la_pi, la_pj, la_pa]; assumption)) only [b_X12_attempt_110, i_lit, i_m1, i_31, il_t, il_f, iq_t, iq_f, it_t, it_f, im_e, im_l, im_g, im_g2, nI_add, pk_mul, i_sub, i_div, sdm, i_dec, i_cl, iv_t, bI_or2, bI_t0, bI_one, not_true_eq_false, not_false_eq_true, ↓reduceIte, am_tl, am_tn, am_t0, am_n0, and_true, true_and, List.cons_append, List.nil_append, List.append_nil]
            refine nxt (_, _, _, _) h4 ⟨fr4, A4, ?_⟩
            rw [atc, if_pos (beq_iff_eq.2 sa)]
            exact I4
        · simp (disch := first | assumption | omega | (simp only [ya_pi, ya_pj, ya_pa, ya_pr, yo_pi, yo_pj, yo_pa, yf_pi, yf_pj, yf_pa, yh_pi, yh_pj, yh_pa, yt_pi, yt_pj, yt_pa, la_pi, la_pj, la_pa]; assumption)) only [b_X12_attempt_45, b_X12_attempt_49, i_lit, i_m1, i_31, il_t, il_f, iq_t, iq_f, it_t, it_f, im_e, im_l, im_g, im_g2, nI_add, pk_mul, i_sub, i_div, sdm, i_dec, i_cl, iv_t, bI_or2, bI_t0, bI_one, not_true_eq_false, not_false_eq_true, ↓reduceIte, am_tl, am_tn, am_t0, am_n0, and_true, true_and, List.cons_append, List.nil_append, List.append_nil, e0, w]
          rw [b_X12_attempt_52 _ _ _ _ _ _ _ _ _ _]
          simp (disch := first | assumption | omega | (simp only [ya_pi, ya_pj, ya_pa, ya_pr, yo_pi, yo_pj, yo_pa, yf_pi, yf_pj, yf_pa, yh_pi, yh_pj, yh_pa, yt_pi, yt_pj, yt_pa, la_pi, la_pj, la_pa]; assumption)) only [b_X12_attempt_59, b_X12_attempt_110, i_lit, i_m1, i_31, il_t, il_f, iq_t, iq_f, it_t, it_f, im_e, im_l, im_g, im_g2, nI_add, pk_mul, i_sub, i_div, sdm, i_dec, i_cl, iv_t, bI_or2, bI_t0, bI_one, not_true_eq_false, not_false_eq_true, ↓reduceIte, am_tl, am_tn, am_t0, am_n0, and_true, true_and, List.cons_append, List.nil_append, List.append_nil, ea]
          refine nxt (_, _, _, _) h3 ⟨fr3, A3, ?_⟩
          rw [atc, if_neg (fun w => sa (beq_iff_eq.1 w))]
          exact I3
      · rintro ⟨be, le, m7, m8⟩ h3 ⟨fr3, A3, I3⟩
        dsimp only at I3 ⊢
        have C3 := C.q ok fr3
        have L3 := C3.1
        have e0 : h_i h3 94 1 = nI (f_n (s_f S)) := C3.rfa.2.1
        rw [b_X12_attempt_34 _ _ _ _ _ _ _ _ _ L3]
        simp (disch := first | assumption | omega | (simp only [ya_pi, ya_pj, ya_pa, ya_pr, yo_pi, yo_pj, yo_pa, yf_pi, yf_pj, yf_pa, yh_pi, yh_pj, yh_pa, yt_pi, yt_pj, yt_pa, la_pi, la_pj, la_pa]; assumption)) only [b_X12_attempt_116, i_lit, i_m1, i_31, il_t, il_f, iq_t, iq_f, it_t, it_f, im_e, im_l, im_g, im_g2, nI_add, pk_mul, i_sub, i_div, sdm, i_dec, i_cl, iv_t, bI_or2, bI_t0, bI_one, not_true_eq_false, not_false_eq_true, ↓reduceIte, am_tl, am_tn, am_t0, am_n0, and_true, true_and, List.cons_append, List.nil_append, List.append_nil, e0]
        rw [I3.1]
        exact k h3 fr3
