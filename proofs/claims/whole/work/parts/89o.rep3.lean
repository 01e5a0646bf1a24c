theorem fl_filter {r : List Nat} (hr : r.Pairwise (fun x y => x < y)) (N : Nat) : r.filter (fun x => decide (x < N + 1)) = r.filter (fun x => decide (x < N)) ++ (if r.contains N = true then [N] else []) := by
  induction r with
  | nil => rfl
  | cons a r ih =>
    obtain ⟨h1, h2⟩ := List.pairwise_cons.1 hr
    have ih := ih h2
    rcases Nat.lt_trichotomy a N with z | z | z
    · rw [List.filter_cons_of_pos (by simpa using (show a < N + 1 by omega)), List.filter_cons_of_pos (by simpa using z), ih, List.cons_append]
      have : (a :: r).contains N = r.contains N := by
        rw [List.contains_eq_mem, List.contains_eq_mem]
        refine decide_eq_decide.2 ⟨fun y => ?_, fun y => List.mem_cons_of_mem _ y⟩
        rcases List.mem_cons.1 y with y | y
        · omega
        · exact y
      rw [this]
    · subst z
      have e1 : r.filter (fun x => decide (x < a + 1)) = [] := List.filter_eq_nil_iff.2 (fun x hx => by have := h1 x hx; simp; omega)
      have e2 : r.filter (fun x => decide (x < a)) = [] := List.filter_eq_nil_iff.2 (fun x hx => by have := h1 x hx; simp; omega)
      rw [List.filter_cons_of_pos (by simp), List.filter_cons_of_neg (by simp), e1, e2, if_pos (by simp)]
      rfl
    · have e1 : r.filter (fun x => decide (x < N + 1)) = [] := List.filter_eq_nil_iff.2 (fun x hx => by have := h1 x hx; simp; omega)
      have e2 : r.filter (fun x => decide (x < N)) = [] := List.filter_eq_nil_iff.2 (fun x hx => by have := h1 x hx; simp; omega)
      have nc : ¬ (a :: r).contains N = true := fun y => by
        rw [List.contains_eq_mem, decide_eq_true_eq] at y
        rcases List.mem_cons.1 y with y | y
        · omega
        · have := h1 _ y; omega
      rw [List.filter_cons_of_neg (by simp; omega), List.filter_cons_of_neg (by simp; omega), e1, e2, if_neg nc]
      rfl
theorem fl_r {r : List Nat} (hr : r.Pairwise (fun x y => x < y)) : ∀ N, fl (fun x => r.contains x) N = r.filter (fun x => decide (x < N)) := by
  intro N
  induction N with
  | zero => exact (List.filter_eq_nil_iff.2 (fun x _ => by simp)).symm
  | succ N ih =>
    rw [fl, ih, fl_filter hr]
    split
    · rfl
    · rw [List.append_nil]
theorem fl_all {r : List Nat} (hr : r.Pairwise (fun x y => x < y)) {N : Nat} (h : ∀ x ∈ r, x < N) : fl (fun x => r.contains x) N = r := by
  rw [fl_r hr, List.filter_eq_self.2 (fun x hx => by simpa using h x hx)]
theorem fl_mono {P : Nat → Bool} {a : Nat} : ∀ {b : Nat}, a ≤ b → (fl P a).length ≤ (fl P b).length := by
  intro b h
  induction h with
  | refl => exact Nat.le_refl _
  | step _ ih =>
    rw [fl]
    split
    · rw [List.length_append]; omega
    · exact ih
theorem lkn_at {f : fa_S} {c i : Nat} (hc : c < 10) (hi : i < (f_p f c).length) : lkn f (lo_at f c + i) = 10 * c + (f_p f c).getD i 0 := by
  have : fi (fun k => decide (lo_at f c + i < lo_at f (k + 1))) 10 0 = some c := by
    refine fi_at hc (decide_eq_true (by rw [lo_s]; omega)) (fun j hj => decide_eq_false ?_)
    have := lo_mono (f := f) (show j + 1 ≤ c by omega)
    omega
  unfold lkn
  rw [this]
  dsimp only
  rw [Nat.add_sub_cancel_left]
theorem c_noteLinks {d : Nat} {Q : Option am_V → am_H → Prop} {h : am_H} {f : fa_S} {r : List Nat} (ok : fa_ok f) (L : Lay h) (F : fa_at h 11 f) (hr : r.Pairwise (fun x y => x < y)) (hk : ∀ x ∈ r, x < f_lk f) (h3 : r.length ≤ 3) (E : ∀ c, c < f_n f → h_i h 67 c = nI (tkp f r c)) {l2 l3 l4 : Option am_V} (k : ∀ h', am_fr h h' (fun a _ => a = 68) → ro h' 68 0 (r.map (lkn f)) → Q none h') : ex_ (d + 2) 60 0 [some (v_r (some 56)), some (v_r (some 11)), l2, l3, l4] [] h Q := by
  have n10 := ok.1
  simp (disch := first | assumption | omega | (simp only [ya_pi, ya_pj, ya_pa, ya_pr, yo_pi, yo_pj, yo_pa, yf_pi, yf_pj, yf_pa, yh_pi, yh_pj, yh_pa, yt_pi, yt_pj, yt_pa, la_pi, la_pj, la_pa]; assumption)) only [b_X4_noteLinks_0, i_lit, i_m1, i_31, il_t, il_f, iq_t, iq_f, it_t, it_f, im_e, im_l, im_g, im_g2, nI_add, pk_mul, i_sub, i_div, sdm, i_dec, i_cl, iv_t, bI_or2, bI_t0, bI_one, not_true_eq_false, not_false_eq_true, ↓reduceIte, am_tl, am_tn, am_t0, am_n0, and_true, true_and, List.cons_append, List.nil_append, List.append_nil]
  generalize hR : (fun x => r.contains x) = R
  have hRx : ∀ x, r.contains x = R x := fun x => by rw [← hR]
  have fK : fl R (f_lk f) = r := by rw [← hR]; exact fl_all hr hk
  have len : ∀ N, N ≤ f_lk f → (fl R N).length ≤ 3 := fun N hN => by
    have := fl_mono (P := R) hN
    rw [fK] at this
    omega
  refine lp_up (f_n f) (fun c (l4 : Option am_V) => [some (v_r (some 56)), some (v_r (some 11)), some (v_i (nI (fl R (lo_at f c)).length)), some (v_i (nI c)), l4]) (fun c _ h' => am_fr h h' (fun a _ => a = 68) ∧ ro h' 68 0 ((fl R (lo_at f c)).map (lkn f))) ?_ ?_ (Nat.zero_le _) ⟨am_fr.rf, ro_nil⟩ (s := l4)
  · rintro c m4 h1 hc ⟨fr1, r1⟩ nxt
    have L1 := fr1.lay L
    have F1 : fa_at h1 11 f := fr1.fa F (fun a k h1 h2 z => by omega)
    have Y1 := F1.1
    have e0 := F1.2.1
    have l4 := (ok.2 c).1
    have loK : lo_at f (c + 1) ≤ f_lk f := lo_mono (show c + 1 ≤ f_n f by omega)
    have los := lo_s f c
    rw [b_X4_noteLinks_4 _ _ _ _ _ _ Y1]
    simp (disch := first | assumption | omega | (simp only [ya_pi, ya_pj, ya_pa, ya_pr, yo_pi, yo_pj, yo_pa, yf_pi, yf_pj, yf_pa, yh_pi, yh_pj, yh_pa, yt_pi, yt_pj, yt_pa, la_pi, la_pj, la_pa]; assumption)) only [b_X4_noteLinks_12, b_X4_noteLinks_18, i_lit, i_m1, i_31, il_t, il_f, iq_t, iq_f, it_t, it_f, im_e, im_l, im_g, im_g2, nI_add, pk_mul, i_sub, i_div, sdm, i_dec, i_cl, iv_t, bI_or2, bI_t0, bI_one, not_true_eq_false, not_false_eq_true, ↓reduceIte, am_tl, am_tn, am_t0, am_n0, and_true, true_and, List.cons_append, List.nil_append, List.append_nil, e0]
    have st := lp_up (d := d + 2) (k := 60) (pc := 21) (Q := Q) 4 (fun i (_ : Unit) => [some (v_r (some 56)), some (v_r (some 11)), some (v_i (nI (fl R (lo_at f c + (if i < (f_p f c).length then i else (f_p f c).length))).length)), some (v_i (nI c)), some (v_i (nI i))]) (fun i _ h' => am_fr h h' (fun a _ => a = 68) ∧ ro h' 68 0 ((fl R (lo_at f c + (if i < (f_p f c).length then i else (f_p f c).length))).map (lkn f))) ?_ ?_ (Nat.zero_le _) ?_ (s := ()) (h := h1)
    · have e1 : lo_at f c + (if 0 < (f_p f c).length then 0 else (f_p f c).length) = lo_at f c := by split <;> omega
      rw [e1] at st
      exact st
    · rintro i - h2 hi ⟨fr2, r2⟩ nx2
      have L2 := fr2.lay L
      have F2 : fa_at h2 11 f := fr2.fa F (fun a k h1 h2 z => by omega)
      have Y2 := F2.1
      have e67 : h_i h2 67 c = nI (tkp f r c) := by rw [fr2.i (by omega)]; exact E c hc
      have i16 : i < 16 := by omega
      rw [b_X4_noteLinks_21 _ _ _ _ _ _]
      by_cases z : i < (f_p f c).length
      · rw [if_pos z] at r2 ⊢
        have nx := fun h' x => nx2 () h' x
        have e2 : (if i + 1 < (f_p f c).length then i + 1 else (f_p f c).length) = i + 1 := by split <;> omega
        rw [e2, ← Nat.add_assoc, fl] at nx
        have eb : tkp f r c = bs (bl (fun i => r.contains (lo_at f c + i)) (f_p f c).length) := rfl
        cases w : R (lo_at f c + i) with
        | true =>
          have wb : bl (fun i => r.contains (lo_at f c + i)) (f_p f c).length i = true := by
            unfold bl
            rw [decide_eq_true z, Bool.true_and]
            exact (hRx _).trans w
          rw [if_pos w] at nx
          have l3' := len (lo_at f c + i + 1) (by omega)
          rw [fl, if_pos w, List.length_append, List.length_singleton] at l3'
          have A68 : y_arr h2 68 20 3 := la_y L2 rfl
          simp (disch := first | assumption | omega | (simp only [ya_pi, ya_pj, ya_pa, ya_pr, yo_pi, yo_pj, yo_pa, yf_pi, yf_pj, yf_pa, yh_pi, yh_pj, yh_pa, yt_pi, yt_pj, yt_pa, la_pi, la_pj, la_pa]; assumption)) only [b_X4_noteLinks_27, b_X4_noteLinks_41, b_X4_noteLinks_50, b_X4_noteLinks_66, i_lit, i_m1, i_31, il_t, il_f, iq_t, iq_f, it_t, it_f, im_e, im_l, im_g, im_g2, nI_add, pk_mul, i_sub, i_div, sdm, i_dec, i_cl, iv_t, bI_or2, bI_t0, bI_one, not_true_eq_false, not_false_eq_true, ↓reduceIte, am_tl, am_tn, am_t0, am_n0, and_true, true_and, List.cons_append, List.nil_append, List.append_nil, e67, eb, i_31, wb, Bool.true_eq_false, c_parentAt ok F2 (show c < 10 by omega) z]
          have nx1 := nx (p_i h2 68 (fl R (lo_at f c + i)).length (nI (10 * c + (f_p f c).getD i 0))) ⟨fr2.pi rfl, ?_⟩
          · rw [List.length_append, List.length_singleton] at nx1
            exact nx1
          · rw [List.map_append, List.map_singleton, lkn_at (by omega) z]
            have := ro_app (q := 10 * c + (f_p f c).getD i 0) r2
            rw [List.length_map, Nat.zero_add] at this
            exact this
        | false =>
          have wb : bl (fun i => r.contains (lo_at f c + i)) (f_p f c).length i = false := by
            unfold bl
            rw [decide_eq_true z, Bool.true_and]
            exact (hRx _).trans w
          rw [if_neg (by rw [w]; decide)] at nx
          simp (disch := first | assumption | omega | (simp only [ya_pi, ya_pj, ya_pa, ya_pr, yo_pi, yo_pj, yo_pa, yf_pi, yf_pj, yf_pa, yh_pi, yh_pj, yh_pa, yt_pi, yt_pj, yt_pa, la_pi, la_pj, la_pa]; assumption)) only [b_X4_noteLinks_27, b_X4_noteLinks_71, i_lit, i_m1, i_31, il_t, il_f, iq_t, iq_f, it_t, it_f, im_e, im_l, im_g, im_g2, nI_add, pk_mul, i_sub, i_div, sdm, i_dec, i_cl, iv_t, bI_or2, bI_t0, bI_one, not_true_eq_false, not_false_eq_true, ↓reduceIte, am_tl, am_tn, am_t0, am_n0, and_true, true_and, List.cons_append, List.nil_append, List.append_nil, e67, eb, i_31, wb]
          exact nx h2 ⟨fr2, r2⟩
      · rw [if_neg z] at r2 ⊢
        have nx := fun h' x => nx2 () h' x
        have e2 : (if i + 1 < (f_p f c).length then i + 1 else (f_p f c).length) = (f_p f c).length := by split <;> omega
        rw [e2] at nx
        have eb : tkp f r c = bs (bl (fun i => r.contains (lo_at f c + i)) (f_p f c).length) := rfl
        have wb : bl (fun i => r.contains (lo_at f c + i)) (f_p f c).length i = false := by
          unfold bl
          rw [decide_eq_false z, Bool.false_and]
        simp (disch := first | assumption | omega | (simp only [ya_pi, ya_pj, ya_pa, ya_pr, yo_pi, yo_pj, yo_pa, yf_pi, yf_pj, yf_pa, yh_pi, yh_pj, yh_pa, yt_pi, yt_pj, yt_pa, la_pi, la_pj, la_pa]; assumption)) only [b_X4_noteLinks_27, b_X4_noteLinks_71, i_lit, i_m1, i_31, il_t, il_f, iq_t, iq_f, it_t, it_f, im_e, im_l, im_g, im_g2, nI_add, pk_mul, i_sub, i_div, sdm, i_dec, i_cl, iv_t, bI_or2, bI_t0, bI_one, not_true_eq_false, not_false_eq_true, ↓reduceIte, am_tl, am_tn, am_t0, am_n0, and_true, true_and, List.cons_append, List.nil_append, List.append_nil, e67, eb, i_31, wb]
        exact nx h2 ⟨fr2, r2⟩
    · rintro - h2 ⟨fr2, r2⟩
      have e2 : (if 4 < (f_p f c).length then 4 else (f_p f c).length) = (f_p f c).length := by split <;> omega
      rw [e2, ← los] at r2
      rw [e2, ← los, b_X4_noteLinks_21 _ _ _ _ _ _]
      simp (disch := first | assumption | omega | (simp only [ya_pi, ya_pj, ya_pa, ya_pr, yo_pi, yo_pj, yo_pa, yf_pi, yf_pj, yf_pa, yh_pi, yh_pj, yh_pa, yt_pi, yt_pj, yt_pa, la_pi, la_pj, la_pa]; assumption)) only [b_X4_noteLinks_77, i_lit, i_m1, i_31, il_t, il_f, iq_t, iq_f, it_t, it_f, im_e, im_l, im_g, im_g2, nI_add, pk_mul, i_sub, i_div, sdm, i_dec, i_cl, iv_t, bI_or2, bI_t0, bI_one, not_true_eq_false, not_false_eq_true, ↓reduceIte, am_tl, am_tn, am_t0, am_n0, and_true, true_and, List.cons_append, List.nil_append, List.append_nil]
      exact nxt _ h2 ⟨fr2, r2⟩
    · refine ⟨fr1, ?_⟩
      have e1 : lo_at f c + (if 0 < (f_p f c).length then 0 else (f_p f c).length) = lo_at f c := by split <;> omega
      rw [e1]
      exact r1
  · rintro m4 h1 ⟨fr1, r1⟩
    have F1 : fa_at h1 11 f := fr1.fa F (fun a k h1 h2 z => by omega)
    have Y1 := F1.1
    have e0 := F1.2.1
    rw [lo_n, fK] at r1
    rw [b_X4_noteLinks_4 _ _ _ _ _ _ Y1]
    simp (disch := first | assumption | omega | (simp only [ya_pi, ya_pj, ya_pa, ya_pr, yo_pi, yo_pj, yo_pa, yf_pi, yf_pj, yf_pa, yh_pi, yh_pj, yh_pa, yt_pi, yt_pj, yt_pa, la_pi, la_pj, la_pa]; assumption)) only [b_X4_noteLinks_83, i_lit, i_m1, i_31, il_t, il_f, iq_t, iq_f, it_t, it_f, im_e, im_l, im_g, im_g2, nI_add, pk_mul, i_sub, i_div, sdm, i_dec, i_cl, iv_t, bI_or2, bI_t0, bI_one, not_true_eq_false, not_false_eq_true, ↓reduceIte, am_tl, am_tn, am_t0, am_n0, and_true, true_and, List.cons_append, List.nil_append, List.append_nil, e0]
    exact k h1 fr1 r1
theorem y_O57 {h : am_H} (L : Lay h) : y_Orders h 57 := by
  refine ⟨fun k t hk => ?_, fun q hq => ?_⟩
  · match k, hk with
    | 0, hk => cases hk; exact la_c L rfl
    | 1, hk => cases hk; exact la_c L rfl
    | 2, hk => cases hk; exact la_c L rfl
    | 3, hk => cases hk; exact la_c L rfl
    | 4, hk => cases hk; exact la_c L rfl
    | 5, hk => cases hk; exact la_c L rfl
    | 6, hk => cases hk; exact la_c L rfl
    | 7, hk => cases hk; exact la_c L rfl
    | 8, hk => cases hk; exact la_c L rfl
    | 9, hk => cases hk; exact la_c L rfl
  · have qs : ∀ q ∈ y_Orders_r, (57 + q.1, q.2.1, 57 + q.2.2) ∈ y_ref := by decide
    exact la_r L (qs q hq)
def nP (a _ : Nat) : Prop := 56 ≤ a ∧ a ≤ 68
def mnK (h : am_H) (f : fa_S) : Prop := h_i h 56 4 = nI 1 ∧ match rpl f with
  | none => h_i h 56 3 = mI
  | some ks => h_i h 56 3 = nI ks.length ∧ ks.length ≤ 3 ∧ ∀ i, i < ks.length → h_i h 68 i = nI (lkn f (ks.getD i 0))
theorem gd_map {l : List Nat} {g : Nat → Nat} {i : Nat} (h : i < l.length) : (l.map g).getD i 0 = g (l.getD i 0) := by
  rw [List.getD_eq_getElem?_getD, List.getElem?_map, List.getElem?_eq_getElem h, List.getD_eq_getElem?_getD, List.getElem?_eq_getElem h]
  rfl
theorem mP.N {c a k : Nat} (z : mP c a k) : nP a k := by unfold mP at z; unfold nP; omega
theorem c_mLearn {d : Nat} {Q : Option am_V → am_H → Prop} {h : am_H} {f : fa_S} (L : Lay h) (ok : fa_ok f) (F : fa_at h 11 f) (T : mnA h f) {l2 : Option am_V} (k : ∀ h', am_fr h h' nP → mnK h' f → Q none h') : ex_ (d + 15) 61 0 [some (v_r (some 56)), some (v_r (some 11)), l2] [] h Q := by
  have n10 := ok.1
  rcases T with T | T
  · simp (disch := first | assumption | omega | (simp only [ya_pi, ya_pj, ya_pa, ya_pr, yo_pi, yo_pj, yo_pa, yf_pi, yf_pj, yf_pa, yh_pi, yh_pj, yh_pa, yt_pi, yt_pj, yt_pa, la_pi, la_pj, la_pa]; assumption)) only [b_X4_learn_0, b_X4_learn_8, i_lit, i_m1, i_31, il_t, il_f, iq_t, iq_f, it_t, it_f, im_e, im_l, im_g, im_g2, nI_add, pk_mul, i_sub, i_div, sdm, i_dec, i_cl, iv_t, bI_or2, bI_t0, bI_one, not_true_eq_false, not_false_eq_true, ↓reduceIte, am_tl, am_tn, am_t0, am_n0, and_true, true_and, List.cons_append, List.nil_append, List.append_nil, T]
    have fr0 : am_fr h (p_i (p_i h 56 4 (nI 1)) 56 3 mI) nP := (am_fr_pi (by unfold nP; omega)).pi (by unfold nP; omega)
    refine lp_up 4 (fun b (_ : Unit) => [some (v_r (some 56)), some (v_r (some 11)), some (v_i (nI b))]) (fun b _ h' => am_fr h h' nP ∧ h_i h' 56 4 = nI 1 ∧ h_i h' 56 3 = mI ∧ ∀ b', b' < b → ss f (f_lk f) b' [] = none) ?_ ?_ (Nat.zero_le _) ⟨fr0, by rw [hi_k (by omega), hi_s], hi_s, fun b' hb => absurd hb (Nat.not_lt_zero _)⟩ (s := ())
    · rintro b - h1 hb ⟨fr1, e4, e3, nn⟩ nxt
      have L1 := fr1.lay L
      have F1 : fa_at h1 11 f := fr1.fa F (fun a k h1 h2 z => by unfold nP at z; omega)
      have Y1 := F1.1
      rw [b_X4_learn_20 _ _ _ _]
      simp (disch := first | assumption | omega | (simp only [ya_pi, ya_pj, ya_pa, ya_pr, yo_pi, yo_pj, yo_pa, yf_pi, yf_pj, yf_pa, yh_pi, yh_pj, yh_pa, yt_pi, yt_pj, yt_pa, la_pi, la_pj, la_pa]; assumption)) only [b_X4_learn_25, b_X4_learn_33, i_lit, i_m1, i_31, il_t, il_f, iq_t, iq_f, it_t, it_f, im_e, im_l, im_g, im_g2, nI_add, pk_mul, i_sub, i_div, sdm, i_dec, i_cl, iv_t, bI_or2, bI_t0, bI_one, not_true_eq_false, not_false_eq_true, ↓reduceIte, am_tl, am_tn, am_t0, am_n0, and_true, true_and, List.cons_append, List.nil_append, List.append_nil, e3]
      have w1 := c_mendFrom ok (f_n f) (d := d + 10 - f_n f) (c := 0) (b := b) (ks := []) (h := h1) (Q := fun r h' => ex_ (d + 15) 61 40 [some (v_r (some 56)), some (v_r (some 11)), some (v_i (nI b))] r.toList h' Q) (by omega) (by omega) (fun x hx => by cases hx) (fun c' hc' => absurd hc' (Nat.not_lt_zero _)) L1 F1 ⟨y_O57 L1, fun c hc => absurd hc (Nat.not_lt_zero _)⟩ (l4 := none) (l5 := none) (l6 := none) (l7 := none) (fun h2 fr2 r2 => ?_)
      · rw [show d + 10 - f_n f + f_n f + 4 = d + 14 from by omega] at w1
        exact w1
      · have L2 := fr2.lay L1
        have F2 : fa_at h2 11 f := fr2.fa F1 (fun a k h1 h2 z => by unfold mP at z; omega)
        have Y2 := F2.1
        have fr12 := fr1.tr (fr2.le (fun a k (z : mP 0 a k) => z.N))
        have e42 : h_i h2 56 4 = nI 1 := by rw [fr2.i (by unfold mP; omega)]; exact e4
        have e32 : h_i h2 56 3 = mI := by rw [fr2.i (by unfold mP; omega)]; exact e3
        have l0 : lo_at f 0 = 0 := rfl
        rw [l0, Nat.sub_zero] at r2 ⊢
        cases w : ss f (f_lk f) b [] with
        | none =>
          simp (disch := first | assumption | omega | (simp only [ya_pi, ya_pj, ya_pa, ya_pr, yo_pi, yo_pj, yo_pa, yf_pi, yf_pj, yf_pa, yh_pi, yh_pj, yh_pa, yt_pi, yt_pj, yt_pa, la_pi, la_pj, la_pa]; assumption)) only [b_X4_learn_40, b_X4_learn_53, i_lit, i_m1, i_31, il_t, il_f, iq_t, iq_f, it_t, it_f, im_e, im_l, im_g, im_g2, nI_add, pk_mul, i_sub, i_div, sdm, i_dec, i_cl, iv_t, bI_or2, bI_t0, bI_one, not_true_eq_false, not_false_eq_true, ↓reduceIte, am_tl, am_tn, am_t0, am_n0, and_true, true_and, List.cons_append, List.nil_append, List.append_nil, Option.isSome_none, Bool.false_eq_true]
          refine nxt () h2 ⟨fr12, e42, e32, fun b' hb' => ?_⟩
          by_cases z : b' = b
          · rw [z]; exact w
          · exact nn b' (by omega)
        | some r =>
          obtain ⟨e, e1, e2, e3', e4', -⟩ := ss_ext _ w (Nat.le_refl _)
          rw [List.nil_append] at e1
          subst e1
          have hrp := rpl_of (by omega) nn w
          have lr : r.length = b := by
            rcases Nat.lt_or_ge r.length b with y | y
            · exfalso
              -- a row of fewer links would have been found before
              have h1 := nn (b - 1) (by omega)
              have : ss f (f_lk f) b [] = sx f (f_lk f) b [] := ss_sx _ (Or.inr h1)
              rw [w] at this
              have sl : ∀ j m (ks q : List Nat), sx f j m ks = some q → q.length = ks.length + m := by
                intro j
                induction j with
                | zero =>
                  intro m ks q hq
                  rw [sx] at hq
                  split at hq
                  · rename_i z
                    cases hq
                    rw [z.1, Nat.add_zero]
                  · cases hq
                | succ j ih =>
                  intro m ks q hq
                  rw [sx] at hq
                  split at hq
                  · split at hq
                    · rename_i q' hq'
                      cases hq
                      have := ih _ _ _ hq'
                      rw [List.length_append, List.length_singleton] at this
                      omega
                    · exact ih _ _ _ hq
                  · exact ih _ _ _ hq
              have := sl _ _ _ _ this.symm
              rw [List.length_nil] at this
              omega
            · omega
          simp (disch := first | assumption | omega | (simp only [ya_pi, ya_pj, ya_pa, ya_pr, yo_pi, yo_pj, yo_pa, yf_pi, yf_pj, yf_pa, yh_pi, yh_pj, yh_pa, yt_pi, yt_pj, yt_pa, la_pi, la_pj, la_pa]; assumption)) only [b_X4_learn_40, b_X4_learn_43, i_lit, i_m1, i_31, il_t, il_f, iq_t, iq_f, it_t, it_f, im_e, im_l, im_g, im_g2, nI_add, pk_mul, i_sub, i_div, sdm, i_dec, i_cl, iv_t, bI_or2, bI_t0, bI_one, not_true_eq_false, not_false_eq_true, ↓reduceIte, am_tl, am_tn, am_t0, am_n0, and_true, true_and, List.cons_append, List.nil_append, List.append_nil, Option.isSome_some]
          have fr3 : am_fr h2 (p_i h2 56 3 (nI b)) (fun a k => a = 56 ∧ k = 3) := am_fr_pi ⟨rfl, rfl⟩
          have F3 : fa_at (p_i h2 56 3 (nI b)) 11 f := fr3.fa F2 (fun a k h1 h2 z => by omega)
          refine c_noteLinks (d := d + 12) ok (fr3.lay L2) F3 e3' (fun x hx => (e2 x hx).2) (by omega) (fun c hc => ?_) (fun h4 fr4 r4 => ?_)
          · rw [fr3.i (by omega)]
            exact r2 r w c (Nat.zero_le _) hc
          · have L4 := fr4.lay (fr3.lay L2)
            have e44 : h_i h4 56 4 = nI 1 := by rw [fr4.i (by omega), hi_k (by omega)]; exact e42
            have e34 : h_i h4 56 3 = nI b := by rw [fr4.i (by omega), hi_s]
            have fr14 := (fr12.tr (fr3.le (fun a k z => by unfold nP; omega))).tr (fr4.le (fun a k z => by unfold nP; omega))
            have fin : Q none h4 := k h4 fr14 ⟨e44, by
              rw [hrp]
              exact ⟨by rw [lr]; exact e34, by omega, fun i hi => by
                have := r4 i (by rw [List.length_map]; exact hi)
                rw [Nat.zero_add, gd_map hi] at this
                exact this⟩⟩
            simp (disch := first | assumption | omega | (simp only [ya_pi, ya_pj, ya_pa, ya_pr, yo_pi, yo_pj, yo_pa, yf_pi, yf_pj, yf_pa, yh_pi, yh_pj, yh_pa, yt_pi, yt_pj, yt_pa, la_pi, la_pj, la_pa]; assumption)) only [b_X4_learn_53, i_lit, i_m1, i_31, il_t, il_f, iq_t, iq_f, it_t, it_f, im_e, im_l, im_g, im_g2, nI_add, pk_mul, i_sub, i_div, sdm, i_dec, i_cl, iv_t, bI_or2, bI_t0, bI_one, not_true_eq_false, not_false_eq_true, ↓reduceIte, am_tl, am_tn, am_t0, am_n0, and_true, true_and, List.cons_append, List.nil_append, List.append_nil]
            rw [b_X4_learn_20 _ _ _ _]
            by_cases y : 3 < b + 1
            · simp (disch := first | assumption | omega | (simp only [ya_pi, ya_pj, ya_pa, ya_pr, yo_pi, yo_pj, yo_pa, yf_pi, yf_pj, yf_pa, yh_pi, yh_pj, yh_pa, yt_pi, yt_pj, yt_pa, la_pi, la_pj, la_pa]; assumption)) only [b_X4_learn_59, i_lit, i_m1, i_31, il_t, il_f, iq_t, iq_f, it_t, it_f, im_e, im_l, im_g, im_g2, nI_add, pk_mul, i_sub, i_div, sdm, i_dec, i_cl, iv_t, bI_or2, bI_t0, bI_one, not_true_eq_false, not_false_eq_true, ↓reduceIte, am_tl, am_tn, am_t0, am_n0, and_true, true_and, List.cons_append, List.nil_append, List.append_nil]
              exact fin
            · simp (disch := first | assumption | omega | (simp only [ya_pi, ya_pj, ya_pa, ya_pr, yo_pi, yo_pj, yo_pa, yf_pi, yf_pj, yf_pa, yh_pi, yh_pj, yh_pa, yt_pi, yt_pj, yt_pa, la_pi, la_pj, la_pa]; assumption)) only [b_X4_learn_25, b_X4_learn_59, i_lit, i_m1, i_31, il_t, il_f, iq_t, iq_f, it_t, it_f, im_e, im_l, im_g, im_g2, nI_add, pk_mul, i_sub, i_div, sdm, i_dec, i_cl, iv_t, bI_or2, bI_t0, bI_one, not_true_eq_false, not_false_eq_true, ↓reduceIte, am_tl, am_tn, am_t0, am_n0, and_true, true_and, List.cons_append, List.nil_append, List.append_nil, e34]
              exact fin
    · rintro - h1 ⟨fr1, e4, e3, nn⟩
      rw [b_X4_learn_20 _ _ _ _]
      simp (disch := first | assumption | omega | (simp only [ya_pi, ya_pj, ya_pa, ya_pr, yo_pi, yo_pj, yo_pa, yf_pi, yf_pj, yf_pa, yh_pi, yh_pj, yh_pa, yt_pi, yt_pj, yt_pa, la_pi, la_pj, la_pa]; assumption)) only [b_X4_learn_59, i_lit, i_m1, i_31, il_t, il_f, iq_t, iq_f, it_t, it_f, im_e, im_l, im_g, im_g2, nI_add, pk_mul, i_sub, i_div, sdm, i_dec, i_cl, iv_t, bI_or2, bI_t0, bI_one, not_true_eq_false, not_false_eq_true, ↓reduceIte, am_tl, am_tn, am_t0, am_n0, and_true, true_and, List.cons_append, List.nil_append, List.append_nil]
      exact k h1 fr1 ⟨e4, by rw [rpl_no nn]; exact e3⟩
  · have T1 := T.1
    simp (disch := first | assumption | omega | (simp only [ya_pi, ya_pj, ya_pa, ya_pr, yo_pi, yo_pj, yo_pa, yf_pi, yf_pj, yf_pa, yh_pi, yh_pj, yh_pa, yt_pi, yt_pj, yt_pa, la_pi, la_pj, la_pa]; assumption)) only [b_X4_learn_0, b_X4_learn_7, i_lit, i_m1, i_31, il_t, il_f, iq_t, iq_f, it_t, it_f, im_e, im_l, im_g, im_g2, nI_add, pk_mul, i_sub, i_div, sdm, i_dec, i_cl, iv_t, bI_or2, bI_t0, bI_one, not_true_eq_false, not_false_eq_true, ↓reduceIte, am_tl, am_tn, am_t0, am_n0, and_true, true_and, List.cons_append, List.nil_append, List.append_nil, T1]
    exact k h am_fr.rf T
def t_repairs (f : fa_S) : Int32 := oI ((rpl f).map List.length)
def t_repair (f : fa_S) (i : Int32) : Int32 := if i < 0 then -3 else oI (((rpl f).bind (fun r => r[i.toNatClampNeg]?)).map (lkn f))
theorem cI.mend {h h' : am_H} {S : St} (ok : St_ok S) (C : cI h S) (fr : am_fr h h' nP) (T : mnA h' (s_f S)) : cI h' S := by
  obtain ⟨L, O, ⟨W, e, C1, C2, C3⟩, C4, C5, C6, C7, C8⟩ := C
  have g : gf h h' nP N0 N0 := fr.g
  have hf := ok.1.1.1
  exact ⟨fr.lay L, g.or O (fT_l11 hf.1) (fun c hc => ⟨by unfold nP; omega, by unfold nP; omega, fun k hk => by unfold nP; omega⟩) (fun k z => z), ⟨W, e, g.hoA ok.1 C1 (fun _ _ _ _ z => z) (fun a k h1 _ => by unfold nP; omega) (fun a k h1 h2 => by unfold nP; omega), g.paA L (fun q hq => (ok.2.1.2 q hq).1) C2 (by unfold nP; omega) (by unfold nP; omega) (fun _ z => z) (fun a k h1 _ _ => ⟨by unfold nP; omega, fun z => z⟩), g.imA L ok.2.2.1 C3 (fun _ z => z) (fun a k h1 _ => by unfold nP; omega) (fun a k h1 _ _ => ⟨by unfold nP; omega, fun z => z⟩)⟩, g.tyA L C4 (fun a k h1 h2 => by unfold nP; omega) (fun _ _ _ _ z => z), g.tpA L C5 (by unfold nP; omega) (fun k => by unfold nP; omega), ⟨(g.i (la_n L (by omega)) (by unfold nP; omega)).trans C6.1, (g.i (la_n L (by omega)) (by unfold nP; omega)).trans C6.2⟩, T, g.ltA L C8 (fun k _ => by unfold nP; omega)⟩
theorem c_repairs {d : Nat} {Q : Option am_V → am_H → Prop} {h : am_H} {S : St} (ok : St_ok S) (C : cI h S) (k : ∀ h', gC h h' → cI h' S → Q (some (v_i (t_repairs (s_f S)))) h') : ex_ (d + 16) 212 0 [some (v_r (some 0))] [] h Q := by
  have L := C.1
  have gd : fa_gd (s_f S) := ok.1.1.1
  rw [b_X11_repairs_0 _ L]
  refine c_mLearn L gd.1 C.cQ.2.1 C.2.2.2.2.2.2.1 (fun h1 fr1 M => ?_)
  have L1 := fr1.lay L
  have fin := k h1 (gC.fr fr1 (fun a k z => by unfold nP at z; unfold pC; omega)) (C.mend ok fr1 (Or.inr M))
  unfold t_repairs at fin
  have M2 := M.2
  cases w : rpl (s_f S) with
  | none =>
    rw [w] at M2 fin
    have M2' : h_i h1 56 3 = mI := M2
    simp (disch := first | assumption | omega | (simp only [ya_pi, ya_pj, ya_pa, ya_pr, yo_pi, yo_pj, yo_pa, yf_pi, yf_pj, yf_pa, yh_pi, yh_pj, yh_pa, yt_pi, yt_pj, yt_pa, la_pi, la_pj, la_pa]; assumption)) only [b_X11_repairs_14, i_lit, i_m1, i_31, il_t, il_f, iq_t, iq_f, it_t, it_f, im_e, im_l, im_g, im_g2, nI_add, pk_mul, i_sub, i_div, sdm, i_dec, i_cl, iv_t, bI_or2, bI_t0, bI_one, not_true_eq_false, not_false_eq_true, ↓reduceIte, am_tl, am_tn, am_t0, am_n0, and_true, true_and, List.cons_append, List.nil_append, List.append_nil, M2']
    exact fin
  | some r =>
    rw [w] at M2 fin
    have M2' := M2.1
    simp (disch := first | assumption | omega | (simp only [ya_pi, ya_pj, ya_pa, ya_pr, yo_pi, yo_pj, yo_pa, yf_pi, yf_pj, yf_pa, yh_pi, yh_pj, yh_pa, yt_pi, yt_pj, yt_pa, la_pi, la_pj, la_pa]; assumption)) only [b_X11_repairs_14, i_lit, i_m1, i_31, il_t, il_f, iq_t, iq_f, it_t, it_f, im_e, im_l, im_g, im_g2, nI_add, pk_mul, i_sub, i_div, sdm, i_dec, i_cl, iv_t, bI_or2, bI_t0, bI_one, not_true_eq_false, not_false_eq_true, ↓reduceIte, am_tl, am_tn, am_t0, am_n0, and_true, true_and, List.cons_append, List.nil_append, List.append_nil, M2']
    exact fin
theorem c_repair {d : Nat} {Q : Option am_V → am_H → Prop} {h : am_H} {S : St} {i : Int32} (ok : St_ok S) (C : cI h S) (k : ∀ h', gC h h' → cI h' S → Q (some (v_i (t_repair (s_f S) i))) h') : ex_ (d + 16) 213 0 [some (v_r (some 0)), some (v_i i)] [] h Q := by
  have L := C.1
  have gd : fa_gd (s_f S) := ok.1.1.1
  unfold t_repair at k
  by_cases z : i < 0
  · rw [if_pos z] at k
    simp (disch := first | assumption | omega | (simp only [ya_pi, ya_pj, ya_pa, ya_pr, yo_pi, yo_pj, yo_pa, yf_pi, yf_pj, yf_pa, yh_pi, yh_pj, yh_pa, yt_pi, yt_pj, yt_pa, la_pi, la_pj, la_pa]; assumption)) only [b_X11_repair_0, b_X11_repair_7, b_X11_repair_4, b_X11_repair_21, b_X11_repair_29, i_lit, i_m1, i_31, il_t, il_f, iq_t, iq_f, it_t, it_f, im_e, im_l, im_g, im_g2, nI_add, pk_mul, i_sub, i_div, sdm, i_dec, i_cl, iv_t, bI_or2, bI_t0, bI_one, not_true_eq_false, not_false_eq_true, ↓reduceIte, am_tl, am_tn, am_t0, am_n0, and_true, true_and, List.cons_append, List.nil_append, List.append_nil, ge0 z]
    exact k h gC.rf C
  · rw [if_neg z] at k
    obtain ⟨i, hi, rfl⟩ := nI_of z
    rw [nI_clamp hi] at k
    simp (disch := first | assumption | omega | (simp only [ya_pi, ya_pj, ya_pa, ya_pr, yo_pi, yo_pj, yo_pa, yf_pi, yf_pj, yf_pa, yh_pi, yh_pj, yh_pa, yt_pi, yt_pj, yt_pa, la_pi, la_pj, la_pa]; assumption)) only [b_X11_repair_0, b_X11_repair_7, i_lit, i_m1, i_31, il_t, il_f, iq_t, iq_f, it_t, it_f, im_e, im_l, im_g, im_g2, nI_add, pk_mul, i_sub, i_div, sdm, i_dec, i_cl, iv_t, bI_or2, bI_t0, bI_one, not_true_eq_false, not_false_eq_true, ↓reduceIte, am_tl, am_tn, am_t0, am_n0, and_true, true_and, List.cons_append, List.nil_append, List.append_nil]
    refine c_mLearn L gd.1 C.cQ.2.1 C.2.2.2.2.2.2.1 (fun h1 fr1 M => ?_)
    have L1 := fr1.lay L
    have fin := k h1 (gC.fr fr1 (fun a k z => by unfold nP at z; unfold pC; omega)) (C.mend ok fr1 (Or.inr M))
    have M2 := M.2
    cases w : rpl (s_f S) with
    | none =>
      rw [w] at M2 fin
      have M2' : h_i h1 56 3 = mI := M2
      simp (disch := first | assumption | omega | (simp only [ya_pi, ya_pj, ya_pa, ya_pr, yo_pi, yo_pj, yo_pa, yf_pi, yf_pj, yf_pa, yh_pi, yh_pj, yh_pa, yt_pi, yt_pj, yt_pa, la_pi, la_pj, la_pa]; assumption)) only [b_X11_repair_0, b_X11_repair_7, b_X11_repair_4, b_X11_repair_21, b_X11_repair_29, b_X4_linkAt_0, b_X4_linkAt_30, b_X4_linkAt_4, b_X4_linkAt_12, b_X4_linkAt_21, i_lit, i_m1, i_31, il_t, il_f, iq_t, iq_f, it_t, it_f, im_e, im_l, im_g, im_g2, nI_add, pk_mul, i_sub, i_div, sdm, i_dec, i_cl, iv_t, bI_or2, bI_t0, bI_one, not_true_eq_false, not_false_eq_true, ↓reduceIte, am_tl, am_tn, am_t0, am_n0, and_true, true_and, List.cons_append, List.nil_append, List.append_nil, M2', im_le]
      exact fin
    | some r =>
      rw [w] at M2 fin
      obtain ⟨m1, m2, m3⟩ := M2
      by_cases y : i < r.length
      · have m3i := m3 i y
        have eb : ((some r).bind (fun r => r[i]?)).map (lkn (s_f S)) = some (lkn (s_f S) (r.getD i 0)) := by
          rw [Option.bind_some, List.getElem?_eq_getElem y, List.getD_eq_getElem?_getD, List.getElem?_eq_getElem y]
          rfl
        rw [eb] at fin
        simp (disch := first | assumption | omega | (simp only [ya_pi, ya_pj, ya_pa, ya_pr, yo_pi, yo_pj, yo_pa, yf_pi, yf_pj, yf_pa, yh_pi, yh_pj, yh_pa, yt_pi, yt_pj, yt_pa, la_pi, la_pj, la_pa]; assumption)) only [b_X11_repair_0, b_X11_repair_7, b_X11_repair_4, b_X11_repair_21, b_X11_repair_29, b_X4_linkAt_0, b_X4_linkAt_30, b_X4_linkAt_4, b_X4_linkAt_12, b_X4_linkAt_21, i_lit, i_m1, i_31, il_t, il_f, iq_t, iq_f, it_t, it_f, im_e, im_l, im_g, im_g2, nI_add, pk_mul, i_sub, i_div, sdm, i_dec, i_cl, iv_t, bI_or2, bI_t0, bI_one, not_true_eq_false, not_false_eq_true, ↓reduceIte, am_tl, am_tn, am_t0, am_n0, and_true, true_and, List.cons_append, List.nil_append, List.append_nil, m1, m3i]
        exact fin
      · have eb : ((some r).bind (fun r => r[i]?)).map (lkn (s_f S)) = none := by
          rw [Option.bind_some, List.getElem?_eq_none (by omega)]
          rfl
        rw [eb] at fin
        simp (disch := first | assumption | omega | (simp only [ya_pi, ya_pj, ya_pa, ya_pr, yo_pi, yo_pj, yo_pa, yf_pi, yf_pj, yf_pa, yh_pi, yh_pj, yh_pa, yt_pi, yt_pj, yt_pa, la_pi, la_pj, la_pa]; assumption)) only [b_X11_repair_0, b_X11_repair_7, b_X11_repair_4, b_X11_repair_21, b_X11_repair_29, b_X4_linkAt_0, b_X4_linkAt_30, b_X4_linkAt_4, b_X4_linkAt_12, b_X4_linkAt_21, i_lit, i_m1, i_31, il_t, il_f, iq_t, iq_f, it_t, it_f, im_e, im_l, im_g, im_g2, nI_add, pk_mul, i_sub, i_div, sdm, i_dec, i_cl, iv_t, bI_or2, bI_t0, bI_one, not_true_eq_false, not_false_eq_true, ↓reduceIte, am_tl, am_tn, am_t0, am_n0, and_true, true_and, List.cons_append, List.nil_append, List.append_nil, m1]
        exact fin
