/-! ===== which call to try ===== -/
def mxx (g : Nat → Nat) : Nat → Nat
  | 0 => 0
  | n + 1 => if mxx g n < g n then g n else mxx g n
theorem mxx_le {g : Nat → Nat} {c : Nat} : ∀ n, (∀ k, k < n → g k ≤ c) → mxx g n ≤ c := by
  intro n
  induction n with
  | zero => intro _; exact Nat.zero_le _
  | succ n ih =>
    intro h
    have := ih (fun k hk => h k (by omega))
    have := h n (by omega)
    rw [mxx]
    split <;> omega
def fl (P : Nat → Bool) : Nat → List Nat
  | 0 => []
  | n + 1 => if P n = true then fl P n ++ [n] else fl P n
theorem fl_len {P : Nat → Bool} : ∀ n, (fl P n).length ≤ n := by
  intro n
  induction n with
  | zero => exact Nat.le_refl _
  | succ n ih =>
    rw [fl]
    split
    · rw [List.length_append, List.length_singleton]; omega
    · omega
theorem fl_ct {P q : Nat → Bool} : ∀ n, ct (fun j => q ((fl P n).getD j 0)) (fl P n).length = ct (fun o => P o && q o) n := by
  intro n
  induction n with
  | zero => rfl
  | succ n ih =>
    rw [fl]
    by_cases z : P n = true
    · rw [if_pos z, List.length_append, List.length_singleton]
      have h1 : ct (fun j => q ((fl P n ++ [n]).getD j 0)) (fl P n).length = ct (fun o => P o && q o) n := by
        rw [← ih]
        exact ct_cong (fun k hk => by rw [gd_app, if_pos hk])
      cases w : q n with
      | true =>
        rw [ct_y (by rw [gd_app, if_neg (by omega), if_pos rfl]; exact w), ct_y (by rw [z, w]; rfl), h1]
      | false =>
        rw [ct_n (by rw [gd_app, if_neg (by omega), if_pos rfl]; exact w), ct_n (by rw [w, Bool.and_false]), h1]
    · have zf : P n = false := by simpa using z
      rw [if_neg z, ct_n (by rw [zf]; rfl), ih]
theorem mxx_cong {g g' : Nat → Nat} : ∀ n, (∀ k, k < n → g k = g' k) → mxx g n = mxx g' n := by
  intro n
  induction n with
  | zero => intro _; rfl
  | succ n ih =>
    intro h
    rw [mxx, mxx, ih (fun k hk => h k (by omega)), h n (by omega)]
theorem fl_mx {P : Nat → Bool} {g : Nat → Nat} : ∀ n, mxx (fun i => g ((fl P n).getD i 0)) (fl P n).length = mxx (fun o => if P o = true then g o else 0) n := by
  intro n
  induction n with
  | zero => rfl
  | succ n ih =>
    rw [fl, mxx]
    by_cases z : P n = true
    · rw [if_pos z, List.length_append, List.length_singleton, mxx]
      have h1 : mxx (fun i => g ((fl P n ++ [n]).getD i 0)) (fl P n).length = mxx (fun o => if P o = true then g o else 0) n := by
        rw [← ih]
        exact mxx_cong _ (fun k hk => by rw [gd_app, if_pos hk])
      have e2 : (fl P n ++ [n]).getD (fl P n).length 0 = n := by rw [gd_app, if_neg (by omega), if_pos rfl]
      rw [h1, e2, if_pos z]
    · rw [if_neg z, ih]
      rw [if_neg z, if_neg (Nat.not_lt_zero _)]
/-- how many of the moods alike to one -/
def alk (v : Nat → Int32) (P : Nat → Bool) (o : Nat) : Nat := ct (fun o' => P o' && (v o' == v o)) 10
def mal (v : Nat → Int32) (P : Nat → Bool) : Nat := mxx (fun o => if P o = true then alk v P o else 0) 10
theorem mal_le {v : Nat → Int32} {P : Nat → Bool} : mal v P ≤ 10 := mxx_le _ (fun k _ => by
  split
  · exact ct_le _ _
  · omega)
theorem mxI {a b : Nat} (ha : a < 2147483648) (hb : b < 2147483648) : (if nI a < nI b then nI b else nI a) = nI (if a < b then b else a) := by
  by_cases z : a < b
  · rw [if_pos z, if_pos (nI_lt z hb)]
  · rw [if_neg z, if_neg (nI_nlt (by omega) ha)]
theorem c_mostAlike {d : Nat} {Q : Option am_V → am_H → Prop} {h : am_H} {S : St} {c m : Nat} {P : Nat → Bool} (ok : St_ok S) (C : cI h S) (hc : c < f_n (s_f S)) (hm : m < 8) {l4 l5 l6 l7 lx : Option am_V} (k : ∀ h', am_fr h h' cS → Q (some (v_i (nI (mal (fun md => an (s_f S) (s_H S).2.1 (s_H S).2.2.1 c m (nI md)) P)))) h') : ex_ (d + 5) 158 0 [some (v_r (some 51)), some (v_i (nI c)), some (v_i (nI m)), some (v_i (nI (bs P))), l4, l5, l6, l7, lx] [] h Q := by
  have G := ok.1.1
  have gd := G.1
  have n10 := gd.1.1
  simp (disch := first | assumption | omega | (simp only [ya_pi, ya_pj, ya_pa, ya_pr, yo_pi, yo_pj, yo_pa, yf_pi, yf_pj, yf_pa, yh_pi, yh_pj, yh_pa, yt_pi, yt_pj, yt_pa, la_pi, la_pj, la_pa]; assumption)) only [b_X10_mostAlike_0, i_lit, i_m1, i_31, il_t, il_f, iq_t, iq_f, it_t, it_f, im_e, im_l, im_g, im_g2, nI_add, pk_mul, i_sub, i_div, sdm, i_dec, i_cl, iv_t, bI_or2, bI_t0, bI_one, not_true_eq_false, not_false_eq_true, ↓reduceIte, am_tl, am_tn, am_t0, am_n0, and_true, true_and, List.cons_append, List.nil_append, List.append_nil]
  generalize hv : (fun md => an (s_f S) (s_H S).2.1 (s_H S).2.2.1 c m (nI md)) = v at k
  have f10 : ∀ n, (fl P n).length ≤ n := fl_len
  refine lp_up 10 (fun i (s : Option am_V × Option am_V × Option am_V) => [some (v_r (some 51)), some (v_i (nI c)), some (v_i (nI m)), some (v_i (nI (bs P))), some (v_i (nI (fl P i).length)), some (v_i (nI i)), s.1, s.2.1, s.2.2]) (fun i _ h' => am_fr h h' cS ∧ ∀ j, j < (fl P i).length → h_i h' 54 j = v ((fl P i).getD j 0)) ?_ ?_ (Nat.zero_le _) ⟨am_fr.rf, fun j hj => absurd hj (Nat.not_lt_zero _)⟩ (s := (l6, l7, lx))
  · rintro i ⟨m6, m7, m8⟩ h1 hi ⟨fr1, e1⟩ nxt
    dsimp only at nxt ⊢
    have i16 : i < 16 := by omega
    have C1 := C.q ok fr1
    have L1 := C1.1
    have fi := f10 i
    rw [b_X10_mostAlike_6 _ _ _ _ _ _ _ _ _ _]
    by_cases z : P i = true
    · simp (disch := first | assumption | omega | (simp only [ya_pi, ya_pj, ya_pa, ya_pr, yo_pi, yo_pj, yo_pa, yf_pi, yf_pj, yf_pa, yh_pi, yh_pj, yh_pa, yt_pi, yt_pj, yt_pa, la_pi, la_pj, la_pa]; assumption)) only [b_X10_mostAlike_13, b_X10_mostAlike_22, b_X10_mostAlike_32, i_lit, i_m1, i_31, il_t, il_f, iq_t, iq_f, it_t, it_f, im_e, im_l, im_g, im_g2, nI_add, pk_mul, i_sub, i_div, sdm, i_dec, i_cl, iv_t, bI_or2, bI_t0, bI_one, not_true_eq_false, not_false_eq_true, ↓reduceIte, am_tl, am_tn, am_t0, am_n0, and_true, true_and, List.cons_append, List.nil_append, List.append_nil, i_31, z, Bool.true_eq_false]
      refine c_answer gd C1.cQ C1.cH.2.1 C1.cH.2.2 G.2.1 G.2.2 hc hm (fun h2 fr2 => ?_)
      have L2 := fr2.lay L1
      have A54 : y_arr h2 54 20 10 := la_y L2 rfl
      have ev : an (s_f S) (s_H S).2.1 (s_H S).2.2.1 c m (nI i) = v i := by rw [← hv]
      simp (disch := first | assumption | omega | (simp only [ya_pi, ya_pj, ya_pa, ya_pr, yo_pi, yo_pj, yo_pa, yf_pi, yf_pj, yf_pa, yh_pi, yh_pj, yh_pa, yt_pi, yt_pj, yt_pa, la_pi, la_pj, la_pa]; assumption)) only [b_X10_mostAlike_46, i_lit, i_m1, i_31, il_t, il_f, iq_t, iq_f, it_t, it_f, im_e, im_l, im_g, im_g2, nI_add, pk_mul, i_sub, i_div, sdm, i_dec, i_cl, iv_t, bI_or2, bI_t0, bI_one, not_true_eq_false, not_false_eq_true, ↓reduceIte, am_tl, am_tn, am_t0, am_n0, and_true, true_and, List.cons_append, List.nil_append, List.append_nil]
      rw [ev]
      have nx1 := nxt (m6, m7, m8) (p_i h2 54 (fl P i).length (v i)) ⟨(fr1.tr (fr2.le (fun a k (z : vF a k) => z.S))).pi (by unfold cS; omega), fun j hj => ?_⟩
      · dsimp only at nx1
        rw [fl, if_pos z, List.length_append, List.length_singleton] at nx1
        exact nx1
      · rw [fl, if_pos z, List.length_append, List.length_singleton] at hj
        rw [fl, if_pos z, gd_app, hi_if]
        by_cases y : j < (fl P i).length
        · rw [if_neg (by omega), if_pos y, fr2.i (by unfold vF; omega)]
          exact e1 j y
        · have : j = (fl P i).length := by omega
          rw [if_pos ⟨rfl, this⟩, if_neg y, if_pos this]
    · have zf : P i = false := by simpa using z
      have nx1 := nxt (m6, m7, m8) h1 ⟨fr1, by rw [fl, if_neg z]; exact e1⟩
      dsimp only at nx1
      rw [fl, if_neg z] at nx1
      simp (disch := first | assumption | omega | (simp only [ya_pi, ya_pj, ya_pa, ya_pr, yo_pi, yo_pj, yo_pa, yf_pi, yf_pj, yf_pa, yh_pi, yh_pj, yh_pa, yt_pi, yt_pj, yt_pa, la_pi, la_pj, la_pa]; assumption)) only [b_X10_mostAlike_13, b_X10_mostAlike_50, i_lit, i_m1, i_31, il_t, il_f, iq_t, iq_f, it_t, it_f, im_e, im_l, im_g, im_g2, nI_add, pk_mul, i_sub, i_div, sdm, i_dec, i_cl, iv_t, bI_or2, bI_t0, bI_one, not_true_eq_false, not_false_eq_true, ↓reduceIte, am_tl, am_tn, am_t0, am_n0, and_true, true_and, List.cons_append, List.nil_append, List.append_nil, i_31, zf]
      exact nx1
  · rintro ⟨m6, m7, m8⟩ h1 ⟨fr1, e1⟩
    dsimp only
    have L1 := fr1.lay C.1
    have fi := f10 10
    rw [b_X10_mostAlike_6 _ _ _ _ _ _ _ _ _ _]
    simp (disch := first | assumption | omega | (simp only [ya_pi, ya_pj, ya_pa, ya_pr, yo_pi, yo_pj, yo_pa, yf_pi, yf_pj, yf_pa, yh_pi, yh_pj, yh_pa, yt_pi, yt_pj, yt_pa, la_pi, la_pj, la_pa]; assumption)) only [b_X10_mostAlike_56, i_lit, i_m1, i_31, il_t, il_f, iq_t, iq_f, it_t, it_f, im_e, im_l, im_g, im_g2, nI_add, pk_mul, i_sub, i_div, sdm, i_dec, i_cl, iv_t, bI_or2, bI_t0, bI_one, not_true_eq_false, not_false_eq_true, ↓reduceIte, am_tl, am_tn, am_t0, am_n0, and_true, true_and, List.cons_append, List.nil_append, List.append_nil]
    have k1 := k h1 fr1
    unfold mal at k1
    rw [← fl_mx (g := alk v P) 10] at k1
    generalize hr : fl P 10 = r at e1 fi k1
    have eA : ∀ i, alk v P (r.getD i 0) = ct (fun j => v (r.getD j 0) == v (r.getD i 0)) r.length := fun i => by
      unfold alk
      rw [← hr]
      exact (fl_ct (P := P) (q := fun o => v o == v ((fl P 10).getD i 0)) 10).symm
    have al : ∀ i, alk v P (r.getD i 0) ≤ 10 := fun i => ct_le _ _
    have ml : ∀ n, mxx (fun i => alk v P (r.getD i 0)) n ≤ 10 := fun n => mxx_le n (fun i _ => al i)
    refine lp_up r.length (fun i (s : Option am_V × Option am_V) => [some (v_r (some 51)), some (v_i (nI c)), some (v_i (nI m)), some (v_i (nI (bs P))), some (v_i (nI r.length)), some (v_i (nI (mxx (fun i => alk v P (r.getD i 0)) i))), some (v_i (nI i)), s.1, s.2]) (fun i _ h' => h' = h1) ?_ ?_ (Nat.zero_le _) rfl (s := (m7, m8))
    · rintro i ⟨m7, m8⟩ h2 hi rfl nxt
      dsimp only at nxt ⊢
      rw [b_X10_mostAlike_62 _ _ _ _ _ _ _ _ _ _]
      simp (disch := first | assumption | omega | (simp only [ya_pi, ya_pj, ya_pa, ya_pr, yo_pi, yo_pj, yo_pa, yf_pi, yf_pj, yf_pa, yh_pi, yh_pj, yh_pa, yt_pi, yt_pj, yt_pa, la_pi, la_pj, la_pa]; assumption)) only [b_X10_mostAlike_69, i_lit, i_m1, i_31, il_t, il_f, iq_t, iq_f, it_t, it_f, im_e, im_l, im_g, im_g2, nI_add, pk_mul, i_sub, i_div, sdm, i_dec, i_cl, iv_t, bI_or2, bI_t0, bI_one, not_true_eq_false, not_false_eq_true, ↓reduceIte, am_tl, am_tn, am_t0, am_n0, and_true, true_and, List.cons_append, List.nil_append, List.append_nil]
      refine lp_up r.length (fun j (_ : Unit) => [some (v_r (some 51)), some (v_i (nI c)), some (v_i (nI m)), some (v_i (nI (bs P))), some (v_i (nI r.length)), some (v_i (nI (mxx (fun i => alk v P (r.getD i 0)) i))), some (v_i (nI i)), some (v_i (nI (ct (fun j => v (r.getD j 0) == v (r.getD i 0)) j))), some (v_i (nI j))]) (fun j _ h' => h' = h2) ?_ ?_ (Nat.zero_le _) rfl (s := ())
      · rintro j - h3 hj rfl nx2
        have ej := e1 j hj
        have ei := e1 i hi
        have nx1 := nx2 () h3 rfl
        rw [b_X10_mostAlike_75 _ _ _ _ _ _ _ _ _ _]
        by_cases z : v (r.getD j 0) = v (r.getD i 0)
        · rw [ct_y (by rw [z, beq_self_eq_true])] at nx1
          simp (disch := first | assumption | omega | (simp only [ya_pi, ya_pj, ya_pa, ya_pr, yo_pi, yo_pj, yo_pa, yf_pi, yf_pj, yf_pa, yh_pi, yh_pj, yh_pa, yt_pi, yt_pj, yt_pa, la_pi, la_pj, la_pa]; assumption)) only [b_X10_mostAlike_82, b_X10_mostAlike_99, i_lit, i_m1, i_31, il_t, il_f, iq_t, iq_f, it_t, it_f, im_e, im_l, im_g, im_g2, nI_add, pk_mul, i_sub, i_div, sdm, i_dec, i_cl, iv_t, bI_or2, bI_t0, bI_one, not_true_eq_false, not_false_eq_true, ↓reduceIte, am_tl, am_tn, am_t0, am_n0, and_true, true_and, List.cons_append, List.nil_append, List.append_nil, ej, ei, z]
          exact nx1
        · rw [ct_n (p := fun j => v (r.getD j 0) == v (r.getD i 0)) (beq_eq_false_iff_ne.2 z)] at nx1
          simp (disch := first | assumption | omega | (simp only [ya_pi, ya_pj, ya_pa, ya_pr, yo_pi, yo_pj, yo_pa, yf_pi, yf_pj, yf_pa, yh_pi, yh_pj, yh_pa, yt_pi, yt_pj, yt_pa, la_pi, la_pj, la_pa]; assumption)) only [b_X10_mostAlike_82, b_X10_mostAlike_102, i_lit, i_m1, i_31, il_t, il_f, iq_t, iq_f, it_t, it_f, im_e, im_l, im_g, im_g2, nI_add, pk_mul, i_sub, i_div, sdm, i_dec, i_cl, iv_t, bI_or2, bI_t0, bI_one, not_true_eq_false, not_false_eq_true, ↓reduceIte, am_tl, am_tn, am_t0, am_n0, and_true, true_and, List.cons_append, List.nil_append, List.append_nil, ej, ei, z]
          exact nx1
      · rintro - h3 rfl
        have a1 := al i
        have a2 := ml i
        have nx1 := nxt (some (v_i (nI (alk v P (r.getD i 0)))), some (v_i (nI r.length))) h3 rfl
        dsimp only at nx1
        rw [mxx] at nx1
        rw [b_X10_mostAlike_75 _ _ _ _ _ _ _ _ _ _, ← eA i]
        simp (disch := first | assumption | omega | (simp only [ya_pi, ya_pj, ya_pa, ya_pr, yo_pi, yo_pj, yo_pa, yf_pi, yf_pj, yf_pa, yh_pi, yh_pj, yh_pa, yt_pi, yt_pj, yt_pa, la_pi, la_pj, la_pa]; assumption)) only [b_X10_mostAlike_108, i_lit, i_m1, i_31, il_t, il_f, iq_t, iq_f, it_t, it_f, im_e, im_l, im_g, im_g2, nI_add, pk_mul, i_sub, i_div, sdm, i_dec, i_cl, iv_t, bI_or2, bI_t0, bI_one, not_true_eq_false, not_false_eq_true, ↓reduceIte, am_tl, am_tn, am_t0, am_n0, and_true, true_and, List.cons_append, List.nil_append, List.append_nil]
        rw [mxI (by omega) (by omega)]
        exact nx1
    · rintro ⟨m7, m8⟩ h2 rfl
      dsimp only
      rw [b_X10_mostAlike_62 _ _ _ _ _ _ _ _ _ _]
      simp (disch := first | assumption | omega | (simp only [ya_pi, ya_pj, ya_pa, ya_pr, yo_pi, yo_pj, yo_pa, yf_pi, yf_pj, yf_pa, yh_pi, yh_pj, yh_pa, yt_pi, yt_pj, yt_pa, la_pi, la_pj, la_pa]; assumption)) only [b_X10_mostAlike_123, i_lit, i_m1, i_31, il_t, il_f, iq_t, iq_f, it_t, it_f, im_e, im_l, im_g, im_g2, nI_add, pk_mul, i_sub, i_div, sdm, i_dec, i_cl, iv_t, bI_or2, bI_t0, bI_one, not_true_eq_false, not_false_eq_true, ↓reduceIte, am_tl, am_tn, am_t0, am_n0, and_true, true_and, List.cons_append, List.nil_append, List.append_nil]
      exact k1
def rMA (a k : Nat) : Prop := rV a k ∨ a = 114
theorem rMA.S {a k : Nat} (z : rMA a k) : rS a k := by
  rcases z with z | z
  · exact z.S
  · unfold rS; omega
theorem c_rMostAlike {d : Nat} {Q : Option am_V → am_H → Prop} {h : am_H} {S : St} {c m : Nat} {P : Nat → Bool} (ok : St_ok S) (C : rI h S) (A : ra h (fT (s_f S)) (f_n (s_f S))) (hc : c < f_n (s_f S)) (hm : m < 8) {l4 l5 l6 l7 : Option am_V} (k : ∀ h', am_fr h h' rMA → Q (some (v_i (nI (mal (fun md => an (s_f S) (s_H S).2.1 (s_H S).2.2.1 c m (nI md)) P)))) h') : ex_ (d + 6) 360 0 [some (v_r (some 93)), some (v_i (nI (bs P))), some (v_i (nI c)), some (v_i (nI m)), l4, l5, l6, l7] [] h Q := by
  have G := ok.1.1
  have gd := G.1
  have n10 := gd.1.1
  simp (disch := first | assumption | omega | (simp only [ya_pi, ya_pj, ya_pa, ya_pr, yo_pi, yo_pj, yo_pa, yf_pi, yf_pj, yf_pa, yh_pi, yh_pj, yh_pa, yt_pi, yt_pj, yt_pa, la_pi, la_pj, la_pa]; assumption)) only [b_X12_mostAlike_0, i_lit, i_m1, i_31, il_t, il_f, iq_t, iq_f, it_t, it_f, im_e, im_l, im_g, im_g2, nI_add, pk_mul, i_sub, i_div, sdm, i_dec, i_cl, iv_t, bI_or2, bI_t0, bI_one, not_true_eq_false, not_false_eq_true, ↓reduceIte, am_tl, am_tn, am_t0, am_n0, and_true, true_and, List.cons_append, List.nil_append, List.append_nil]
  generalize hv : (fun md => an (s_f S) (s_H S).2.1 (s_H S).2.2.1 c m (nI md)) = v at k
  refine lp_up 10 (fun i (_ : Unit) => [some (v_r (some 93)), some (v_i (nI (bs P))), some (v_i (nI c)), some (v_i (nI m)), some (v_i (nI i)), l5, l6, l7]) (fun i _ h' => am_fr h h' rMA ∧ ∀ j, j < i → h_i h' 114 j = v j) ?_ ?_ (Nat.zero_le _) ⟨am_fr.rf, fun j hj => absurd hj (Nat.not_lt_zero _)⟩ (s := ())
  · rintro i - h1 hi ⟨fr1, e1⟩ nxt
    have C1 := C.q ok (fr1.le (fun a k z => z.S))
    have L1 := C1.1
    have A1 : ra h1 (fT (s_f S)) (f_n (s_f S)) := A.fr (fT_ok gd.1) fr1 (fun a k h1 h2 => by unfold rMA rV; omega)
    rw [b_X12_mostAlike_3 _ _ _ _ _ _ _ _ _]
    simp (disch := first | assumption | omega | (simp only [ya_pi, ya_pj, ya_pa, ya_pr, yo_pi, yo_pj, yo_pa, yf_pi, yf_pj, yf_pa, yh_pi, yh_pj, yh_pa, yt_pi, yt_pj, yt_pa, la_pi, la_pj, la_pa]; assumption)) only [b_X12_mostAlike_10, i_lit, i_m1, i_31, il_t, il_f, iq_t, iq_f, it_t, it_f, im_e, im_l, im_g, im_g2, nI_add, pk_mul, i_sub, i_div, sdm, i_dec, i_cl, iv_t, bI_or2, bI_t0, bI_one, not_true_eq_false, not_false_eq_true, ↓reduceIte, am_tl, am_tn, am_t0, am_n0, and_true, true_and, List.cons_append, List.nil_append, List.append_nil]
    refine c_saysOf G C1.rH A1 hc hm (fun h2 fr2 => ?_)
    have L2 := fr2.lay L1
    have A114 : y_arr h2 114 20 10 := la_y L2 rfl
    have ev : an (s_f S) (s_H S).2.1 (s_H S).2.2.1 c m (nI i) = v i := by rw [← hv]
    simp (disch := first | assumption | omega | (simp only [ya_pi, ya_pj, ya_pa, ya_pr, yo_pi, yo_pj, yo_pa, yf_pi, yf_pj, yf_pa, yh_pi, yh_pj, yh_pa, yt_pi, yt_pj, yt_pa, la_pi, la_pj, la_pa]; assumption)) only [b_X12_mostAlike_24, i_lit, i_m1, i_31, il_t, il_f, iq_t, iq_f, it_t, it_f, im_e, im_l, im_g, im_g2, nI_add, pk_mul, i_sub, i_div, sdm, i_dec, i_cl, iv_t, bI_or2, bI_t0, bI_one, not_true_eq_false, not_false_eq_true, ↓reduceIte, am_tl, am_tn, am_t0, am_n0, and_true, true_and, List.cons_append, List.nil_append, List.append_nil]
    rw [ev]
    refine nxt () _ ⟨(fr1.tr (fr2.le (fun a k z => Or.inl z))).pi (Or.inr rfl), fun j hj => ?_⟩
    by_cases z : j = i
    · rw [z, hi_s]
    · rw [hi_k z, fr2.i (by unfold rV; omega)]
      exact e1 j (by omega)
  · rintro - h1 ⟨fr1, e1⟩
    have L1 := fr1.lay C.1
    rw [b_X12_mostAlike_3 _ _ _ _ _ _ _ _ _]
    simp (disch := first | assumption | omega | (simp only [ya_pi, ya_pj, ya_pa, ya_pr, yo_pi, yo_pj, yo_pa, yf_pi, yf_pj, yf_pa, yh_pi, yh_pj, yh_pa, yt_pi, yt_pj, yt_pa, la_pi, la_pj, la_pa]; assumption)) only [b_X12_mostAlike_31, i_lit, i_m1, i_31, il_t, il_f, iq_t, iq_f, it_t, it_f, im_e, im_l, im_g, im_g2, nI_add, pk_mul, i_sub, i_div, sdm, i_dec, i_cl, iv_t, bI_or2, bI_t0, bI_one, not_true_eq_false, not_false_eq_true, ↓reduceIte, am_tl, am_tn, am_t0, am_n0, and_true, true_and, List.cons_append, List.nil_append, List.append_nil]
    have k1 := k h1 fr1
    have al : ∀ i, (if P i = true then alk v P i else 0) ≤ 10 := fun i => by
      split
      · exact ct_le _ _
      · omega
    have ml : ∀ n, mxx (fun o => if P o = true then alk v P o else 0) n ≤ 10 := fun n => mxx_le n (fun i _ => al i)
    refine lp_up 10 (fun i (s : Option am_V × Option am_V) => [some (v_r (some 93)), some (v_i (nI (bs P))), some (v_i (nI c)), some (v_i (nI m)), some (v_i (nI (mxx (fun o => if P o = true then alk v P o else 0) i))), some (v_i (nI i)), s.1, s.2]) (fun i _ h' => h' = h1) ?_ ?_ (Nat.zero_le _) rfl (s := (l6, l7))
    · rintro i ⟨m6, m7⟩ h2 hi rfl nxt
      dsimp only at nxt ⊢
      have i16 : i < 16 := by omega
      rw [b_X12_mostAlike_37 _ _ _ _ _ _ _ _ _]
      simp (disch := first | assumption | omega | (simp only [ya_pi, ya_pj, ya_pa, ya_pr, yo_pi, yo_pj, yo_pa, yf_pi, yf_pj, yf_pa, yh_pi, yh_pj, yh_pa, yt_pi, yt_pj, yt_pa, la_pi, la_pj, la_pa]; assumption)) only [b_X12_mostAlike_44, i_lit, i_m1, i_31, il_t, il_f, iq_t, iq_f, it_t, it_f, im_e, im_l, im_g, im_g2, nI_add, pk_mul, i_sub, i_div, sdm, i_dec, i_cl, iv_t, bI_or2, bI_t0, bI_one, not_true_eq_false, not_false_eq_true, ↓reduceIte, am_tl, am_tn, am_t0, am_n0, and_true, true_and, List.cons_append, List.nil_append, List.append_nil]
      have st := lp_up (d := d + 6) (k := 360) (pc := 50) (Q := Q) 10 (fun j (_ : Unit) => [some (v_r (some 93)), some (v_i (nI (bs P))), some (v_i (nI c)), some (v_i (nI m)), some (v_i (nI (mxx (fun o => if P o = true then alk v P o else 0) i))), some (v_i (nI i)), some (v_i (nI (if P i = true then ct (fun o' => P o' && (v o' == v i)) j else 0))), some (v_i (nI j))]) (fun j _ h' => h' = h2) ?_ ?_ (Nat.zero_le _) rfl (s := ()) (h := h2)
      · have e0 : (if P i = true then ct (fun o' => P o' && (v o' == v i)) 0 else 0) = 0 := by split <;> rfl
        rw [e0] at st
        exact st
      · rintro j - h3 hj rfl nx2
        have j16 : j < 16 := by omega
        have ej := e1 j hj
        have ei := e1 i hi
        have nx1 := nx2 () h3 rfl
        rw [b_X12_mostAlike_50 _ _ _ _ _ _ _ _ _]
        cases w : P i with
        | false =>
          rw [w, if_neg (by decide)] at nx1
          simp (disch := first | assumption | omega | (simp only [ya_pi, ya_pj, ya_pa, ya_pr, yo_pi, yo_pj, yo_pa, yf_pi, yf_pj, yf_pa, yh_pi, yh_pj, yh_pa, yt_pi, yt_pj, yt_pa, la_pi, la_pj, la_pa]; assumption)) only [b_X12_mostAlike_57, b_X12_mostAlike_66, b_X12_mostAlike_100, i_lit, i_m1, i_31, il_t, il_f, iq_t, iq_f, it_t, it_f, im_e, im_l, im_g, im_g2, nI_add, pk_mul, i_sub, i_div, sdm, i_dec, i_cl, iv_t, bI_or2, bI_t0, bI_one, not_true_eq_false, not_false_eq_true, ↓reduceIte, am_tl, am_tn, am_t0, am_n0, and_true, true_and, List.cons_append, List.nil_append, List.append_nil, c_isInI i16, w, Bool.false_eq_true, Nat.add_zero]
          exact nx1
        | true =>
          rw [w, if_pos rfl] at nx1
          cases y : P j with
          | false =>
            rw [ct_n (by rw [y, Bool.false_and])] at nx1
            simp (disch := first | assumption | omega | (simp only [ya_pi, ya_pj, ya_pa, ya_pr, yo_pi, yo_pj, yo_pa, yf_pi, yf_pj, yf_pa, yh_pi, yh_pj, yh_pa, yt_pi, yt_pj, yt_pa, la_pi, la_pj, la_pa]; assumption)) only [b_X12_mostAlike_57, b_X12_mostAlike_66, b_X12_mostAlike_69, b_X12_mostAlike_76, b_X12_mostAlike_100, i_lit, i_m1, i_31, il_t, il_f, iq_t, iq_f, it_t, it_f, im_e, im_l, im_g, im_g2, nI_add, pk_mul, i_sub, i_div, sdm, i_dec, i_cl, iv_t, bI_or2, bI_t0, bI_one, not_true_eq_false, not_false_eq_true, ↓reduceIte, am_tl, am_tn, am_t0, am_n0, and_true, true_and, List.cons_append, List.nil_append, List.append_nil, c_isInI i16, c_isInI j16, w, y, Bool.false_eq_true, Nat.add_zero]
            exact nx1
          | true =>
            by_cases z : v j = v i
            · rw [ct_y (by rw [y, z, beq_self_eq_true]; rfl)] at nx1
              simp (disch := first | assumption | omega | (simp only [ya_pi, ya_pj, ya_pa, ya_pr, yo_pi, yo_pj, yo_pa, yf_pi, yf_pj, yf_pa, yh_pi, yh_pj, yh_pa, yt_pi, yt_pj, yt_pa, la_pi, la_pj, la_pa]; assumption)) only [b_X12_mostAlike_57, b_X12_mostAlike_66, b_X12_mostAlike_69, b_X12_mostAlike_76, b_X12_mostAlike_79, b_X12_mostAlike_96, i_lit, i_m1, i_31, il_t, il_f, iq_t, iq_f, it_t, it_f, im_e, im_l, im_g, im_g2, nI_add, pk_mul, i_sub, i_div, sdm, i_dec, i_cl, iv_t, bI_or2, bI_t0, bI_one, not_true_eq_false, not_false_eq_true, ↓reduceIte, am_tl, am_tn, am_t0, am_n0, and_true, true_and, List.cons_append, List.nil_append, List.append_nil, c_isInI i16, c_isInI j16, w, y, ei, ej, z]
              exact nx1
            · rw [ct_n (by rw [beq_eq_false_iff_ne.2 z, Bool.and_false])] at nx1
              have z' : ¬ v i = v j := fun w => z w.symm
              simp (disch := first | assumption | omega | (simp only [ya_pi, ya_pj, ya_pa, ya_pr, yo_pi, yo_pj, yo_pa, yf_pi, yf_pj, yf_pa, yh_pi, yh_pj, yh_pa, yt_pi, yt_pj, yt_pa, la_pi, la_pj, la_pa]; assumption)) only [b_X12_mostAlike_57, b_X12_mostAlike_66, b_X12_mostAlike_69, b_X12_mostAlike_76, b_X12_mostAlike_79, b_X12_mostAlike_100, i_lit, i_m1, i_31, il_t, il_f, iq_t, iq_f, it_t, it_f, im_e, im_l, im_g, im_g2, nI_add, pk_mul, i_sub, i_div, sdm, i_dec, i_cl, iv_t, bI_or2, bI_t0, bI_one, not_true_eq_false, not_false_eq_true, ↓reduceIte, am_tl, am_tn, am_t0, am_n0, and_true, true_and, List.cons_append, List.nil_append, List.append_nil, c_isInI i16, c_isInI j16, w, y, ei, ej, z', Nat.add_zero]
              exact nx1
      · rintro - h3 rfl
        have a1 := al i
        have a2 := ml i
        have eA : (if P i = true then ct (fun o' => P o' && (v o' == v i)) 10 else 0) = if P i = true then alk v P i else 0 := rfl
        have nx1 := nxt (some (v_i (nI (if P i = true then alk v P i else 0))), some (v_i (nI 10))) h3 rfl
        dsimp only at nx1
        rw [mxx] at nx1
        rw [b_X12_mostAlike_50 _ _ _ _ _ _ _ _ _, eA]
        generalize (if P i = true then alk v P i else 0) = x at a1 nx1
        by_cases y : mxx (fun o => if P o = true then alk v P o else 0) i < x
        · rw [if_pos y] at nx1
          simp (disch := first | assumption | omega | (simp only [ya_pi, ya_pj, ya_pa, ya_pr, yo_pi, yo_pj, yo_pa, yf_pi, yf_pj, yf_pa, yh_pi, yh_pj, yh_pa, yt_pi, yt_pj, yt_pa, la_pi, la_pj, la_pa]; assumption)) only [b_X12_mostAlike_110, b_X12_mostAlike_117, i_lit, i_m1, i_31, il_t, il_f, iq_t, iq_f, it_t, it_f, im_e, im_l, im_g, im_g2, nI_add, pk_mul, i_sub, i_div, sdm, i_dec, i_cl, iv_t, bI_or2, bI_t0, bI_one, not_true_eq_false, not_false_eq_true, ↓reduceIte, am_tl, am_tn, am_t0, am_n0, and_true, true_and, List.cons_append, List.nil_append, List.append_nil]
          exact nx1
        · rw [if_neg y] at nx1
          simp (disch := first | assumption | omega | (simp only [ya_pi, ya_pj, ya_pa, ya_pr, yo_pi, yo_pj, yo_pa, yf_pi, yf_pj, yf_pa, yh_pi, yh_pj, yh_pa, yt_pi, yt_pj, yt_pa, la_pi, la_pj, la_pa]; assumption)) only [b_X12_mostAlike_110, b_X12_mostAlike_122, i_lit, i_m1, i_31, il_t, il_f, iq_t, iq_f, it_t, it_f, im_e, im_l, im_g, im_g2, nI_add, pk_mul, i_sub, i_div, sdm, i_dec, i_cl, iv_t, bI_or2, bI_t0, bI_one, not_true_eq_false, not_false_eq_true, ↓reduceIte, am_tl, am_tn, am_t0, am_n0, and_true, true_and, List.cons_append, List.nil_append, List.append_nil]
          exact nx1
    · rintro ⟨m6, m7⟩ h2 rfl
      dsimp only
      rw [b_X12_mostAlike_37 _ _ _ _ _ _ _ _ _]
      simp (disch := first | assumption | omega | (simp only [ya_pi, ya_pj, ya_pa, ya_pr, yo_pi, yo_pj, yo_pa, yf_pi, yf_pj, yf_pa, yh_pi, yh_pj, yh_pa, yt_pi, yt_pj, yt_pa, la_pi, la_pj, la_pa]; assumption)) only [b_X12_mostAlike_132, i_lit, i_m1, i_31, il_t, il_f, iq_t, iq_f, it_t, it_f, im_e, im_l, im_g, im_g2, nI_add, pk_mul, i_sub, i_div, sdm, i_dec, i_cl, iv_t, bI_or2, bI_t0, bI_one, not_true_eq_false, not_false_eq_true, ↓reduceIte, am_tl, am_tn, am_t0, am_n0, and_true, true_and, List.cons_append, List.nil_append, List.append_nil]
      exact k1
