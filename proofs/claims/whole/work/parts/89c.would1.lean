/-! ===== what would be ===== -/
def tol (n : Nat) : List Int64 → List Nat → Option (List Nat)
  | [], acc => some acc
  | v :: vs, acc => if (¬ v < lN 0 ∧ v < lN n) ∧ acc.contains v.toInt32.toNatClampNeg = false then tol n vs (acc ++ [v.toInt32.toNatClampNeg]) else none
theorem lt_cs {n : Nat} (hn : n ≤ 1000) (v : Int64) : (∃ k, k < n ∧ v = lN k) ∨ ¬ (¬ v < lN 0 ∧ v < lN n) := by
  by_cases h : v < lN 0
  · exact Or.inr (fun z => z.1 h)
  · obtain ⟨k, hk, rfl⟩ := pk_lOf h
    by_cases z : k < n
    · exact Or.inl ⟨k, z, rfl⟩
    · exact Or.inr (fun w => z ((pk_lLT hk (by omega)).1 w.2))
theorem lt_y {n k : Nat} (hn : n ≤ 1000) (hk : k < n) : ¬ lN k < lN 0 ∧ lN k < lN n := ⟨fun z => by have := (pk_lLT (by omega) (by omega)).1 z; omega, (pk_lLT (by omega) (by omega)).2 hk⟩
theorem l_cl {k : Nat} (h : k < 1000) : (lN k).toInt32.toNatClampNeg = k := by rw [lN_i, nI_clamp (by omega)]
theorem tol_spec {n : Nat} (hn : n ≤ 1000) : ∀ {vs : List Int64} {acc l : List Nat}, acc.Nodup → (∀ x ∈ acc, x < n) → tol n vs acc = some l → l.Nodup ∧ (∀ x ∈ l, x < n) ∧ l.length = acc.length + vs.length ∧ (∀ k, k < acc.length → l.getD k 0 = acc.getD k 0) ∧ ∀ k, k < vs.length → vs.getD k 0 = lN (l.getD (acc.length + k) 0) := by
  intro vs
  induction vs with
  | nil =>
    intro acc l nd lt h
    cases h
    exact ⟨nd, lt, rfl, fun _ _ => rfl, fun k hk => absurd hk (Nat.not_lt_zero _)⟩
  | cons v vs ih =>
    intro acc l nd lt h
    rw [tol] at h
    split at h
    · rename_i z
      rcases lt_cs hn v with ⟨k, hk, rfl⟩ | w
      · rw [l_cl (by omega)] at h z
        have z2 : ¬ k ∈ acc := by simpa using z.2
        obtain ⟨a1, a2, a3, a4, a5⟩ := ih (List.nodup_append.2 ⟨nd, (by simp), fun x hx y hy => by rw [List.mem_singleton.1 hy]; exact fun e => z2 (e ▸ hx)⟩) (fun x hx => by
          rcases List.mem_append.1 hx with y | y
          · exact lt x y
          · rw [List.mem_singleton.1 y]; exact hk) h
        rw [List.length_append, List.length_singleton] at a3 a4 a5
        refine ⟨a1, a2, by rw [a3, List.length_cons]; omega, fun j hj => ?_, fun j hj => ?_⟩
        · rw [a4 j (by omega), gd_app, if_pos hj]
        · cases j with
          | zero =>
            rw [List.getD_cons_zero, Nat.add_zero, a4 acc.length (by omega), gd_app, if_neg (by omega), if_pos rfl]
          | succ j =>
            rw [List.length_cons] at hj
            rw [List.getD_cons_succ, a5 j (by omega)]
            congr 2
            omega
      · exact absurd z.1 w
    · cases h
def wdL (f : fa_S) (tr : tr_S) (x : Int32) : Option (List Nat) := tol (f_n f) (tr x.toNatClampNeg).2 []
def wdC (f : fa_S) (tr : tr_S) (x : Int32) : Int32 := if tC tr x = nI 0 then (if 4 < (tr x.toNatClampNeg).2.length then -4 else match wdL f tr x with
  | none => -3
  | some _ => nI 0) else tC tr x
/-- what a told tray gives, or a code -/
theorem wd_cs {f : fa_S} (ok : fa_ok f) (tr : tr_S) (x : Int32) : (¬ wdC f tr x = nI 0) ∨ (wdC f tr x = nI 0 ∧ ∃ t l, t < 4 ∧ x = nI t ∧ wdL f tr x = some l ∧ l.length = (tr t).2.length ∧ l.length ≤ 4 ∧ l.Nodup ∧ (∀ p ∈ l, p < f_n f) ∧ ∀ k, k < l.length → (tr t).2.getD k 0 = lN (l.getD k 0)) := by
  by_cases z : wdC f tr x = nI 0
  · refine Or.inr ⟨z, ?_⟩
    rcases tr_cs x with ⟨t, ht, rfl⟩ | hx
    · unfold wdC at z
      rw [nI_clamp (by omega)] at z
      split at z
      · split at z
        · exact absurd z (by decide)
        · rename_i h4
          split at z
          · exact absurd z (by decide)
          · rename_i l hl
            have hl2 := hl
            unfold wdL at hl2
            rw [nI_clamp (by omega)] at hl2
            have n10 := ok.1
            obtain ⟨a1, a2, a3, -, a5⟩ := tol_spec (by omega) List.nodup_nil (fun x hx => by cases hx) hl2
            rw [List.length_nil, Nat.zero_add] at a3
            refine ⟨t, l, ht, rfl, hl, a3, by omega, a1, a2, fun k hk => ?_⟩
            have := a5 k (by omega)
            rwa [List.length_nil, Nat.zero_add] at this
      · rename_i h
        exact absurd z h
    · unfold wdC at z
      rw [tC_n hx, if_neg nI0_2] at z
      exact absurd z nI0_2
  · exact Or.inl z
theorem bsc {l : List Nat} {x : Nat} : bs (fun y => l.contains y || decide (y = x)) = bs (fun y => (l ++ [x]).contains y) := bs_ext (fun k _ => by
  rw [List.contains_eq_mem, List.contains_eq_mem]
  by_cases z : k ∈ l
  · simp [z]
  · simp [z])
theorem bsc0 : nI 0 = nI (bs (fun y => ([] : List Nat).contains y)) := by
  rw [← bs_0]
  exact congrArg nI (bs_ext (fun k _ => by simp))
theorem c_wouldCode {d : Nat} {Q : Option am_V → am_H → Prop} {h : am_H} {f : fa_S} {tr : tr_S} {x : Int32} {l2 l3 l4 l5 l6 l7 : Option am_V} (ok : fa_ok f) (L : Lay h) (F : fa_at h 11 f) (T : tyA h tr) (k : ∀ h', am_fr h h' (fun a _ => a = 81) → (wdC f tr x = nI 0 → ∀ l, wdL f tr x = some l → ro h' 81 0 l) → Q (some (v_i (wdC f tr x))) h') : ex_ (d + 2) 207 0 [some (v_r (some 0)), some (v_i x), l2, l3, l4, l5, l6, l7] [] h Q := by
  have n10 := ok.1
  rcases tr_cs x with ⟨t, ht, rfl⟩ | hx
  · by_cases hm : (tr t).1 = mI
    · have e : wdC f tr (nI t) = -6 := by unfold wdC; rw [tC_m ht hm, if_neg nI0_6]
      rw [e] at k
      simp (disch := first | assumption | omega | (simp only [ya_pi, ya_pj, ya_pa, ya_pr, yo_pi, yo_pj, yo_pa, yf_pi, yf_pj, yf_pa, yh_pi, yh_pj, yh_pa, yt_pi, yt_pj, yt_pa, la_pi, la_pj, la_pa]; assumption)) only [b_X11_wouldCode_0, b_X11_wouldCode_5, b_X11_wouldCode_12, b_X11_wouldCode_10, b_X11_wouldCode_20, b_X11_wouldCode_30, b_X11_wouldCode_27, b_X11_wouldCode_39, b_X11_wouldCode_123, b_X11_wouldCode_45, b_X11_wouldCode_51, b_X11_wouldCode_54, b_X11_wouldCode_57, b_X11_wouldCode_94, b_X11_wouldCode_66, b_X11_wouldCode_83, b_X11_wouldCode_97, i_lit, i_m1, i_31, il_t, il_f, iq_t, iq_f, it_t, it_f, im_e, im_l, im_g, im_g2, nI_add, pk_mul, i_sub, i_div, sdm, i_dec, i_cl, iv_t, bI_or2, bI_t0, bI_one, not_true_eq_false, not_false_eq_true, ↓reduceIte, am_tl, am_tn, am_t0, am_n0, and_true, true_and, List.cons_append, List.nil_append, List.append_nil, c_trayCode L T, tC_m ht hm, nI0_6]
      exact k h am_fr.rf (fun z => absurd z nI0_6)
    · have er := tr_ref L ht
      have Y := tr_y L ht
      have T1 := T t ht
      have e1 := T1.2.1
      have l40 := T1.2.2.1
      unfold wdC wdL at k
      rw [tC_y ht hm, if_pos rfl, nI_clamp (by omega)] at k
      by_cases z : 4 < (tr t).2.length
      · rw [if_pos z] at k
        simp (disch := first | assumption | omega | (simp only [ya_pi, ya_pj, ya_pa, ya_pr, yo_pi, yo_pj, yo_pa, yf_pi, yf_pj, yf_pa, yh_pi, yh_pj, yh_pa, yt_pi, yt_pj, yt_pa, la_pi, la_pj, la_pa]; assumption)) only [b_X11_wouldCode_0, b_X11_wouldCode_5, b_X11_wouldCode_12, b_X11_wouldCode_10, b_X11_wouldCode_20, b_X11_wouldCode_30, b_X11_wouldCode_27, b_X11_wouldCode_39, b_X11_wouldCode_123, b_X11_wouldCode_45, b_X11_wouldCode_51, b_X11_wouldCode_54, b_X11_wouldCode_57, b_X11_wouldCode_94, b_X11_wouldCode_66, b_X11_wouldCode_83, b_X11_wouldCode_97, i_lit, i_m1, i_31, il_t, il_f, iq_t, iq_f, it_t, it_f, im_e, im_l, im_g, im_g2, nI_add, pk_mul, i_sub, i_div, sdm, i_dec, i_cl, iv_t, bI_or2, bI_t0, bI_one, not_true_eq_false, not_false_eq_true, ↓reduceIte, am_tl, am_tn, am_t0, am_n0, and_true, true_and, List.cons_append, List.nil_append, List.append_nil, c_trayCode L T, tC_y ht hm, er, e1]
        exact k h am_fr.rf (fun z => absurd z (by decide))
      · rw [if_neg z] at k
        simp (disch := first | assumption | omega | (simp only [ya_pi, ya_pj, ya_pa, ya_pr, yo_pi, yo_pj, yo_pa, yf_pi, yf_pj, yf_pa, yh_pi, yh_pj, yh_pa, yt_pi, yt_pj, yt_pa, la_pi, la_pj, la_pa]; assumption)) only [b_X11_wouldCode_0, b_X11_wouldCode_5, b_X11_wouldCode_12, b_X11_wouldCode_10, b_X11_wouldCode_20, b_X11_wouldCode_30, b_X11_wouldCode_27, b_X11_wouldCode_39, b_X11_wouldCode_123, b_X11_wouldCode_45, b_X11_wouldCode_51, b_X11_wouldCode_54, b_X11_wouldCode_57, b_X11_wouldCode_94, b_X11_wouldCode_66, b_X11_wouldCode_83, b_X11_wouldCode_97, i_lit, i_m1, i_31, il_t, il_f, iq_t, iq_f, it_t, it_f, im_e, im_l, im_g, im_g2, nI_add, pk_mul, i_sub, i_div, sdm, i_dec, i_cl, iv_t, bI_or2, bI_t0, bI_one, not_true_eq_false, not_false_eq_true, ↓reduceIte, am_tl, am_tn, am_t0, am_n0, and_true, true_and, List.cons_append, List.nil_append, List.append_nil, c_trayCode L T, tC_y ht hm, er, e1]
        generalize hvs : (tr t).2 = vs at k l40 z
        have st := lp_up (d := d + 2) (k := 207) (pc := 36) (Q := Q) vs.length (fun i (s : List Nat × Option am_V × Option am_V) => [some (v_r (some 0)), some (v_i (nI t)), some (v_i (nI 0)), some (v_r (some (85 + 2 * t))), some (v_i (nI (bs (fun y => s.1.contains y)))), some (v_i (nI i)), s.2.1, s.2.2]) (fun i s h' => am_fr h h' (fun a _ => a = 81) ∧ s.1.length = i ∧ ro h' 81 0 s.1 ∧ tol (f_n f) vs [] = tol (f_n f) (vs.drop i) s.1) ?_ ?_ (Nat.zero_le _) ⟨am_fr.rf, rfl, ro_nil, by rw [List.drop_zero]⟩ (s := ([], l6, l7)) (h := h)
        · dsimp only at st
          rw [← bsc0] at st
          exact st
        · rintro i ⟨acc, m6, m7⟩ h1 hi ⟨fr1, hl, r1, eq⟩ nxt
          dsimp only at hl r1 eq ⊢
          have L1 := fr1.lay L
          have T2 : ty h1 t (tr t) := T1.fr L ht (fr1.gj (J := N0) (R := N0)) (fun k => by omega) (fun k z => z)
          have Y1 := tr_y L1 ht
          have e2 := T2.2.1
          have e0 : h_i h1 11 0 = nI (f_n f) := by rw [fr1.i (by omega)]; exact F.2.1
          have ca := fun {d} {Q} => c_tAt (d := d) (Q := Q) (k := i) L1 ht T2 (by rw [hvs]; exact hi)
          rw [hvs] at e2 ca
          have hd : vs.drop i = vs.getD i 0 :: vs.drop (i + 1) := by
            rw [List.drop_eq_getElem_cons hi, List.getD_eq_getElem?_getD, List.getElem?_eq_getElem hi]
            rfl
          rw [hd, tol] at eq
          rw [b_X11_wouldCode_36 _ _ _ _ _ _ _ _ _]
          generalize vs.getD i 0 = v at ca eq
          rcases lt_cs (show f_n f ≤ 1000 by omega) v with ⟨c, hc, rfl⟩ | w
          · rw [l_cl (by omega)] at eq
            have c16 : c < 16 := by omega
            by_cases y : acc.contains c = false
            · rw [if_pos ⟨lt_y (by omega) hc, y⟩] at eq
              have A81 : y_arr h1 81 20 4 := la_y L1 rfl
              have y' : (c ∈ acc) = False := eq_false (by simpa using y)
              simp (disch := first | assumption | omega | (simp only [ya_pi, ya_pj, ya_pa, ya_pr, yo_pi, yo_pj, yo_pa, yf_pi, yf_pj, yf_pa, yh_pi, yh_pj, yh_pa, yt_pi, yt_pj, yt_pa, la_pi, la_pj, la_pa]; assumption)) only [b_X11_wouldCode_0, b_X11_wouldCode_5, b_X11_wouldCode_12, b_X11_wouldCode_10, b_X11_wouldCode_20, b_X11_wouldCode_30, b_X11_wouldCode_27, b_X11_wouldCode_39, b_X11_wouldCode_123, b_X11_wouldCode_45, b_X11_wouldCode_51, b_X11_wouldCode_54, b_X11_wouldCode_57, b_X11_wouldCode_94, b_X11_wouldCode_66, b_X11_wouldCode_83, b_X11_wouldCode_97, i_lit, i_m1, i_31, il_t, il_f, iq_t, iq_f, it_t, it_f, im_e, im_l, im_g, im_g2, nI_add, pk_mul, i_sub, i_div, sdm, i_dec, i_cl, iv_t, bI_or2, bI_t0, bI_one, not_true_eq_false, not_false_eq_true, ↓reduceIte, am_tl, am_tn, am_t0, am_n0, and_true, true_and, List.cons_append, List.nil_append, List.append_nil, l_lit, lc_lt, lc_le, lc_gt, lc_ge, lc_eq, ll_t, ll_f, lt_t, lt_f, lq_t, lq_f, l_div, lN_add, lN_mul, lN_sub, lN_i, e2, e0, ca, nI_l, i_31, y, List.contains_eq_mem, decide_eq_true_eq, y', decide_false]
              have nx1 := nxt (acc ++ [c], some (v_l (lN c)), none) (p_i h1 81 i (nI c)) ⟨fr1.pi rfl, by dsimp only; rw [List.length_append, List.length_singleton, hl], ?_, eq⟩
              · dsimp only at nx1
                rw [← bsc] at nx1
                simp only [List.contains_eq_mem] at nx1
                exact nx1
              · have := ro_app (q := c) r1
                rw [hl, Nat.zero_add] at this
                exact this
            · rw [if_neg (fun w => y w.2)] at eq
              rw [eq] at k
              have y' : (c ∈ acc) = True := eq_true (by simpa using y)
              simp (disch := first | assumption | omega | (simp only [ya_pi, ya_pj, ya_pa, ya_pr, yo_pi, yo_pj, yo_pa, yf_pi, yf_pj, yf_pa, yh_pi, yh_pj, yh_pa, yt_pi, yt_pj, yt_pa, la_pi, la_pj, la_pa]; assumption)) only [b_X11_wouldCode_0, b_X11_wouldCode_5, b_X11_wouldCode_12, b_X11_wouldCode_10, b_X11_wouldCode_20, b_X11_wouldCode_30, b_X11_wouldCode_27, b_X11_wouldCode_39, b_X11_wouldCode_123, b_X11_wouldCode_45, b_X11_wouldCode_51, b_X11_wouldCode_54, b_X11_wouldCode_57, b_X11_wouldCode_94, b_X11_wouldCode_66, b_X11_wouldCode_83, b_X11_wouldCode_97, i_lit, i_m1, i_31, il_t, il_f, iq_t, iq_f, it_t, it_f, im_e, im_l, im_g, im_g2, nI_add, pk_mul, i_sub, i_div, sdm, i_dec, i_cl, iv_t, bI_or2, bI_t0, bI_one, not_true_eq_false, not_false_eq_true, ↓reduceIte, am_tl, am_tn, am_t0, am_n0, and_true, true_and, List.cons_append, List.nil_append, List.append_nil, l_lit, lc_lt, lc_le, lc_gt, lc_ge, lc_eq, ll_t, ll_f, lt_t, lt_f, lq_t, lq_f, l_div, lN_add, lN_mul, lN_sub, lN_i, e2, e0, ca, nI_l, i_31, y, List.contains_eq_mem, y', decide_true, Bool.true_eq_false]
              exact k h1 fr1 (fun z => absurd z (by decide))
          · rw [if_neg (fun y => w y.1)] at eq
            rw [eq] at k
            by_cases y : v < lN 0
            · simp (disch := first | assumption | omega | (simp only [ya_pi, ya_pj, ya_pa, ya_pr, yo_pi, yo_pj, yo_pa, yf_pi, yf_pj, yf_pa, yh_pi, yh_pj, yh_pa, yt_pi, yt_pj, yt_pa, la_pi, la_pj, la_pa]; assumption)) only [b_X11_wouldCode_0, b_X11_wouldCode_5, b_X11_wouldCode_12, b_X11_wouldCode_10, b_X11_wouldCode_20, b_X11_wouldCode_30, b_X11_wouldCode_27, b_X11_wouldCode_39, b_X11_wouldCode_123, b_X11_wouldCode_45, b_X11_wouldCode_51, b_X11_wouldCode_54, b_X11_wouldCode_57, b_X11_wouldCode_94, b_X11_wouldCode_66, b_X11_wouldCode_83, b_X11_wouldCode_97, i_lit, i_m1, i_31, il_t, il_f, iq_t, iq_f, it_t, it_f, im_e, im_l, im_g, im_g2, nI_add, pk_mul, i_sub, i_div, sdm, i_dec, i_cl, iv_t, bI_or2, bI_t0, bI_one, not_true_eq_false, not_false_eq_true, ↓reduceIte, am_tl, am_tn, am_t0, am_n0, and_true, true_and, List.cons_append, List.nil_append, List.append_nil, l_lit, lc_lt, lc_le, lc_gt, lc_ge, lc_eq, ll_t, ll_f, lt_t, lt_f, lq_t, lq_f, l_div, lN_add, lN_mul, lN_sub, lN_i, e2, e0, ca, nI_l, y]
              exact k h1 fr1 (fun z => absurd z (by decide))
            · have y2 : lN (f_n f) ≤ v := by
                obtain ⟨c, hc, rfl⟩ := pk_lOf y
                exact (pk_lLE (by omega) hc).2 (by
                  rcases Nat.lt_or_ge c (f_n f) with u | u
                  · exact absurd (lt_y (by omega) u) w
                  · exact u)
              simp (disch := first | assumption | omega | (simp only [ya_pi, ya_pj, ya_pa, ya_pr, yo_pi, yo_pj, yo_pa, yf_pi, yf_pj, yf_pa, yh_pi, yh_pj, yh_pa, yt_pi, yt_pj, yt_pa, la_pi, la_pj, la_pa]; assumption)) only [b_X11_wouldCode_0, b_X11_wouldCode_5, b_X11_wouldCode_12, b_X11_wouldCode_10, b_X11_wouldCode_20, b_X11_wouldCode_30, b_X11_wouldCode_27, b_X11_wouldCode_39, b_X11_wouldCode_123, b_X11_wouldCode_45, b_X11_wouldCode_51, b_X11_wouldCode_54, b_X11_wouldCode_57, b_X11_wouldCode_94, b_X11_wouldCode_66, b_X11_wouldCode_83, b_X11_wouldCode_97, i_lit, i_m1, i_31, il_t, il_f, iq_t, iq_f, it_t, it_f, im_e, im_l, im_g, im_g2, nI_add, pk_mul, i_sub, i_div, sdm, i_dec, i_cl, iv_t, bI_or2, bI_t0, bI_one, not_true_eq_false, not_false_eq_true, ↓reduceIte, am_tl, am_tn, am_t0, am_n0, and_true, true_and, List.cons_append, List.nil_append, List.append_nil, l_lit, lc_lt, lc_le, lc_gt, lc_ge, lc_eq, ll_t, ll_f, lt_t, lt_f, lq_t, lq_f, l_div, lN_add, lN_mul, lN_sub, lN_i, e2, e0, ca, nI_l, y, y2]
              exact k h1 fr1 (fun z => absurd z (by decide))
        · rintro ⟨acc, m6, m7⟩ h1 ⟨fr1, hl, r1, eq⟩
          dsimp only at hl r1 eq ⊢
          have L1 := fr1.lay L
          have T2 : ty h1 t (tr t) := T1.fr L ht (fr1.gj (J := N0) (R := N0)) (fun k => by omega) (fun k z => z)
          have Y1 := tr_y L1 ht
          have e2 := T2.2.1
          rw [hvs] at e2
          rw [List.drop_length, tol] at eq
          rw [eq] at k
          rw [b_X11_wouldCode_36 _ _ _ _ _ _ _ _ _]
          simp (disch := first | assumption | omega | (simp only [ya_pi, ya_pj, ya_pa, ya_pr, yo_pi, yo_pj, yo_pa, yf_pi, yf_pj, yf_pa, yh_pi, yh_pj, yh_pa, yt_pi, yt_pj, yt_pa, la_pi, la_pj, la_pa]; assumption)) only [b_X11_wouldCode_0, b_X11_wouldCode_5, b_X11_wouldCode_12, b_X11_wouldCode_10, b_X11_wouldCode_20, b_X11_wouldCode_30, b_X11_wouldCode_27, b_X11_wouldCode_39, b_X11_wouldCode_123, b_X11_wouldCode_45, b_X11_wouldCode_51, b_X11_wouldCode_54, b_X11_wouldCode_57, b_X11_wouldCode_94, b_X11_wouldCode_66, b_X11_wouldCode_83, b_X11_wouldCode_97, i_lit, i_m1, i_31, il_t, il_f, iq_t, iq_f, it_t, it_f, im_e, im_l, im_g, im_g2, nI_add, pk_mul, i_sub, i_div, sdm, i_dec, i_cl, iv_t, bI_or2, bI_t0, bI_one, not_true_eq_false, not_false_eq_true, ↓reduceIte, am_tl, am_tn, am_t0, am_n0, and_true, true_and, List.cons_append, List.nil_append, List.append_nil, e2]
          exact k h1 fr1 (fun _ l hl2 => by cases hl2; exact r1)
  · have e : wdC f tr x = -2 := by unfold wdC; rw [tC_n hx, if_neg nI0_2]
    rw [e] at k
    simp (disch := first | assumption | omega | (simp only [ya_pi, ya_pj, ya_pa, ya_pr, yo_pi, yo_pj, yo_pa, yf_pi, yf_pj, yf_pa, yh_pi, yh_pj, yh_pa, yt_pi, yt_pj, yt_pa, la_pi, la_pj, la_pa]; assumption)) only [b_X11_wouldCode_0, b_X11_wouldCode_5, b_X11_wouldCode_12, b_X11_wouldCode_10, b_X11_wouldCode_20, b_X11_wouldCode_30, b_X11_wouldCode_27, b_X11_wouldCode_39, b_X11_wouldCode_123, b_X11_wouldCode_45, b_X11_wouldCode_51, b_X11_wouldCode_54, b_X11_wouldCode_57, b_X11_wouldCode_94, b_X11_wouldCode_66, b_X11_wouldCode_83, b_X11_wouldCode_97, i_lit, i_m1, i_31, il_t, il_f, iq_t, iq_f, it_t, it_f, im_e, im_l, im_g, im_g2, nI_add, pk_mul, i_sub, i_div, sdm, i_dec, i_cl, iv_t, bI_or2, bI_t0, bI_one, not_true_eq_false, not_false_eq_true, ↓reduceIte, am_tl, am_tn, am_t0, am_n0, and_true, true_and, List.cons_append, List.nil_append, List.append_nil, c_trayCode L T, tC_n hx, nI0_2]
    exact k h am_fr.rf (fun z => absurd z nI0_2)
