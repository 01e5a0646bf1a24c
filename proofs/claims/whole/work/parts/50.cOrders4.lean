theorem od1_ok {T : od_T} {N c : Nat} {ps : List Nat} (ok : od_ok T N) (le : ∀ a, a < N → ∀ x ∈ (T a).2, x ≤ a) (hps : ∀ p ∈ ps, p < N) (nd : ps.Nodup) (hNc : N ≤ c) (hN : N ≤ 10) : (od1 T c ps).1 ≤ 2 ∧ ((od1 T c ps).1 = 0 ↔ ¬ (od1 T c ps).2 = []) ∧ (od1 T c ps).2.Nodup ∧ (∀ x ∈ (od1 T c ps).2, x = c ∨ x < N) := by
  unfold od1
  split
  · exact ⟨Nat.le_refl _, by simp, List.nodup_nil, fun x hx => by cases hx⟩
  · cases hm : mf ps.length (od_R T ps) with
    | none => exact ⟨by simp, by simp, List.nodup_nil, fun x hx => by cases hx⟩
    | some l =>
      have inv0 : mf_inv ps.length (od_R T ps) [] := od_inv ok hps nd (fun p hp => by have := hps p hp; omega)
      obtain ⟨r1, r2, r3⟩ := mf_res (mf_len (od_R T ps) ps.length + 1) (by omega) inv0 hm
      have r4 : ∀ x ∈ l, x < N := by
        intro x hx
        obtain ⟨k, hk, hx2⟩ := (r3 x).1 hx
        unfold od_R at hx2
        split at hx2
        · rename_i z
          have h1 := hps _ (gd_mem z)
          have h2 := le _ h1 x hx2
          omega
        · split at hx2
          · exact hps x hx2
          · cases hx2
      refine ⟨by simp, by simp, List.nodup_cons.2 ⟨fun z => ?_, r1⟩, fun x hx => ?_⟩
      · have := r4 c z
        omega
      · rcases List.mem_cons.1 hx with z | z
        · exact Or.inl z
        · exact Or.inr (r4 x z)
/-- parents: of lesser numbers, no one twice, at most four -/
def p_ok (p : Nat → List Nat) : Prop := ∀ c, (p c).length ≤ 4 ∧ (∀ q ∈ p c, q < c) ∧ (p c).Nodup
theorem fa_pok {f : fa_S} (ok : fa_ok f) : p_ok (f_p f) := fun c => ⟨(ok.2 c).1, (ok.2 c).2.1, (ok.2 c).2.2.1⟩
theorem od_ok_up {T : od_T} {n : Nat} {ps : List Nat} (ok : od_ok T n) (le : ∀ a, a < n → ∀ x ∈ (T a).2, x ≤ a) (hps : ∀ p ∈ ps, p < n) (nd : ps.Nodup) (hn : n < 10) : od_ok (od_up T n (od1 T n ps)) (n + 1) ∧ ∀ a, a < n + 1 → ∀ x ∈ (od_up T n (od1 T n ps) a).2, x ≤ a := by
  obtain ⟨h1, h2, h3, h4⟩ := od1_ok ok le hps nd (Nat.le_refl n) (by omega)
  have h5 : ∀ x ∈ (od1 T n ps).2, x < 10 := fun x hx => by have := h4 x hx; omega
  constructor
  · intro c hc
    unfold od_up
    by_cases z : c = n
    · rw [if_pos z]
      exact ⟨h1, h2, h3, h5, nd_len h3 h5⟩
    · rw [if_neg z]
      exact ok c (by omega)
  · intro a ha x hx
    unfold od_up at hx
    by_cases z : a = n
    · rw [if_pos z] at hx
      have := h4 x hx
      omega
    · rw [if_neg z] at hx
      exact le a (by omega) x hx
theorem od_okk {p : Nat → List Nat} (hp : p_ok p) : ∀ n, n ≤ 10 → od_ok (od p n) n ∧ ∀ a, a < n → ∀ x ∈ (od p n a).2, x ≤ a := by
  intro n
  induction n with
  | zero => intro _; exact ⟨fun c hc => absurd hc (Nat.not_lt_zero _), fun c hc => absurd hc (Nat.not_lt_zero _)⟩
  | succ n ih =>
    intro hn
    obtain ⟨h1, h2⟩ := ih (by omega)
    exact od_ok_up h1 h2 (hp n).2.1 (hp n).2.2 (by omega)
theorem lw_all (l : List Nat) : ∀ k, k ≤ l.length → lw l (fun _ => false) k = l.take k := by
  intro k
  induction k with
  | zero => intro _; rfl
  | succ k ih =>
    intro hk
    rw [lw, if_neg (by decide), ih (by omega), tk_s (by omega)]
theorem c_listParents0 {d : Nat} {Q : Option am_V → am_H → Prop} {h : am_H} {o : Nat} {f : fa_S} (ok : fa_ok f) (F : fa_at h o f) {c q : Nat} (hc : c < 10) (A : y_arr h q 20 4) (hq : q < o ∨ o + 4 ≤ q) {l4 l5 : Option am_V} (k : ∀ h', am_fr h h' (fun a _ => a = q) → ro h' q 0 (f_p f c) → Q (some (v_i (nI (f_p f c).length))) h') : ex_ (d + 2) 30 0 [some (v_r (some o)), some (v_i (nI c)), some (v_i (nI 0)), some (v_r (some q)), l4, l5] [] h Q := by
  have := c_listParents (d := d) (Q := Q) ok F hc A hq (P := fun _ => false) (l4 := l4) (l5 := l5)
  rw [bs_0, lw_all _ _ (Nat.le_refl _), List.take_length] at this
  exact this k
def or_A (o a k : Nat) : Prop := o + 1 ≤ a ∧ a ≤ o + 9
def or_K (o c a k : Nat) : Prop := or_P o c a k ∨ a = o + 4
theorem or_at.up {h h' : am_H} {o c : Nat} {T : od_T} {v : Nat × List Nat} (F : or_at h o T c) (ok : od_ok T c) (fr : am_fr h h' (or_K o c)) (r : or_row h' o c v) : or_at h' o (od_up T c v) (c + 1) := by
  refine ⟨fr.orders F.1, fun a ha => ?_⟩
  unfold od_up
  by_cases z : a = c
  · rw [if_pos z, z]
    exact r
  · rw [if_neg z]
    have := ok a (by omega)
    exact or_row.fr fr (F.2 a (by omega)) (by omega) (by unfold or_K or_P; omega) (by unfold or_K or_P; omega) (fun k _ z => by unfold or_K or_P at z; omega)
theorem or_K.A {o c a k : Nat} (z : or_K o c a k) : or_A o a k := by
  unfold or_K or_P at z
  unfold or_A
  omega
theorem or_P.K {o c a k : Nat} (z : or_P o c a k) : or_K o c a k := Or.inl z
theorem c_settleWithout {d : Nat} {Q : Option am_V → am_H → Prop} {h : am_H} {o o1 c : Nat} {T : od_T} {f : fa_S} {P : Nat → Bool} (ok : fa_ok f) (F : fa_at h o1 f) (O : or_at h o T c) (okT : od_ok T c) (hd : o + 10 ≤ o1 ∨ o1 + 4 ≤ o) (hc : c < 10) (hps : ∀ p ∈ lw (f_p f c) P (f_p f c).length, p < c) (nd : (lw (f_p f c) P (f_p f c).length).Nodup) (h4 : (lw (f_p f c) P (f_p f c).length).length ≤ 4) (k : ∀ h', am_fr h h' (or_K o c) → or_row h' o c (od1 T c (lw (f_p f c) P (f_p f c).length)) → Q (some (v_i (nI (od1 T c (lw (f_p f c) P (f_p f c).length)).1))) h') : ex_ (d + 3) 54 0 [some (v_r (some o)), some (v_r (some o1)), some (v_i (nI c)), some (v_i (nI (bs P)))] [] h Q := by
  have F0 := F.1
  have O0 := O.1
  have A4 : y_arr h (o + 4) 20 4 := O0.1 4 rfl
  simp (disch := first | assumption | omega | (simp only [ya_pi, ya_pj, ya_pa, ya_pr, yo_pi, yo_pj, yo_pa, yf_pi, yf_pj, yf_pa, yh_pi, yh_pj, yh_pa, yt_pi, yt_pj, yt_pa, la_pi, la_pj, la_pa]; assumption)) only [b_X6_settleWithout_0, b_X6_settleWithout_16, b_X6_settleWithout_19, i_lit, i_m1, i_31, il_t, il_f, iq_t, iq_f, it_t, it_f, im_e, im_l, im_g, im_g2, nI_add, pk_mul, i_sub, i_div, sdm, i_dec, i_cl, iv_t, bI_or2, bI_t0, bI_one, not_true_eq_false, not_false_eq_true, ↓reduceIte, am_tl, am_tn, am_t0, am_n0, and_true, true_and, List.cons_append, List.nil_append, List.append_nil]
  refine c_listParents (d := d) ok F hc A4 (by omega) (fun h1 fr1 r1 => ?_)
  have O1 : or_at h1 o T c := ⟨fr1.orders O0, fun a ha => or_row.fr fr1 (O.2 a ha) (by have := okT a ha; omega) (by omega) (by omega) (fun k _ => by omega)⟩
  have O10 := O1.1
  have A41 : y_arr h1 (o + 4) 20 4 := fr1.c A4
  have F1 : y_Facts h1 o1 := fr1.facts F0
  simp (disch := first | assumption | omega | (simp only [ya_pi, ya_pj, ya_pa, ya_pr, yo_pi, yo_pj, yo_pa, yf_pi, yf_pj, yf_pa, yh_pi, yh_pj, yh_pa, yt_pi, yt_pj, yt_pa, la_pi, la_pj, la_pa]; assumption)) only [b_X6_settleWithout_0, b_X6_settleWithout_16, b_X6_settleWithout_19, i_lit, i_m1, i_31, il_t, il_f, iq_t, iq_f, it_t, it_f, im_e, im_l, im_g, im_g2, nI_add, pk_mul, i_sub, i_div, sdm, i_dec, i_cl, iv_t, bI_or2, bI_t0, bI_one, not_true_eq_false, not_false_eq_true, ↓reduceIte, am_tl, am_tn, am_t0, am_n0, and_true, true_and, List.cons_append, List.nil_append, List.append_nil]
  refine c_settle O1 okT (Nat.le_refl _) (by omega) hps nd h4 A41 r1 (Or.inr (Or.inl rfl)) (fun h2 fr2 r2 => ?_)
  simp (disch := first | assumption | omega | (simp only [ya_pi, ya_pj, ya_pa, ya_pr, yo_pi, yo_pj, yo_pa, yf_pi, yf_pj, yf_pa, yh_pi, yh_pj, yh_pa, yt_pi, yt_pj, yt_pa, la_pi, la_pj, la_pa]; assumption)) only [b_X6_settleWithout_0, b_X6_settleWithout_16, b_X6_settleWithout_19, i_lit, i_m1, i_31, il_t, il_f, iq_t, iq_f, it_t, it_f, im_e, im_l, im_g, im_g2, nI_add, pk_mul, i_sub, i_div, sdm, i_dec, i_cl, iv_t, bI_or2, bI_t0, bI_one, not_true_eq_false, not_false_eq_true, ↓reduceIte, am_tl, am_tn, am_t0, am_n0, and_true, true_and, List.cons_append, List.nil_append, List.append_nil]
  exact k h2 ((fr1.le (fun a k z => Or.inr z)).tr (fr2.le (fun a k z => Or.inl z))) r2
/-- the first two turned, where there are two -/
def sw2 (l : List Nat) : List Nat := if 1 < l.length then sw l 0 else l
theorem sw2_len {l : List Nat} : (sw2 l).length = l.length := by
  unfold sw2
  split
  · exact sw_len
  · rfl
theorem sw2_mem {l : List Nat} {x : Nat} (h : x ∈ sw2 l) : x ∈ l := by
  unfold sw2 at h
  split at h
  · rename_i z
    obtain ⟨k, hk, e⟩ := gd_ex h
    rw [sw_len] at hk
    rw [gd_sw (by omega)] at e
    rw [← e]
    split
    · exact gd_mem (by omega)
    · split
      · exact gd_mem (by omega)
      · exact gd_mem (by omega)
  · exact h
theorem sw2_nd {l : List Nat} (h : l.Nodup) : (sw2 l).Nodup := by
  unfold sw2
  split
  · rename_i z
    match l, z, h with
    | a :: b :: r, _, h =>
      show ([b, a] ++ r).Nodup
      rw [List.nodup_cons, List.nodup_cons] at h
      show (b :: a :: r).Nodup
      rw [List.nodup_cons, List.nodup_cons]
      refine ⟨fun w => ?_, fun w => h.1 (List.mem_cons_of_mem _ w), h.2.2⟩
      rcases List.mem_cons.1 w with e | e
      · exact h.1 (by rw [e]; exact List.mem_cons_self)
      · exact h.2.1 e
  · exact h
theorem c_settleSwapped {d : Nat} {Q : Option am_V → am_H → Prop} {h : am_H} {o o1 c : Nat} {T : od_T} {f : fa_S} (ok : fa_ok f) (F : fa_at h o1 f) (O : or_at h o T c) (okT : od_ok T c) (hd : o + 10 ≤ o1 ∨ o1 + 4 ≤ o) (hc : c < 10) {l3 l4 : Option am_V} (k : ∀ h', am_fr h h' (or_K o c) → or_row h' o c (od1 T c (sw2 (f_p f c))) → Q (some (v_i (nI (od1 T c (sw2 (f_p f c))).1))) h') : ex_ (d + 3) 53 0 [some (v_r (some o)), some (v_r (some o1)), some (v_i (nI c)), l3, l4] [] h Q := by
  have F0 := F.1
  have O0 := O.1
  have A4 : y_arr h (o + 4) 20 4 := O0.1 4 rfl
  have h4 := (ok.2 c).1
  simp (disch := first | assumption | omega | (simp only [ya_pi, ya_pj, ya_pa, ya_pr, yo_pi, yo_pj, yo_pa, yf_pi, yf_pj, yf_pa, yh_pi, yh_pj, yh_pa, yt_pi, yt_pj, yt_pa, la_pi, la_pj, la_pa]; assumption)) only [b_X6_settleSwapped_0, b_X6_settleSwapped_10, b_X6_settleSwapped_44, b_X6_settleSwapped_16, b_X6_settleSwapped_54, i_lit, i_m1, i_31, il_t, il_f, iq_t, iq_f, it_t, it_f, im_e, im_l, im_g, im_g2, nI_add, pk_mul, i_sub, i_div, sdm, i_dec, i_cl, iv_t, bI_or2, bI_t0, bI_one, not_true_eq_false, not_false_eq_true, ↓reduceIte, am_tl, am_tn, am_t0, am_n0, and_true, true_and, List.cons_append, List.nil_append, List.append_nil]
  refine c_listParents0 (d := d) ok F hc A4 (by omega) (fun h1 fr1 r1 => ?_)
  have O10 : y_Orders h1 o := fr1.orders O0
  have A41 : y_arr h1 (o + 4) 20 4 := fr1.c A4
  have F1 : y_Facts h1 o1 := fr1.facts F0
  have fin : ∀ h2, am_fr h1 h2 (fun a _ => a = o + 4) → ro h2 (o + 4) 0 (sw2 (f_p f c)) → ∀ {Q' : Option am_V → am_H → Prop}, (∀ h', am_fr h h' (or_K o c) → or_row h' o c (od1 T c (sw2 (f_p f c))) → Q' (some (v_i (nI (od1 T c (sw2 (f_p f c))).1))) h') → ex_ (d + 2) 52 0 [some (v_r (some o)), some (v_i (nI c)), some (v_r (some (o + 4))), some (v_i (nI (f_p f c).length)), none, none] [] h2 Q' := by
    intro h2 fr2 r2 Q' k2
    have fr12 := fr1.tr fr2
    have O2 : or_at h2 o T c := ⟨fr12.orders O0, fun a ha => or_row.fr fr12 (O.2 a ha) (by have := okT a ha; omega) (by omega) (by omega) (fun k _ => by omega)⟩
    rw [← sw2_len (l := f_p f c)]
    exact c_settle O2 okT (Nat.le_refl _) (by omega) (fun p hp => (ok.2 c).2.1 p (sw2_mem hp)) (sw2_nd (ok.2 c).2.2.1) (by rw [sw2_len]; exact h4) (fr12.c A4) r2 (Or.inr (Or.inl rfl)) (fun h3 fr3 r3 => k2 h3 ((fr12.le (fun a k z => Or.inr z)).tr (fr3.le (fun a k z => Or.inl z))) r3)
  by_cases z : 1 < (f_p f c).length
  · have e0 := r1 0 (by omega)
    have e1 := r1 1 (by omega)
    simp (disch := first | assumption | omega | (simp only [ya_pi, ya_pj, ya_pa, ya_pr, yo_pi, yo_pj, yo_pa, yf_pi, yf_pj, yf_pa, yh_pi, yh_pj, yh_pa, yt_pi, yt_pj, yt_pa, la_pi, la_pj, la_pa]; assumption)) only [Nat.zero_add] at e0 e1
    simp (disch := first | assumption | omega | (simp only [ya_pi, ya_pj, ya_pa, ya_pr, yo_pi, yo_pj, yo_pa, yf_pi, yf_pj, yf_pa, yh_pi, yh_pj, yh_pa, yt_pi, yt_pj, yt_pa, la_pi, la_pj, la_pa]; assumption)) only [b_X6_settleSwapped_0, b_X6_settleSwapped_10, b_X6_settleSwapped_44, b_X6_settleSwapped_16, b_X6_settleSwapped_54, i_lit, i_m1, i_31, il_t, il_f, iq_t, iq_f, it_t, it_f, im_e, im_l, im_g, im_g2, nI_add, pk_mul, i_sub, i_div, sdm, i_dec, i_cl, iv_t, bI_or2, bI_t0, bI_one, not_true_eq_false, not_false_eq_true, ↓reduceIte, am_tl, am_tn, am_t0, am_n0, and_true, true_and, List.cons_append, List.nil_append, List.append_nil, e0, e1]
    refine fin _ (am_fr.pi (P := fun a _ => a = o + 4) (am_fr_pi rfl) rfl) ?_ (fun h' fr' r' => ?_)
    · intro j hj
      rw [sw2_len] at hj
      rw [sw2, if_pos z, gd_sw (by omega)]
      by_cases q1 : j = 1
      · subst q1
        rw [if_pos rfl]
        simp (disch := first | assumption | omega | (simp only [ya_pi, ya_pj, ya_pa, ya_pr, yo_pi, yo_pj, yo_pa, yf_pi, yf_pj, yf_pa, yh_pi, yh_pj, yh_pa, yt_pi, yt_pj, yt_pa, la_pi, la_pj, la_pa]; assumption)) only [hi_s, hi_o, hi_k, hr_pi, hj_pi, hn_pi, hi_pas, hi_pao, hr_pa, hj_pa, Nat.zero_add]
      · rw [if_neg (by omega)]
        by_cases q0 : j = 0
        · subst q0
          rw [if_pos rfl]
          simp (disch := first | assumption | omega | (simp only [ya_pi, ya_pj, ya_pa, ya_pr, yo_pi, yo_pj, yo_pa, yf_pi, yf_pj, yf_pa, yh_pi, yh_pj, yh_pa, yt_pi, yt_pj, yt_pa, la_pi, la_pj, la_pa]; assumption)) only [hi_s, hi_o, hi_k, hr_pi, hj_pi, hn_pi, hi_pas, hi_pao, hr_pa, hj_pa, Nat.zero_add]
        · rw [if_neg q0]
          have := r1 j hj
          simp (disch := first | assumption | omega | (simp only [ya_pi, ya_pj, ya_pa, ya_pr, yo_pi, yo_pj, yo_pa, yf_pi, yf_pj, yf_pa, yh_pi, yh_pj, yh_pa, yt_pi, yt_pj, yt_pa, la_pi, la_pj, la_pa]; assumption)) only [Nat.zero_add] at this
          simp (disch := first | assumption | omega | (simp only [ya_pi, ya_pj, ya_pa, ya_pr, yo_pi, yo_pj, yo_pa, yf_pi, yf_pj, yf_pa, yh_pi, yh_pj, yh_pa, yt_pi, yt_pj, yt_pa, la_pi, la_pj, la_pa]; assumption)) only [hi_s, hi_o, hi_k, hr_pi, hj_pi, hn_pi, hi_pas, hi_pao, hr_pa, hj_pa, Nat.zero_add, this]
    · simp (disch := first | assumption | omega | (simp only [ya_pi, ya_pj, ya_pa, ya_pr, yo_pi, yo_pj, yo_pa, yf_pi, yf_pj, yf_pa, yh_pi, yh_pj, yh_pa, yt_pi, yt_pj, yt_pa, la_pi, la_pj, la_pa]; assumption)) only [b_X6_settleSwapped_0, b_X6_settleSwapped_10, b_X6_settleSwapped_44, b_X6_settleSwapped_16, b_X6_settleSwapped_54, i_lit, i_m1, i_31, il_t, il_f, iq_t, iq_f, it_t, it_f, im_e, im_l, im_g, im_g2, nI_add, pk_mul, i_sub, i_div, sdm, i_dec, i_cl, iv_t, bI_or2, bI_t0, bI_one, not_true_eq_false, not_false_eq_true, ↓reduceIte, am_tl, am_tn, am_t0, am_n0, and_true, true_and, List.cons_append, List.nil_append, List.append_nil]
      exact k h' fr' r'
  · simp (disch := first | assumption | omega | (simp only [ya_pi, ya_pj, ya_pa, ya_pr, yo_pi, yo_pj, yo_pa, yf_pi, yf_pj, yf_pa, yh_pi, yh_pj, yh_pa, yt_pi, yt_pj, yt_pa, la_pi, la_pj, la_pa]; assumption)) only [b_X6_settleSwapped_0, b_X6_settleSwapped_10, b_X6_settleSwapped_44, b_X6_settleSwapped_16, b_X6_settleSwapped_54, i_lit, i_m1, i_31, il_t, il_f, iq_t, iq_f, it_t, it_f, im_e, im_l, im_g, im_g2, nI_add, pk_mul, i_sub, i_div, sdm, i_dec, i_cl, iv_t, bI_or2, bI_t0, bI_one, not_true_eq_false, not_false_eq_true, ↓reduceIte, am_tl, am_tn, am_t0, am_n0, and_true, true_and, List.cons_append, List.nil_append, List.append_nil]
    refine fin h1 am_fr.rf (by rw [sw2, if_neg z]; exact r1) (fun h' fr' r' => ?_)
    simp (disch := first | assumption | omega | (simp only [ya_pi, ya_pj, ya_pa, ya_pr, yo_pi, yo_pj, yo_pa, yf_pi, yf_pj, yf_pa, yh_pi, yh_pj, yh_pa, yt_pi, yt_pj, yt_pa, la_pi, la_pj, la_pa]; assumption)) only [b_X6_settleSwapped_0, b_X6_settleSwapped_10, b_X6_settleSwapped_44, b_X6_settleSwapped_16, b_X6_settleSwapped_54, i_lit, i_m1, i_31, il_t, il_f, iq_t, iq_f, it_t, it_f, im_e, im_l, im_g, im_g2, nI_add, pk_mul, i_sub, i_div, sdm, i_dec, i_cl, iv_t, bI_or2, bI_t0, bI_one, not_true_eq_false, not_false_eq_true, ↓reduceIte, am_tl, am_tn, am_t0, am_n0, and_true, true_and, List.cons_append, List.nil_append, List.append_nil]
    exact k h' fr' r'
theorem c_settleAll {d : Nat} {Q : Option am_V → am_H → Prop} {h : am_H} {o o1 : Nat} {f : fa_S} (ok : fa_ok f) (F : fa_at h o1 f) (Y : y_Orders h o) (hd : o + 10 ≤ o1 ∨ o1 + 4 ≤ o) {l2 : Option am_V} (k : ∀ h', am_fr h h' (or_A o) → or_at h' o (od (f_p f) (f_n f)) (f_n f) → Q none h') : ex_ (d + 3) 74 0 [some (v_r (some o)), some (v_r (some o1)), l2] [] h Q := by
  have hn := ok.1
  have A2 : y_arr h (o + 2) 20 11 := Y.1 2 rfl
  simp (disch := first | assumption | omega | (simp only [ya_pi, ya_pj, ya_pa, ya_pr, yo_pi, yo_pj, yo_pa, yf_pi, yf_pj, yf_pa, yh_pi, yh_pj, yh_pa, yt_pi, yt_pj, yt_pa, la_pi, la_pj, la_pa]; assumption)) only [b_X6_settleAll_0, b_X6_settleAll_8, b_X6_settleAll_44, b_X6_settleAll_18, b_X6_settleAll_34, b_X6_settleAll_37, i_lit, i_m1, i_31, il_t, il_f, iq_t, iq_f, it_t, it_f, im_e, im_l, im_g, im_g2, nI_add, pk_mul, i_sub, i_div, sdm, i_dec, i_cl, iv_t, bI_or2, bI_t0, bI_one, not_true_eq_false, not_false_eq_true, ↓reduceIte, am_tl, am_tn, am_t0, am_n0, and_true, true_and, List.cons_append, List.nil_append, List.append_nil]
  refine c_fill A2 (by omega) (fun h1 fr1 _ => ?_)
  simp (disch := first | assumption | omega | (simp only [ya_pi, ya_pj, ya_pa, ya_pr, yo_pi, yo_pj, yo_pa, yf_pi, yf_pj, yf_pa, yh_pi, yh_pj, yh_pa, yt_pi, yt_pj, yt_pa, la_pi, la_pj, la_pa]; assumption)) only [b_X6_settleAll_0, b_X6_settleAll_8, b_X6_settleAll_44, b_X6_settleAll_18, b_X6_settleAll_34, b_X6_settleAll_37, i_lit, i_m1, i_31, il_t, il_f, iq_t, iq_f, it_t, it_f, im_e, im_l, im_g, im_g2, nI_add, pk_mul, i_sub, i_div, sdm, i_dec, i_cl, iv_t, bI_or2, bI_t0, bI_one, not_true_eq_false, not_false_eq_true, ↓reduceIte, am_tl, am_tn, am_t0, am_n0, and_true, true_and, List.cons_append, List.nil_append, List.append_nil]
  refine lp_up (f_n f) (fun i (_ : Unit) => [some (v_r (some o)), some (v_r (some o1)), some (v_i (nI i))]) (fun i _ h' => am_fr h h' (or_A o) ∧ or_at h' o (od (f_p f) i) i) ?_ ?_ (Nat.zero_le _) ⟨fr1.le (fun a k z => by unfold or_A; omega), fr1.orders Y, fun c hc => absurd hc (Nat.not_lt_zero _)⟩ (s := ())
  · rintro i - h' hi ⟨fr, O⟩ nx
    have F' : fa_at h' o1 f := fr.fa F (fun a k h1 h2 z => by unfold or_A at z; omega)
    have F0 := F'.1
    have F1 := F'.2.1
    have O0 := O.1
    have okT := (od_okk (fa_pok ok) i (by omega)).1
    have A4 : y_arr h' (o + 4) 20 4 := O0.1 4 rfl
    rw [b_X6_settleAll_10 _ _ o1 _ F0]
    simp (disch := first | assumption | omega | (simp only [ya_pi, ya_pj, ya_pa, ya_pr, yo_pi, yo_pj, yo_pa, yf_pi, yf_pj, yf_pa, yh_pi, yh_pj, yh_pa, yt_pi, yt_pj, yt_pa, la_pi, la_pj, la_pa]; assumption)) only [b_X6_settleAll_0, b_X6_settleAll_8, b_X6_settleAll_44, b_X6_settleAll_18, b_X6_settleAll_34, b_X6_settleAll_37, i_lit, i_m1, i_31, il_t, il_f, iq_t, iq_f, it_t, it_f, im_e, im_l, im_g, im_g2, nI_add, pk_mul, i_sub, i_div, sdm, i_dec, i_cl, iv_t, bI_or2, bI_t0, bI_one, not_true_eq_false, not_false_eq_true, ↓reduceIte, am_tl, am_tn, am_t0, am_n0, and_true, true_and, List.cons_append, List.nil_append, List.append_nil, F1]
    refine c_listParents0 (d := d) ok F' (by omega) A4 (by omega) (fun h2 fr2 r2 => ?_)
    have O2 : or_at h2 o (od (f_p f) i) i := ⟨fr2.orders O0, fun a ha => or_row.fr fr2 (O.2 a ha) (by have := okT a ha; omega) (by omega) (by omega) (fun k _ => by omega)⟩
    have O20 := O2.1
    have A42 : y_arr h2 (o + 4) 20 4 := fr2.c A4
    have F2 : y_Facts h2 o1 := fr2.facts F0
    simp (disch := first | assumption | omega | (simp only [ya_pi, ya_pj, ya_pa, ya_pr, yo_pi, yo_pj, yo_pa, yf_pi, yf_pj, yf_pa, yh_pi, yh_pj, yh_pa, yt_pi, yt_pj, yt_pa, la_pi, la_pj, la_pa]; assumption)) only [b_X6_settleAll_0, b_X6_settleAll_8, b_X6_settleAll_44, b_X6_settleAll_18, b_X6_settleAll_34, b_X6_settleAll_37, i_lit, i_m1, i_31, il_t, il_f, iq_t, iq_f, it_t, it_f, im_e, im_l, im_g, im_g2, nI_add, pk_mul, i_sub, i_div, sdm, i_dec, i_cl, iv_t, bI_or2, bI_t0, bI_one, not_true_eq_false, not_false_eq_true, ↓reduceIte, am_tl, am_tn, am_t0, am_n0, and_true, true_and, List.cons_append, List.nil_append, List.append_nil]
    refine c_settle O2 okT (Nat.le_refl _) (by omega) (ok.2 i).2.1 (ok.2 i).2.2.1 (ok.2 i).1 A42 r2 (Or.inr (Or.inl rfl)) (fun h3 fr3 r3 => ?_)
    simp (disch := first | assumption | omega | (simp only [ya_pi, ya_pj, ya_pa, ya_pr, yo_pi, yo_pj, yo_pa, yf_pi, yf_pj, yf_pa, yh_pi, yh_pj, yh_pa, yt_pi, yt_pj, yt_pa, la_pi, la_pj, la_pa]; assumption)) only [b_X6_settleAll_0, b_X6_settleAll_8, b_X6_settleAll_44, b_X6_settleAll_18, b_X6_settleAll_34, b_X6_settleAll_37, i_lit, i_m1, i_31, il_t, il_f, iq_t, iq_f, it_t, it_f, im_e, im_l, im_g, im_g2, nI_add, pk_mul, i_sub, i_div, sdm, i_dec, i_cl, iv_t, bI_or2, bI_t0, bI_one, not_true_eq_false, not_false_eq_true, ↓reduceIte, am_tl, am_tn, am_t0, am_n0, and_true, true_and, List.cons_append, List.nil_append, List.append_nil]
    have fr23 : am_fr h' h3 (or_K o i) := (fr2.le (fun a k z => Or.inr z)).tr (fr3.le (fun a k z => Or.inl z))
    exact nx () h3 ⟨fr.tr (fr23.le (fun a k z => z.A)), O.up okT fr23 r3⟩
  · rintro - h' ⟨fr, O⟩
    have F' : fa_at h' o1 f := fr.fa F (fun a k h1 h2 z => by unfold or_A at z; omega)
    have F0 := F'.1
    have F1 := F'.2.1
    rw [b_X6_settleAll_10 _ _ o1 _ F0]
    simp (disch := first | assumption | omega | (simp only [ya_pi, ya_pj, ya_pa, ya_pr, yo_pi, yo_pj, yo_pa, yf_pi, yf_pj, yf_pa, yh_pi, yh_pj, yh_pa, yt_pi, yt_pj, yt_pa, la_pi, la_pj, la_pa]; assumption)) only [b_X6_settleAll_0, b_X6_settleAll_8, b_X6_settleAll_44, b_X6_settleAll_18, b_X6_settleAll_34, b_X6_settleAll_37, i_lit, i_m1, i_31, il_t, il_f, iq_t, iq_f, it_t, it_f, im_e, im_l, im_g, im_g2, nI_add, pk_mul, i_sub, i_div, sdm, i_dec, i_cl, iv_t, bI_or2, bI_t0, bI_one, not_true_eq_false, not_false_eq_true, ↓reduceIte, am_tl, am_tn, am_t0, am_n0, and_true, true_and, List.cons_append, List.nil_append, List.append_nil, F1]
    exact k h' fr O
theorem c_placeOf {d : Nat} {Q : Option am_V → am_H → Prop} {h : am_H} {o c q : Nat} {v : Nat × List Nat} (F0 : y_Orders h o) (m : or_row h o c v) (hc : c < 11) (hl : v.2.length ≤ 11) (hv : ∀ x ∈ v.2, x < 11) (hq : q < 2147483648) {l3 : Option am_V} : ex_ (d + 1) 72 0 [some (v_r (some o)), some (v_i (nI c)), some (v_i (nI q)), l3] [] h Q ↔ Q (some (v_i (oI (pl v.2 q)))) h := by
  apply ex_iff
  rw [b_X6_placeOf_0]
  refine lp_up v.2.length (fun i (_ : Unit) => [some (v_r (some o)), some (v_i (nI c)), some (v_i (nI q)), some (v_i (nI i))]) (fun i _ h' => h' = h ∧ fi (fun k => v.2.getD k 0 == q) v.2.length i = pl v.2 q) ?_ ?_ (Nat.zero_le _) ⟨rfl, rfl⟩ (s := ())
  · rintro i - h' hi ⟨rfl, e⟩ nx
    have x11 := hv _ (gd_mem hi)
    rw [b_X6_placeOf_2 _ _ o _ _ F0]
    by_cases he : v.2.getD i 0 = q
    · rw [pl_y hi he] at e
      simp (disch := first | assumption | omega | (simp only [ya_pi, ya_pj, ya_pa, ya_pr, yo_pi, yo_pj, yo_pa, yf_pi, yf_pj, yf_pa, yh_pi, yh_pj, yh_pa, yt_pi, yt_pj, yt_pa, la_pi, la_pj, la_pa]; assumption)) only [b_X6_placeOf_0, b_X6_placeOf_8, b_X6_placeOf_29, b_X6_placeOf_11, b_X6_placeOf_17, b_X6_placeOf_23, b_X6_placeOf_21, i_lit, i_m1, i_31, il_t, il_f, iq_t, iq_f, it_t, it_f, im_e, im_l, im_g, im_g2, nI_add, pk_mul, i_sub, i_div, sdm, i_dec, i_cl, iv_t, bI_or2, bI_t0, bI_one, not_true_eq_false, not_false_eq_true, ↓reduceIte, am_tl, am_tn, am_t0, am_n0, and_true, true_and, List.cons_append, List.nil_append, List.append_nil, c_sizeOf F0 m hc, c_at F0 m hc hi hl]
      rw [← e]
      rfl
    · rw [pl_x he] at e
      simp (disch := first | assumption | omega | (simp only [ya_pi, ya_pj, ya_pa, ya_pr, yo_pi, yo_pj, yo_pa, yf_pi, yf_pj, yf_pa, yh_pi, yh_pj, yh_pa, yt_pi, yt_pj, yt_pa, la_pi, la_pj, la_pa]; assumption)) only [b_X6_placeOf_0, b_X6_placeOf_8, b_X6_placeOf_29, b_X6_placeOf_11, b_X6_placeOf_17, b_X6_placeOf_23, b_X6_placeOf_21, i_lit, i_m1, i_31, il_t, il_f, iq_t, iq_f, it_t, it_f, im_e, im_l, im_g, im_g2, nI_add, pk_mul, i_sub, i_div, sdm, i_dec, i_cl, iv_t, bI_or2, bI_t0, bI_one, not_true_eq_false, not_false_eq_true, ↓reduceIte, am_tl, am_tn, am_t0, am_n0, and_true, true_and, List.cons_append, List.nil_append, List.append_nil, c_sizeOf F0 m hc, c_at F0 m hc hi hl]
      exact nx () _ ⟨rfl, e⟩
  · rintro - h' ⟨rfl, e⟩
    rw [fi_end (by omega)] at e
    rw [b_X6_placeOf_2 _ _ o _ _ F0]
    simp (disch := first | assumption | omega | (simp only [ya_pi, ya_pj, ya_pa, ya_pr, yo_pi, yo_pj, yo_pa, yf_pi, yf_pj, yf_pa, yh_pi, yh_pj, yh_pa, yt_pi, yt_pj, yt_pa, la_pi, la_pj, la_pa]; assumption)) only [b_X6_placeOf_0, b_X6_placeOf_8, b_X6_placeOf_29, b_X6_placeOf_11, b_X6_placeOf_17, b_X6_placeOf_23, b_X6_placeOf_21, i_lit, i_m1, i_31, il_t, il_f, iq_t, iq_f, it_t, it_f, im_e, im_l, im_g, im_g2, nI_add, pk_mul, i_sub, i_div, sdm, i_dec, i_cl, iv_t, bI_or2, bI_t0, bI_one, not_true_eq_false, not_false_eq_true, ↓reduceIte, am_tl, am_tn, am_t0, am_n0, and_true, true_and, List.cons_append, List.nil_append, List.append_nil, c_sizeOf F0 m hc]
    rw [← e]
    rfl
/-- those below n with p -/
def bl (p : Nat → Bool) (n k : Nat) : Bool := decide (k < n) && p k
theorem bl_0 {p : Nat → Bool} : nI (bs (bl p 0)) = nI 0 := by
  refine congrArg nI ((bs_ext (fun k _ => ?_)).trans bs_0)
  simp [bl]
theorem bl_y {p : Nat → Bool} {n : Nat} (h : p n = true) : bl p (n + 1) = fun k => bl p n k || decide (k = n) := by
  funext k
  unfold bl
  by_cases z : k = n
  · subst z
    simp [h]
  · have : (k < n + 1) ↔ k < n := by omega
    simp [this, z]
theorem bl_n {p : Nat → Bool} {n : Nat} (h : p n = false) : bl p (n + 1) = bl p n := by
  funext k
  unfold bl
  by_cases z : k = n
  · subst z
    simp [h]
  · have : (k < n + 1) ↔ k < n := by omega
    simp [this]
theorem c_bitsOf {d : Nat} {Q : Option am_V → am_H → Prop} {h : am_H} {o n st : Nat} {T : od_T} (O : or_at h o T n) (hn : n ≤ 10) (hst : st < 10) (ok : od_ok T n) {l3 l4 : Option am_V} : ex_ d 73 0 [some (v_r (some o)), some (v_i (nI st)), some (v_i (nI n)), l3, l4] [] h Q ↔ Q (some (v_i (nI (bs (bl (fun c => (T c).1 == st) n))))) h := by
  have F0 := O.1
  apply ex_iff
  rw [b_X6_bitsOf_0]
  have L1 : ex_ d 73 5 [some (v_r (some o)), some (v_i (nI st)), some (v_i (nI n)), some (v_i (nI (bs (bl (fun c => (T c).1 == st) 0)))), some (v_i (nI 0))] [] h (fun r h' => r = some (v_i (nI (bs (bl (fun c => (T c).1 == st) n)))) ∧ h' = h) := by
    refine lp_up n (fun i (_ : Unit) => [some (v_r (some o)), some (v_i (nI st)), some (v_i (nI n)), some (v_i (nI (bs (bl (fun c => (T c).1 == st) i)))), some (v_i (nI i))]) (fun i _ h' => h' = h) ?_ ?_ (Nat.zero_le _) rfl (s := ())
    · rintro i - h' hi rfl nx
      have e := (O.2 i hi).1
      have e2 := (ok i hi).1
      have nxt := nx () h' rfl
      rw [b_X6_bitsOf_5]
      by_cases z : (T i).1 = st
      · rw [bl_y (p := fun c => (T c).1 == st) (beq_iff_eq.2 z)] at nxt
        simp (disch := first | assumption | omega | (simp only [ya_pi, ya_pj, ya_pa, ya_pr, yo_pi, yo_pj, yo_pa, yf_pi, yf_pj, yf_pa, yh_pi, yh_pj, yh_pa, yt_pi, yt_pj, yt_pa, la_pi, la_pj, la_pa]; assumption)) only [b_X6_bitsOf_0, b_X6_bitsOf_42, b_X6_bitsOf_11, b_X6_bitsOf_18, b_X6_bitsOf_36, b_X6_bitsOf_29, i_lit, i_m1, i_31, il_t, il_f, iq_t, iq_f, it_t, it_f, im_e, im_l, im_g, im_g2, nI_add, pk_mul, i_sub, i_div, sdm, i_dec, i_cl, iv_t, bI_or2, bI_t0, bI_one, not_true_eq_false, not_false_eq_true, ↓reduceIte, am_tl, am_tn, am_t0, am_n0, and_true, true_and, List.cons_append, List.nil_append, List.append_nil, e]
        exact nxt
      · rw [bl_n (p := fun c => (T c).1 == st) (beq_eq_false_iff_ne.2 z)] at nxt
        simp (disch := first | assumption | omega | (simp only [ya_pi, ya_pj, ya_pa, ya_pr, yo_pi, yo_pj, yo_pa, yf_pi, yf_pj, yf_pa, yh_pi, yh_pj, yh_pa, yt_pi, yt_pj, yt_pa, la_pi, la_pj, la_pa]; assumption)) only [b_X6_bitsOf_0, b_X6_bitsOf_42, b_X6_bitsOf_11, b_X6_bitsOf_18, b_X6_bitsOf_36, b_X6_bitsOf_29, i_lit, i_m1, i_31, il_t, il_f, iq_t, iq_f, it_t, it_f, im_e, im_l, im_g, im_g2, nI_add, pk_mul, i_sub, i_div, sdm, i_dec, i_cl, iv_t, bI_or2, bI_t0, bI_one, not_true_eq_false, not_false_eq_true, ↓reduceIte, am_tl, am_tn, am_t0, am_n0, and_true, true_and, List.cons_append, List.nil_append, List.append_nil, e]
        exact nxt
    · rintro - h' rfl
      rw [b_X6_bitsOf_5]
      simp (disch := first | assumption | omega | (simp only [ya_pi, ya_pj, ya_pa, ya_pr, yo_pi, yo_pj, yo_pa, yf_pi, yf_pj, yf_pa, yh_pi, yh_pj, yh_pa, yt_pi, yt_pj, yt_pa, la_pi, la_pj, la_pa]; assumption)) only [b_X6_bitsOf_0, b_X6_bitsOf_42, b_X6_bitsOf_11, b_X6_bitsOf_18, b_X6_bitsOf_36, b_X6_bitsOf_29, i_lit, i_m1, i_31, il_t, il_f, iq_t, iq_f, it_t, it_f, im_e, im_l, im_g, im_g2, nI_add, pk_mul, i_sub, i_div, sdm, i_dec, i_cl, iv_t, bI_or2, bI_t0, bI_one, not_true_eq_false, not_false_eq_true, ↓reduceIte, am_tl, am_tn, am_t0, am_n0, and_true, true_and, List.cons_append, List.nil_append, List.append_nil]
  rw [bl_0] at L1
  exact L1
