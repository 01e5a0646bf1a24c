/-! ===== the past of the class ===== -/
theorem y_ref_lt : ∀ q ∈ y_ref, q.1 < 118 := by decide
def fIh (h : am_H) (o : Nat) : am_H := p_r (p_n (p_r (p_n (p_r (p_n h 20 10) o 2 (some (h_n h))) 20 40) o 3 (some (h_n h + 1))) 20 80) o 4 (some (h_n h + 2))
theorem pn_c {h : am_H} {k n : Nat} : y_c (p_n h k n) (h_n h) k n := ⟨Nat.lt_succ_self _, by simp [h_k, p_n, am_up], by simp [h_l, p_n, am_up]⟩
theorem gn {h : am_H} {k n : Nat} : gf h (p_n h k n) N0 N0 N0 := gf_pn
theorem b_fInit {d : Nat} {Q : Option am_V → am_H → Prop} {h : am_H} {o : Nat} (c0 : y_c h o 1 5) : ex_ d 26 0 [some (v_r (some o))] [] h Q ↔ Q none (fIh h o) := by
  have c1 : y_c (p_n h 20 10) o 1 5 := gn.c c0
  have c2 : y_c (p_n (p_r (p_n h 20 10) o 2 (some (h_n h))) 20 40) o 1 5 := gn.c (show y_c (p_r (p_n h 20 10) o 2 (some (h_n h))) o 1 5 from c1)
  have c3 : y_c (p_n (p_r (p_n (p_r (p_n h 20 10) o 2 (some (h_n h))) 20 40) o 3 (some (h_n h + 1))) 20 80) o 1 5 := gn.c (show y_c (p_r (p_n (p_r (p_n h 20 10) o 2 (some (h_n h))) 20 40) o 3 (some (h_n h + 1))) o 1 5 from c2)
  unfold ex_
  refine (am_Y_go 14 (ok := [¬ (some o) = none, ¬ (10 : Int32) < 0, Int32.toNatClampNeg (10 : Int32) ≤ 100000, am_is (p_n h 20 10) (some o) 1, ¬ (40 : Int32) < 0, Int32.toNatClampNeg (40 : Int32) ≤ 100000, am_is (p_n (p_r (p_n h 20 10) o 2 (some (h_n h))) 20 40) (some o) 1, ¬ (80 : Int32) < 0, Int32.toNatClampNeg (80 : Int32) ≤ 100000, am_is (p_n (p_r (p_n (p_r (p_n h 20 10) o 2 (some (h_n h))) 20 40) o 3 (some (h_n h + 1))) 20 80) (some o) 1]) (g := (28, [some (v_r (some o))], [], fIh h o)) rfl).trans ?_
  simp only [am_all]
  exact cj_d (fun z => by cases z) (cj_d (by decide) (cj_d (by decide) (cj_d (lr_is c1) (cj_d (by decide) (cj_d (by decide) (cj_d (lr_is c2) (cj_d (by decide) (cj_d (by decide) (cj_d (lr_is c3) ((am_Y_ret rfl rfl rfl).trans (am_rz rfl)))))))))))
theorem c_fInit {d : Nat} {Q : Option am_V → am_H → Prop} {h : am_H} {o : Nat} (e : h_n h = o + 1) (c0 : y_c h o 1 5) (k : ∀ h', gf h h' N0 N0 (fun a _ => a = o) → h_n h' = h_n h + 3 → h_s h' = h_s h + 130 → y_Facts h' o → Q none h') : ex_ d 26 0 [some (v_r (some o))] [] h Q := by
  rw [b_fInit c0]
  have g1 : gf h (p_r (p_n h 20 10) o 2 (some (h_n h))) N0 N0 (fun a _ => a = o) := gf_pn.tr (gf_pr rfl)
  have g2 : gf (p_r (p_n h 20 10) o 2 (some (h_n h))) (p_r (p_n (p_r (p_n h 20 10) o 2 (some (h_n h))) 20 40) o 3 (some (h_n h + 1))) N0 N0 (fun a _ => a = o) := gf_pn.tr (gf_pr rfl)
  have g3 : gf (p_r (p_n (p_r (p_n h 20 10) o 2 (some (h_n h))) 20 40) o 3 (some (h_n h + 1))) (fIh h o) N0 N0 (fun a _ => a = o) := gf_pn.tr (gf_pr rfl)
  have a1 : y_c (p_r (p_n h 20 10) o 2 (some (h_n h))) (o + 1) 20 10 := by rw [← e]; exact pn_c
  have a2 : y_c (p_r (p_n (p_r (p_n h 20 10) o 2 (some (h_n h))) 20 40) o 3 (some (h_n h + 1))) (o + 2) 20 40 := by
    have : y_c (p_n (p_r (p_n h 20 10) o 2 (some (h_n h))) 20 40) (h_n h + 1) 20 40 := pn_c
    rw [e] at this ⊢
    exact this
  have a3 : y_c (fIh h o) (o + 3) 20 80 := by
    have : y_c (p_n (p_r (p_n (p_r (p_n h 20 10) o 2 (some (h_n h))) 20 40) o 3 (some (h_n h + 1))) 20 80) (h_n h + 2) 20 80 := pn_c
    unfold fIh
    rw [e] at this ⊢
    exact this
  have o1 := c0.1
  refine k _ ((g1.tr g2).tr g3) rfl rfl ⟨fun j t hj => ?_, fun q hq => ?_⟩
  · match j, hj with
    | 0, hj => cases hj; exact ((g1.tr g2).tr g3).c c0
    | 1, hj => cases hj; exact (g2.tr g3).c a1
    | 2, hj => cases hj; exact g3.c a2
    | 3, hj => cases hj; exact a3
  · have qs : q = (0, 2, 1) ∨ q = (0, 3, 2) ∨ q = (0, 4, 3) := by simpa [y_Facts_r] using hq
    have e2 : h_r (p_n (p_r (p_n (p_r (p_n h 20 10) o 2 (some (h_n h))) 20 40) o 3 (some (h_n h + 1))) 20 80) o 2 = some (h_n h) := by
      rw [gn.r (R := N0) (show o < h_n h + 1 + 1 by omega) (fun z => z), h_r_pr, if_neg (by omega), gn.r (R := N0) (show o < h_n h + 1 by omega) (fun z => z), h_r_pr, if_pos ⟨rfl, rfl⟩]
    have e3 : h_r (p_n (p_r (p_n (p_r (p_n h 20 10) o 2 (some (h_n h))) 20 40) o 3 (some (h_n h + 1))) 20 80) o 3 = some (h_n h + 1) := by
      rw [gn.r (R := N0) (show o < h_n h + 1 + 1 by omega) (fun z => z), h_r_pr, if_pos ⟨rfl, rfl⟩]
    unfold fIh
    rcases qs with rfl | rfl | rfl
    · refine (h_r_pr (a := o) (j := 2)).trans ?_
      rw [if_neg (by omega), e2, e]
    · refine (h_r_pr (a := o) (j := 3)).trans ?_
      rw [if_neg (by omega), e3, e]
      rfl
    · refine (h_r_pr (a := o) (j := 4)).trans ?_
      rw [if_pos ⟨rfl, rfl⟩, e]
      rfl
/-- what a push may change -/
def pw (W : Nat → Nat) (j a _ : Nat) : Prop := a = 25 ∨ (118 ≤ a ∧ W a = 1 + j)
def qw (j a k : Nat) : Prop := a = 26 ∧ k = j
theorem paA_put {h h' : am_H} {W W' : Nat → Nat} {e e' j o : Nat} {l l' : List fa_S} {f : fa_S} (L : Lay h) (okl : ∀ q ∈ l, fa_gd q) (A : paA h W e l) (g : gf h h' (pw W j) N0 (qw j)) (hW : ∀ a, a < h_n h → W' a = W a) (er : h_r h' 26 j = some o) (F : fa_at h' o f) (w : ow W' o 4 (1 + j)) (e1 : h_i h' 25 1 = nI e') (he : e' < 10) (e2 : h_i h' 25 2 = nI l'.length) (hl : ∀ k, k < l'.length → ((e' + k) % 10 = j ∧ l'.getD k f_0 = f) ∨ (¬ (e' + k) % 10 = j ∧ ∃ k', k' < l.length ∧ (e' + k) % 10 = (e + k') % 10 ∧ l'.getD k f_0 = l.getD k' f_0)) : paA h' W' e' l' := by
  obtain ⟨-, -, -, A1, A2⟩ := A
  refine ⟨e1, he, e2, fun i hi => ?_, fun k hk => ?_⟩
  · by_cases z : i = j
    · subst z
      exact Or.inr ⟨o, er, F.1, w⟩
    · rw [g.r (la_n L (by omega)) (fun y => z y.2)]
      rcases A1 i hi with y | ⟨q, y, Y, wq⟩
      · exact Or.inl y
      · have n0 := (Y.1 0 rfl).1
        have n1 := (Y.1 1 rfl).1
        have n2 := (Y.1 2 rfl).1
        have n3 := (Y.1 3 rfl).1
        have q118 := wq.1
        refine Or.inr ⟨q, y, g.facts Y (fun k z => by unfold qw at z; omega), wq.1, fun k hk => ?_⟩
        rw [hW _ (by omega)]
        exact wq.2 k hk
  · rcases hl k hk with ⟨z, y⟩ | ⟨z, k', hk', z2, y⟩
    · rw [z, y]
      exact ⟨o, er, F⟩
    · rw [g.r (la_n L (by omega)) (fun y => z y.2), y, z2]
      obtain ⟨q, y2, Fq⟩ := A2 k' hk'
      have hj : (e + k') % 10 < 10 := Nat.mod_lt _ (by omega)
      rcases A1 _ hj with x | ⟨q', x, Y, wq⟩
      · rw [x] at y2; cases y2
      · rw [y2] at x
        cases x
        have q118 := wq.1
        refine ⟨q, y2, g.fa (fa_len (okl _ (gdF_mem hk'))) Fq (fun a i h1 h2 x => ?_) (fun i x => by unfold qw at x; omega)⟩
        have wa := wq.2 (a - q) (by omega)
        rw [Nat.add_sub_cancel' h1] at wa
        rcases x with x | ⟨-, x⟩
        · omega
        · omega
theorem push_ix {e : Nat} {l : List fa_S} {f : fa_S} (he : e < 10) (h10 : l.length ≤ 10) : ∃ e' j, e' < 10 ∧ j < 10 ∧ j = (e + l.length) % 10 ∧ (if l.length = 10 then e' = (e + 1) % 10 else e' = e) ∧ ∀ k, k < (ps_push l f).length → ((e' + k) % 10 = j ∧ (ps_push l f).getD k f_0 = f) ∨ (¬ (e' + k) % 10 = j ∧ ∃ k', k' < l.length ∧ (e' + k) % 10 = (e + k') % 10 ∧ (ps_push l f).getD k f_0 = l.getD k' f_0) := by
  by_cases z : l.length = 10
  · refine ⟨(e + 1) % 10, (e + l.length) % 10, by omega, by omega, rfl, by rw [if_pos z], fun k hk => ?_⟩
    unfold ps_push at hk ⊢
    rw [if_pos z] at hk ⊢
    rw [List.length_append, List.length_tail, List.length_singleton] at hk
    rw [gdF_app, List.length_tail]
    by_cases y : k < l.length - 1
    · rw [if_pos y, gdF_tl]
      exact Or.inr ⟨by omega, k + 1, by omega, by omega, rfl⟩
    · rw [if_neg y, if_pos (by omega)]
      exact Or.inl ⟨by omega, rfl⟩
  · refine ⟨e, (e + l.length) % 10, by omega, by omega, rfl, by rw [if_neg z], fun k hk => ?_⟩
    unfold ps_push at hk ⊢
    rw [if_neg z] at hk ⊢
    rw [List.length_append, List.length_singleton] at hk
    rw [gdF_app]
    by_cases y : k < l.length
    · rw [if_pos y]
      exact Or.inr ⟨by omega, k, y, rfl, rfl⟩
    · rw [if_neg y, if_pos (by omega)]
      exact Or.inl ⟨by omega, rfl⟩
theorem ps_len {l : List fa_S} {f : fa_S} (h10 : l.length ≤ 10) : (ps_push l f).length = if l.length = 10 then 10 else l.length + 1 := by
  unfold ps_push
  by_cases z : l.length = 10
  · rw [if_pos z, if_pos z, List.length_append, List.length_tail, List.length_singleton]
    omega
  · rw [if_neg z, if_neg z, List.length_append, List.length_singleton]
theorem c_push7 {d : Nat} {Q : Option am_V → am_H → Prop} {h : am_H} {W : Nat → Nat} {e : Nat} {l : List fa_S} {f : fa_S} (L : Lay h) (gd : fa_gd f) (okl : ∀ q ∈ l, fa_gd q) (h10 : l.length ≤ 10) (F : fa_at h 11 f) (A : paA h W e l) {l2 : Option am_V} (k : ∀ h' W' e' j, (∀ a, a < h_n h → W' a = W a) → j < 10 → gf h h' (pw W j) N0 (qw j) → paA h' W' e' (ps_push l f) → h_n h' ≤ h_n h + 4 → h_s h' ≤ h_s h + 135 → Q none h') : ex_ (d + 1) 77 0 [some (v_r (some 25)), some (v_r (some 11)), l2] [] h Q := by
  obtain ⟨e', j, he', hj, ej, ee, hl⟩ := push_ix (f := f) A.2.1 h10
  have a1 := A.1
  have a2 := A.2.2.1
  have e10 := A.2.1
  have A3 := A.2.2.2.1 j hj
  have Y11 : y_Facts h 11 := F.1
  -- where the row stands already
  have old : ∀ h1, am_fr h h1 (fun a _ => a = 25) → h_i h1 25 1 = nI e' → h_i h1 25 2 = nI (ps_push l f).length → ∀ o, h_r h 26 j = some o → y_Facts h o → ow W o 4 (1 + j) → ex_ (d + 1) 77 70 [some (v_r (some 25)), some (v_r (some 11)), some (v_i (nI j))] [] h1 Q := by
    intro h1 fr e1 e2 o er Y w
    have L1 := fr.lay L
    have er1 : h_r h1 26 j = some o := by rw [fr.r]; exact er
    have Y1 := fr.facts Y
    have F1 : fa_at h1 11 f := fr.fa F (fun a k h1 h2 z => by omega)
    have F11 := F1.1
    have w1 := w.1
    simp (disch := first | assumption | omega | (simp only [ya_pi, ya_pj, ya_pa, ya_pr, yo_pi, yo_pj, yo_pa, yf_pi, yf_pj, yf_pa, yh_pi, yh_pj, yh_pa, yt_pi, yt_pj, yt_pa, la_pi, la_pj, la_pa]; assumption)) only [b_X7_push_0, b_X7_push_35, b_X7_push_22, b_X7_push_57, b_X7_push_70, b_X7_push_69, b_X7_push_77, b_X7_push_75, b_X7_push_80, i_lit, i_m1, i_31, il_t, il_f, iq_t, iq_f, it_t, it_f, im_e, im_l, im_g, im_g2, nI_add, pk_mul, i_sub, i_div, sdm, i_dec, i_cl, iv_t, bI_or2, bI_t0, bI_one, not_true_eq_false, not_false_eq_true, ↓reduceIte, am_tl, am_tn, am_t0, am_n0, and_true, true_and, List.cons_append, List.nil_append, List.append_nil, er1]
    refine c_copyFrom gd.1 Y1 F1 (by omega) (fun h2 fr2 F2 => ?_)
    simp (disch := first | assumption | omega | (simp only [ya_pi, ya_pj, ya_pa, ya_pr, yo_pi, yo_pj, yo_pa, yf_pi, yf_pj, yf_pa, yh_pi, yh_pj, yh_pa, yt_pi, yt_pj, yt_pa, la_pi, la_pj, la_pa]; assumption)) only [b_X7_push_0, b_X7_push_35, b_X7_push_22, b_X7_push_57, b_X7_push_70, b_X7_push_69, b_X7_push_77, b_X7_push_75, b_X7_push_80, i_lit, i_m1, i_31, il_t, il_f, iq_t, iq_f, it_t, it_f, im_e, im_l, im_g, im_g2, nI_add, pk_mul, i_sub, i_div, sdm, i_dec, i_cl, iv_t, bI_or2, bI_t0, bI_one, not_true_eq_false, not_false_eq_true, ↓reduceIte, am_tl, am_tn, am_t0, am_n0, and_true, true_and, List.cons_append, List.nil_append, List.append_nil]
    have g : gf h h2 (pw W j) N0 (qw j) := (fr.g.le (fun a k z => Or.inl z) (fun a k z => z) (fun a k (z : N0 a k) => z.elim)).tr (fr2.g.le (fun a k z => Or.inr (by
      have : o ≤ a ∧ a < o + 4 := by unfold fa_P at z; omega
      have wa := w.2 (a - o) (by omega)
      rw [Nat.add_sub_cancel' this.1] at wa
      exact ⟨by omega, wa⟩)) (fun a k (z : N0 a k) => z) (fun a k (z : N0 a k) => z.elim))
    have n1 := congrArg Prod.fst fr.1
    have n2 := congrArg Prod.fst fr2.1
    have s1 := congrArg Prod.snd fr.1
    have s2 := congrArg Prod.snd fr2.1
    refine k h2 W e' j (fun _ _ => rfl) hj g (paA_put L okl A g (fun _ _ => rfl) (by rw [fr2.r]; exact er1) F2 w (by rw [fr2.i (by unfold fa_P; omega)]; exact e1) he' (by rw [fr2.i (by unfold fa_P; omega)]; exact e2) hl) ?_ ?_
    · show h2.1.1 ≤ h.1.1 + 4
      omega
    · show h2.1.2 ≤ h.1.2 + 135
      omega
  have new : ∀ h1, am_fr h h1 (fun a _ => a = 25) → h_i h1 25 1 = nI e' → h_i h1 25 2 = nI (ps_push l f).length → h_r h 26 j = none → ex_ (d + 1) 77 57 [some (v_r (some 25)), some (v_r (some 11)), some (v_i (nI j))] [] h1 Q := by
    intro h1 fr e1 e2 er
    have L1 := fr.lay L
    have n118 := L1.1
    rw [b_X7_push_57 _ _ _ L1]
    refine c_fInit (o := h_n h1) rfl pn_c (fun h2 g2 n2 s2 Y2 => ?_)
    have g2' : gf h1 h2 N0 N0 (fun a _ => a = h_n h1) := gf_pn.tr g2
    have L2 : Lay h2 := g2'.lay (fun q hq z => by
      have := y_ref_lt q hq
      omega) L1
    have A26 : y_arr h2 26 31 10 := la_y L2 rfl
    have F1 : fa_at h1 11 f := fr.fa F (fun a k h1 h2 z => by omega)
    have F2 : fa_at h2 11 f := g2'.fa (fa_len gd) F1 (fun _ _ _ _ z => z) (fun k z => by omega)
    have F211 := F2.1
    have cis : am_is h2 (some (h_n h1)) 1 := lr_is (Y2.1 0 rfl)
    have r25 : h_r (p_r h2 26 j (some (h_n h1))) 25 0 = some 26 := by
      rw [h_r_pr, if_neg (by omega)]
      exact la_r L2 (q := (25, 0, 26)) (by decide)
    have A26' : y_arr (p_r h2 26 j (some (h_n h1))) 26 31 10 := A26
    have F3 : fa_at (p_r h2 26 j (some (h_n h1))) 11 f := (gf_pr (P := N0) (J := N0) (R := qw j) ⟨rfl, rfl⟩).fa (fa_len gd) F2 (fun _ _ _ _ z => z) (fun k z => by unfold qw at z; omega)
    have F311 := F3.1
    have Y3 : y_Facts (p_r h2 26 j (some (h_n h1))) (h_n h1) := (gf_pr (P := N0) (J := N0) (R := qw j) ⟨rfl, rfl⟩).facts Y2 (fun k z => by unfold qw at z; omega)
    have r3 : h_r (p_r h2 26 j (some (h_n h1))) 26 j = some (h_n h1) := by rw [h_r_pr, if_pos ⟨rfl, rfl⟩]
    simp (disch := first | assumption | omega | (simp only [ya_pi, ya_pj, ya_pa, ya_pr, yo_pi, yo_pj, yo_pa, yf_pi, yf_pj, yf_pa, yh_pi, yh_pj, yh_pa, yt_pi, yt_pj, yt_pa, la_pi, la_pj, la_pa]; assumption)) only [b_X7_push_0, b_X7_push_35, b_X7_push_22, b_X7_push_57, b_X7_push_70, b_X7_push_69, b_X7_push_77, b_X7_push_75, b_X7_push_80, i_lit, i_m1, i_31, il_t, il_f, iq_t, iq_f, it_t, it_f, im_e, im_l, im_g, im_g2, nI_add, pk_mul, i_sub, i_div, sdm, i_dec, i_cl, iv_t, bI_or2, bI_t0, bI_one, not_true_eq_false, not_false_eq_true, ↓reduceIte, am_tl, am_tn, am_t0, am_n0, and_true, true_and, List.cons_append, List.nil_append, List.append_nil, cis, r25, r3]
    refine c_copyFrom gd.1 Y3 F3 (by omega) (fun h4 fr4 F4 => ?_)
    simp (disch := first | assumption | omega | (simp only [ya_pi, ya_pj, ya_pa, ya_pr, yo_pi, yo_pj, yo_pa, yf_pi, yf_pj, yf_pa, yh_pi, yh_pj, yh_pa, yt_pi, yt_pj, yt_pa, la_pi, la_pj, la_pa]; assumption)) only [b_X7_push_0, b_X7_push_35, b_X7_push_22, b_X7_push_57, b_X7_push_70, b_X7_push_69, b_X7_push_77, b_X7_push_75, b_X7_push_80, i_lit, i_m1, i_31, il_t, il_f, iq_t, iq_f, it_t, it_f, im_e, im_l, im_g, im_g2, nI_add, pk_mul, i_sub, i_div, sdm, i_dec, i_cl, iv_t, bI_or2, bI_t0, bI_one, not_true_eq_false, not_false_eq_true, ↓reduceIte, am_tl, am_tn, am_t0, am_n0, and_true, true_and, List.cons_append, List.nil_append, List.append_nil]
    have hn1 : h_n h1 = h_n h := fr.n
    have g12 : gf h h2 (pw W j) N0 (qw j) := by
      have := (fr.g (J := N0) (R := N0)).tr (h1 := h1) (h2 := h2) (P := fun a _ => a = 25) ⟨g2'.1, g2'.2.1, g2'.2.2.1, fun a k ha _ => g2'.i ha (fun z => z), fun a k ha _ => g2'.j ha (fun z => z), fun a k ha _ => g2'.r ha (by omega)⟩
      exact this.le (fun a k z => Or.inl z) (fun a k z => z) (fun a k (z : N0 a k) => z.elim)
    have g24 : gf h2 h4 (fun a k => h_n h1 ≤ a) N0 (qw j) := (gf_pr (P := fun a k => h_n h1 ≤ a) (J := N0) (R := qw j) ⟨rfl, rfl⟩).tr (fr4.g.le (fun a k z => by unfold fa_P at z; omega) (fun a k (z : N0 a k) => z) (fun a k (z : N0 a k) => z.elim))
    have g : gf h h4 (pw W j) N0 (qw j) := by
      have gn0 := g12.1
      refine ⟨Nat.le_trans g12.1 g24.1, g24.2.1.trans g12.2.1, fun a ha => (g24.2.2.1 a (by omega)).trans (g12.2.2.1 a ha), fun a k ha hp => (g24.i (by omega) (by omega)).trans (g12.i ha hp), fun a k ha hp => (g24.j (by omega) hp).trans (g12.j ha hp), fun a k ha hp => (g24.r (by omega) hp).trans (g12.r ha hp)⟩
    have n4 := congrArg Prod.fst fr4.1
    have s4 := congrArg Prod.snd fr4.1
    have s1 := congrArg Prod.snd fr.1
    refine k h4 (fun a => if a < h_n h then W a else 1 + j) e' j (fun a ha => if_pos ha) hj g (paA_put L okl A g (fun a ha => if_pos ha) (by rw [fr4.r]; exact r3) F4 ⟨by omega, fun i hi => if_neg (by omega)⟩ ?_ he' ?_ hl) ?_ ?_
    · rw [fr4.i (by unfold fa_P; omega)]
      show h_i h2 25 1 = _
      rw [g2'.i (by omega) (fun z => z)]
      exact e1
    · rw [fr4.i (by unfold fa_P; omega)]
      show h_i h2 25 2 = _
      rw [g2'.i (by omega) (fun z => z)]
      exact e2
    · have : h_n h4 = h_n h2 := n4
      have q : h_n (p_n h1 1 5) = h_n h1 + 1 := rfl
      omega
    · have : h_s h4 = h_s h2 := s4
      have q : h_s (p_n h1 1 5) = h_s h1 + 5 := rfl
      have q1 : h_s h1 = h_s h := s1
      omega
  have len := ps_len (l := l) (f := f) h10
  by_cases z : l.length = 10
  · rw [if_pos z] at ee len
    have fr : am_fr h (p_i h 25 1 (nI e')) (fun a _ => a = 25) := am_fr_pi rfl
    have e1 : h_i (p_i h 25 1 (nI e')) 25 1 = nI e' := hi_s
    have e2 : h_i (p_i h 25 1 (nI e')) 25 2 = nI (ps_push l f).length := by rw [hi_k (by omega), a2, z, len]
    have ej' : (e + l.length) % 10 = j := ej.symm
    have ee' : (e + 1) % 10 = e' := ee.symm
    rcases A3 with y | ⟨o, y, Y, w⟩
    · have := new _ fr e1 e2 y
      simp (disch := first | assumption | omega | (simp only [ya_pi, ya_pj, ya_pa, ya_pr, yo_pi, yo_pj, yo_pa, yf_pi, yf_pj, yf_pa, yh_pi, yh_pj, yh_pa, yt_pi, yt_pj, yt_pa, la_pi, la_pj, la_pa]; assumption)) only [b_X7_push_0, b_X7_push_35, b_X7_push_22, i_lit, i_m1, i_31, il_t, il_f, iq_t, iq_f, it_t, it_f, im_e, im_l, im_g, im_g2, nI_add, pk_mul, i_sub, i_div, sdm, i_dec, i_cl, iv_t, bI_or2, bI_t0, bI_one, not_true_eq_false, not_false_eq_true, ↓reduceIte, am_tl, am_tn, am_t0, am_n0, and_true, true_and, List.cons_append, List.nil_append, List.append_nil, a1, a2, sdm, ej', ee', y]
      exact this
    · have := old _ fr e1 e2 o y Y w
      simp (disch := first | assumption | omega | (simp only [ya_pi, ya_pj, ya_pa, ya_pr, yo_pi, yo_pj, yo_pa, yf_pi, yf_pj, yf_pa, yh_pi, yh_pj, yh_pa, yt_pi, yt_pj, yt_pa, la_pi, la_pj, la_pa]; assumption)) only [b_X7_push_0, b_X7_push_35, b_X7_push_22, i_lit, i_m1, i_31, il_t, il_f, iq_t, iq_f, it_t, it_f, im_e, im_l, im_g, im_g2, nI_add, pk_mul, i_sub, i_div, sdm, i_dec, i_cl, iv_t, bI_or2, bI_t0, bI_one, not_true_eq_false, not_false_eq_true, ↓reduceIte, am_tl, am_tn, am_t0, am_n0, and_true, true_and, List.cons_append, List.nil_append, List.append_nil, a1, a2, sdm, ej', ee', y, reduceCtorEq]
      exact this
  · rw [if_neg z] at ee len
    have fr : am_fr h (p_i h 25 2 (nI (l.length + 1))) (fun a _ => a = 25) := am_fr_pi rfl
    have e1 : h_i (p_i h 25 2 (nI (l.length + 1))) 25 1 = nI e' := by rw [hi_k (by omega), a1, ee]
    have e2 : h_i (p_i h 25 2 (nI (l.length + 1))) 25 2 = nI (ps_push l f).length := by rw [hi_s, len]
    have ej' : (e + l.length) % 10 = j := ej.symm
    have l9 : l.length < 10 := by omega
    rcases A3 with y | ⟨o, y, Y, w⟩
    · have := new _ fr e1 e2 y
      simp (disch := first | assumption | omega | (simp only [ya_pi, ya_pj, ya_pa, ya_pr, yo_pi, yo_pj, yo_pa, yf_pi, yf_pj, yf_pa, yh_pi, yh_pj, yh_pa, yt_pi, yt_pj, yt_pa, la_pi, la_pj, la_pa]; assumption)) only [b_X7_push_0, b_X7_push_35, b_X7_push_22, i_lit, i_m1, i_31, il_t, il_f, iq_t, iq_f, it_t, it_f, im_e, im_l, im_g, im_g2, nI_add, pk_mul, i_sub, i_div, sdm, i_dec, i_cl, iv_t, bI_or2, bI_t0, bI_one, not_true_eq_false, not_false_eq_true, ↓reduceIte, am_tl, am_tn, am_t0, am_n0, and_true, true_and, List.cons_append, List.nil_append, List.append_nil, a1, a2, sdm, ej', y]
      exact this
    · have := old _ fr e1 e2 o y Y w
      simp (disch := first | assumption | omega | (simp only [ya_pi, ya_pj, ya_pa, ya_pr, yo_pi, yo_pj, yo_pa, yf_pi, yf_pj, yf_pa, yh_pi, yh_pj, yh_pa, yt_pi, yt_pj, yt_pa, la_pi, la_pj, la_pa]; assumption)) only [b_X7_push_0, b_X7_push_35, b_X7_push_22, i_lit, i_m1, i_31, il_t, il_f, iq_t, iq_f, it_t, it_f, im_e, im_l, im_g, im_g2, nI_add, pk_mul, i_sub, i_div, sdm, i_dec, i_cl, iv_t, bI_or2, bI_t0, bI_one, not_true_eq_false, not_false_eq_true, ↓reduceIte, am_tl, am_tn, am_t0, am_n0, and_true, true_and, List.cons_append, List.nil_append, List.append_nil, a1, a2, sdm, ej', y, reduceCtorEq]
      exact this
