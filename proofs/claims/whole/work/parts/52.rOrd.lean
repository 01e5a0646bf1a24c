/-! ===== the reference's merge ===== -/
def rr (h : am_H) (c : Nat) (v : Nat × List Nat) : Prop := h_i h 100 c = nI v.1 ∧ h_i h 98 c = nI v.2.length ∧ ro h 99 (11 * c) v.2
def rp (h : am_H) (ps : List Nat) : Prop := h_i h 93 23 = nI ps.length ∧ ro h 104 0 ps
def rm (h : am_H) (k : Nat) (R : List Nat) : Prop := ∃ t, t + R.length ≤ 11 ∧ h_i h 101 k = nI (11 * k + t) ∧ h_i h 102 k = nI (11 * k + t + R.length) ∧ ro h 103 (11 * k + t) R
def rM (a k : Nat) : Prop := 101 ≤ a ∧ a ≤ 103
def rW (r a k : Nat) : Prop := (101 ≤ a ∧ a ≤ 102 ∧ k = r) ∨ (a = 103 ∧ 11 * r ≤ k ∧ k < 11 * r + 11)
def rP (c a k : Nat) : Prop := (a = 98 ∧ k = c) ∨ (a = 100 ∧ k = c) ∨ (a = 99 ∧ 11 * c ≤ k ∧ k < 11 * c + 11) ∨ (101 ≤ a ∧ a ≤ 103)
theorem rm.fr {h h' : am_H} {P : Nat → Nat → Prop} (fr : am_fr h h' P) {r : Nat} {R : List Nat} (m : rm h r R) (hp : ∀ k, k < 11 → ¬ P 103 (11 * r + k)) (h1 : ¬ P 101 r) (h2 : ¬ P 102 r) : rm h' r R := by
  obtain ⟨t, t1, t2, t3, t4⟩ := m
  refine ⟨t, t1, by rw [fr.i h1, t2], by rw [fr.i h2, t3], fr.ro t4 (fun k hk => ?_)⟩
  rw [Nat.add_assoc]
  exact hp _ (by omega)
theorem rr.fr {h h' : am_H} {P : Nat → Nat → Prop} (fr : am_fr h h' P) {c : Nat} {v : Nat × List Nat} (m : rr h c v) (hl : v.2.length ≤ 11) (h1 : ¬ P 100 c) (h2 : ¬ P 98 c) (h3 : ∀ k, k < 11 → ¬ P 99 (11 * c + k)) : rr h' c v := ⟨by rw [fr.i h1, m.1], by rw [fr.i h2, m.2.1], fr.ro m.2.2 (fun k hk => h3 k (by omega))⟩
theorem rp.fr {h h' : am_H} {P : Nat → Nat → Prop} (fr : am_fr h h' P) {ps : List Nat} (m : rp h ps) (h1 : ¬ P 93 23) (h2 : ∀ k, ¬ P 104 k) : rp h' ps := ⟨by rw [fr.i h1, m.1], fr.ro m.2 (fun k _ => h2 _)⟩
theorem tl_gd {l : List Nat} {j : Nat} : l.getD (j + 1) 0 = l.tail.getD j 0 := by
  cases l with
  | nil => rfl
  | cons x l => rfl
theorem c_laysRows {d : Nat} {Q : Option am_V → am_H → Prop} {h : am_H} {T : od_T} {ps : List Nat} (L0 : Lay h) (h4 : ps.length ≤ 4) (p0 : rp h ps) (TO : ∀ p ∈ ps, p < 10 ∧ rr h p (T p) ∧ (T p).2.length ≤ 10) {l1 l2 : Option am_V} (k : ∀ h', am_fr h h' rM → (∀ r, r ≤ ps.length → rm h' r (od_R T ps r)) → Q none h') : ex_ d 266 0 [some (v_r (some 93)), l1, l2] [] h Q := by
  rw [b_X12_laysRows_0]
  refine lp_up ps.length (fun r (l2 : Option am_V) => [some (v_r (some 93)), some (v_i (nI r)), l2]) (fun r _ h' => am_fr h h' rM ∧ ∀ k, k < r → rm h' k (od_R T ps k)) ?_ ?_ (Nat.zero_le _) ⟨am_fr.rf, fun k hk => absurd hk (Nat.not_lt_zero _)⟩
  · rintro r l2 h' hr ⟨fr, ms⟩ nx
    have L1 : Lay h' := fr.lay L0
    have p1 : rp h' ps := p0.fr fr (by unfold rM; omega) (fun k => by unfold rM; omega)
    obtain ⟨p10, prow, pl10⟩ := TO _ (gd_mem hr)
    have prow1 : rr h' (ps.getD r 0) (T (ps.getD r 0)) := prow.fr fr (by omega) (by unfold rM; omega) (by unfold rM; omega) (fun k _ => by unfold rM; omega)
    have e23 := p1.1
    have eq1 := p1.2 r hr
    rw [Nat.zero_add] at eq1
    have eR : od_R T ps r = (T (ps.getD r 0)).2 := by rw [od_R, if_pos hr]
    have e98 := prow1.2.1
    have ro99 := prow1.2.2
    rw [← eR] at pl10 e98 ro99
    generalize od_R T ps r = R at eR pl10 e98 ro99
    generalize ps.getD r 0 = p at eq1 e98 ro99 p10
    rw [b_X12_laysRows_2 _ _ _ L1]
    simp (disch := first | assumption | omega | (simp only [ya_pi, ya_pj, ya_pa, ya_pr, yo_pi, yo_pj, yo_pa, yf_pi, yf_pj, yf_pa, yh_pi, yh_pj, yh_pa, yt_pi, yt_pj, yt_pa, la_pi, la_pj, la_pa]; assumption)) only [b_X12_laysRows_0, b_X12_laysRows_102, b_X12_laysRows_10, b_X12_laysRows_177, b_X12_laysRows_151, b_X12_laysRows_96, b_X12_laysRows_61, i_lit, i_m1, i_31, il_t, il_f, iq_t, iq_f, it_t, it_f, im_e, im_l, im_g, im_g2, nI_add, pk_mul, i_sub, i_div, sdm, i_dec, i_cl, iv_t, bI_or2, bI_t0, bI_one, not_true_eq_false, not_false_eq_true, ↓reduceIte, am_tl, am_tn, am_t0, am_n0, and_true, true_and, List.cons_append, List.nil_append, List.append_nil, or_true, true_or, or_false, false_or, eq_self, ior0, iand0, im_e2, oI, hi_s, hi_o, hi_k, hr_pi, hj_pi, hn_pi, hi_pas, hi_pao, hr_pa, hj_pa, e23, eq1, e98]
    refine lp_up R.length (fun i (_ : Unit) => [some (v_r (some 93)), some (v_i (nI r)), some (v_i (nI i))]) (fun i _ h2 => am_fr h' h2 (rW r) ∧ h_i h2 101 r = nI (11 * r) ∧ h_i h2 102 r = nI (11 * r + R.length) ∧ ro h2 103 (11 * r) (R.take i)) ?_ ?_ (Nat.zero_le _) ⟨(am_fr_pi (by unfold rW; omega)).pi (by unfold rW; omega), by simp (disch := first | assumption | omega | (simp only [ya_pi, ya_pj, ya_pa, ya_pr, yo_pi, yo_pj, yo_pa, yf_pi, yf_pj, yf_pa, yh_pi, yh_pj, yh_pa, yt_pi, yt_pj, yt_pa, la_pi, la_pj, la_pa]; assumption)) only [hi_s, hi_o, hi_k, hr_pi, hj_pi, hn_pi, hi_pas, hi_pao, hr_pa, hj_pa], by simp (disch := first | assumption | omega | (simp only [ya_pi, ya_pj, ya_pa, ya_pr, yo_pi, yo_pj, yo_pa, yf_pi, yf_pj, yf_pa, yh_pi, yh_pj, yh_pa, yt_pi, yt_pj, yt_pa, la_pi, la_pj, la_pa]; assumption)) only [hi_s, hi_o, hi_k, hr_pi, hj_pi, hn_pi, hi_pas, hi_pao, hr_pa, hj_pa], ro_nil⟩ (s := ())
    · rintro i - h2 hi ⟨fr2, e1, e2, e3⟩ nx2
      have L2 : Lay h2 := fr2.lay L1
      have e104 : h_i h2 104 r = nI p := by rw [fr2.i (by unfold rW; omega), eq1]
      have e98' : h_i h2 98 p = nI R.length := by rw [fr2.i (by unfold rW; omega), e98]
      have e99 : h_i h2 99 (11 * p + i) = nI (R.getD i 0) := by rw [fr2.i (by unfold rW; omega), ro99 i hi]
      rw [b_X12_laysRows_46 _ _ _ L2]
      simp (disch := first | assumption | omega | (simp only [ya_pi, ya_pj, ya_pa, ya_pr, yo_pi, yo_pj, yo_pa, yf_pi, yf_pj, yf_pa, yh_pi, yh_pj, yh_pa, yt_pi, yt_pj, yt_pa, la_pi, la_pj, la_pa]; assumption)) only [b_X12_laysRows_0, b_X12_laysRows_102, b_X12_laysRows_10, b_X12_laysRows_177, b_X12_laysRows_151, b_X12_laysRows_96, b_X12_laysRows_61, i_lit, i_m1, i_31, il_t, il_f, iq_t, iq_f, it_t, it_f, im_e, im_l, im_g, im_g2, nI_add, pk_mul, i_sub, i_div, sdm, i_dec, i_cl, iv_t, bI_or2, bI_t0, bI_one, not_true_eq_false, not_false_eq_true, ↓reduceIte, am_tl, am_tn, am_t0, am_n0, and_true, true_and, List.cons_append, List.nil_append, List.append_nil, or_true, true_or, or_false, false_or, eq_self, ior0, iand0, im_e2, oI, hi_s, hi_o, hi_k, hr_pi, hj_pi, hn_pi, hi_pas, hi_pao, hr_pa, hj_pa, e1, e104, e98', e99]
      refine nx2 () _ ⟨fr2.pi (by unfold rW; omega), by simp (disch := first | assumption | omega | (simp only [ya_pi, ya_pj, ya_pa, ya_pr, yo_pi, yo_pj, yo_pa, yf_pi, yf_pj, yf_pa, yh_pi, yh_pj, yh_pa, yt_pi, yt_pj, yt_pa, la_pi, la_pj, la_pa]; assumption)) only [hi_s, hi_o, hi_k, hr_pi, hj_pi, hn_pi, hi_pas, hi_pao, hr_pa, hj_pa, e1], by simp (disch := first | assumption | omega | (simp only [ya_pi, ya_pj, ya_pa, ya_pr, yo_pi, yo_pj, yo_pa, yf_pi, yf_pj, yf_pa, yh_pi, yh_pj, yh_pa, yt_pi, yt_pj, yt_pa, la_pi, la_pj, la_pa]; assumption)) only [hi_s, hi_o, hi_k, hr_pi, hj_pi, hn_pi, hi_pas, hi_pao, hr_pa, hj_pa, e2], ?_⟩
      rw [tk_s hi]
      have := ro_app (q := R.getD i 0) e3
      rw [tk_l (by omega)] at this
      exact this
    · rintro - h2 ⟨fr2, e1, e2, e3⟩
      have L2 : Lay h2 := fr2.lay L1
      have e104 : h_i h2 104 r = nI p := by rw [fr2.i (by unfold rW; omega), eq1]
      have e98' : h_i h2 98 p = nI R.length := by rw [fr2.i (by unfold rW; omega), e98]
      rw [List.take_length] at e3
      rw [b_X12_laysRows_46 _ _ _ L2]
      simp (disch := first | assumption | omega | (simp only [ya_pi, ya_pj, ya_pa, ya_pr, yo_pi, yo_pj, yo_pa, yf_pi, yf_pj, yf_pa, yh_pi, yh_pj, yh_pa, yt_pi, yt_pj, yt_pa, la_pi, la_pj, la_pa]; assumption)) only [b_X12_laysRows_0, b_X12_laysRows_102, b_X12_laysRows_10, b_X12_laysRows_177, b_X12_laysRows_151, b_X12_laysRows_96, b_X12_laysRows_61, i_lit, i_m1, i_31, il_t, il_f, iq_t, iq_f, it_t, it_f, im_e, im_l, im_g, im_g2, nI_add, pk_mul, i_sub, i_div, sdm, i_dec, i_cl, iv_t, bI_or2, bI_t0, bI_one, not_true_eq_false, not_false_eq_true, ↓reduceIte, am_tl, am_tn, am_t0, am_n0, and_true, true_and, List.cons_append, List.nil_append, List.append_nil, or_true, true_or, or_false, false_or, eq_self, ior0, iand0, im_e2, oI, hi_s, hi_o, hi_k, hr_pi, hj_pi, hn_pi, hi_pas, hi_pao, hr_pa, hj_pa, e104, e98']
      refine nx _ h2 ⟨fr.tr (fr2.le (fun a k z => by unfold rW at z; unfold rM; omega)), fun k hk => ?_⟩
      by_cases z : k = r
      · subst z
        rw [od_R, if_pos hr, ← eR]
        exact ⟨0, by omega, e1, e2, e3⟩
      · exact (ms k (by omega)).fr fr2 (fun j hj z => by unfold rW at z; omega) (fun z => by unfold rW at z; omega) (fun z => by unfold rW at z; omega)
  · rintro l2 h' ⟨fr, ms⟩
    have L1 : Lay h' := fr.lay L0
    have p1 : rp h' ps := p0.fr fr (by unfold rM; omega) (fun k => by unfold rM; omega)
    have e23 := p1.1
    rw [b_X12_laysRows_2 _ _ _ L1]
    simp (disch := first | assumption | omega | (simp only [ya_pi, ya_pj, ya_pa, ya_pr, yo_pi, yo_pj, yo_pa, yf_pi, yf_pj, yf_pa, yh_pi, yh_pj, yh_pa, yt_pi, yt_pj, yt_pa, la_pi, la_pj, la_pa]; assumption)) only [b_X12_laysRows_0, b_X12_laysRows_102, b_X12_laysRows_10, b_X12_laysRows_177, b_X12_laysRows_151, b_X12_laysRows_96, b_X12_laysRows_61, i_lit, i_m1, i_31, il_t, il_f, iq_t, iq_f, it_t, it_f, im_e, im_l, im_g, im_g2, nI_add, pk_mul, i_sub, i_div, sdm, i_dec, i_cl, iv_t, bI_or2, bI_t0, bI_one, not_true_eq_false, not_false_eq_true, ↓reduceIte, am_tl, am_tn, am_t0, am_n0, and_true, true_and, List.cons_append, List.nil_append, List.append_nil, or_true, true_or, or_false, false_or, eq_self, ior0, iand0, im_e2, oI, hi_s, hi_o, hi_k, hr_pi, hj_pi, hn_pi, hi_pas, hi_pao, hr_pa, hj_pa, e23]
    refine lp_up ps.length (fun i (_ : Unit) => [some (v_r (some 93)), some (v_i (nI i)), l2]) (fun i _ h2 => am_fr h' h2 (rW ps.length) ∧ h_i h2 101 ps.length = nI (11 * ps.length) ∧ h_i h2 102 ps.length = nI (11 * ps.length + ps.length) ∧ ro h2 103 (11 * ps.length) (ps.take i)) ?_ ?_ (Nat.zero_le _) ⟨(am_fr_pi (by unfold rW; omega)).pi (by unfold rW; omega), by simp (disch := first | assumption | omega | (simp only [ya_pi, ya_pj, ya_pa, ya_pr, yo_pi, yo_pj, yo_pa, yf_pi, yf_pj, yf_pa, yh_pi, yh_pj, yh_pa, yt_pi, yt_pj, yt_pa, la_pi, la_pj, la_pa]; assumption)) only [hi_s, hi_o, hi_k, hr_pi, hj_pi, hn_pi, hi_pas, hi_pao, hr_pa, hj_pa], by simp (disch := first | assumption | omega | (simp only [ya_pi, ya_pj, ya_pa, ya_pr, yo_pi, yo_pj, yo_pa, yf_pi, yf_pj, yf_pa, yh_pi, yh_pj, yh_pa, yt_pi, yt_pj, yt_pa, la_pi, la_pj, la_pa]; assumption)) only [hi_s, hi_o, hi_k, hr_pi, hj_pi, hn_pi, hi_pas, hi_pao, hr_pa, hj_pa], ro_nil⟩ (s := ())
    · rintro i - h2 hi ⟨fr2, e1, e2, e3⟩ nx2
      have L2 : Lay h2 := fr2.lay L1
      have e23' : h_i h2 93 23 = nI ps.length := by rw [fr2.i (by unfold rW; omega), e23]
      have e104 := p1.2 i hi
      rw [Nat.zero_add] at e104
      have e104' : h_i h2 104 i = nI (ps.getD i 0) := by rw [fr2.i (by unfold rW; omega), e104]
      rw [b_X12_laysRows_143 _ _ _ L2]
      simp (disch := first | assumption | omega | (simp only [ya_pi, ya_pj, ya_pa, ya_pr, yo_pi, yo_pj, yo_pa, yf_pi, yf_pj, yf_pa, yh_pi, yh_pj, yh_pa, yt_pi, yt_pj, yt_pa, la_pi, la_pj, la_pa]; assumption)) only [b_X12_laysRows_0, b_X12_laysRows_102, b_X12_laysRows_10, b_X12_laysRows_177, b_X12_laysRows_151, b_X12_laysRows_96, b_X12_laysRows_61, i_lit, i_m1, i_31, il_t, il_f, iq_t, iq_f, it_t, it_f, im_e, im_l, im_g, im_g2, nI_add, pk_mul, i_sub, i_div, sdm, i_dec, i_cl, iv_t, bI_or2, bI_t0, bI_one, not_true_eq_false, not_false_eq_true, ↓reduceIte, am_tl, am_tn, am_t0, am_n0, and_true, true_and, List.cons_append, List.nil_append, List.append_nil, or_true, true_or, or_false, false_or, eq_self, ior0, iand0, im_e2, oI, hi_s, hi_o, hi_k, hr_pi, hj_pi, hn_pi, hi_pas, hi_pao, hr_pa, hj_pa, e23', e104']
      refine nx2 () _ ⟨fr2.pi (by unfold rW; omega), by simp (disch := first | assumption | omega | (simp only [ya_pi, ya_pj, ya_pa, ya_pr, yo_pi, yo_pj, yo_pa, yf_pi, yf_pj, yf_pa, yh_pi, yh_pj, yh_pa, yt_pi, yt_pj, yt_pa, la_pi, la_pj, la_pa]; assumption)) only [hi_s, hi_o, hi_k, hr_pi, hj_pi, hn_pi, hi_pas, hi_pao, hr_pa, hj_pa, e1], by simp (disch := first | assumption | omega | (simp only [ya_pi, ya_pj, ya_pa, ya_pr, yo_pi, yo_pj, yo_pa, yf_pi, yf_pj, yf_pa, yh_pi, yh_pj, yh_pa, yt_pi, yt_pj, yt_pa, la_pi, la_pj, la_pa]; assumption)) only [hi_s, hi_o, hi_k, hr_pi, hj_pi, hn_pi, hi_pas, hi_pao, hr_pa, hj_pa, e2], ?_⟩
      rw [tk_s hi]
      have := ro_app (q := ps.getD i 0) e3
      rw [tk_l (by omega)] at this
      exact this
    · rintro - h2 ⟨fr2, e1, e2, e3⟩
      have L2 : Lay h2 := fr2.lay L1
      have e23' : h_i h2 93 23 = nI ps.length := by rw [fr2.i (by unfold rW; omega), e23]
      rw [List.take_length] at e3
      rw [b_X12_laysRows_143 _ _ _ L2]
      simp (disch := first | assumption | omega | (simp only [ya_pi, ya_pj, ya_pa, ya_pr, yo_pi, yo_pj, yo_pa, yf_pi, yf_pj, yf_pa, yh_pi, yh_pj, yh_pa, yt_pi, yt_pj, yt_pa, la_pi, la_pj, la_pa]; assumption)) only [b_X12_laysRows_0, b_X12_laysRows_102, b_X12_laysRows_10, b_X12_laysRows_177, b_X12_laysRows_151, b_X12_laysRows_96, b_X12_laysRows_61, i_lit, i_m1, i_31, il_t, il_f, iq_t, iq_f, it_t, it_f, im_e, im_l, im_g, im_g2, nI_add, pk_mul, i_sub, i_div, sdm, i_dec, i_cl, iv_t, bI_or2, bI_t0, bI_one, not_true_eq_false, not_false_eq_true, ↓reduceIte, am_tl, am_tn, am_t0, am_n0, and_true, true_and, List.cons_append, List.nil_append, List.append_nil, or_true, true_or, or_false, false_or, eq_self, ior0, iand0, im_e2, oI, hi_s, hi_o, hi_k, hr_pi, hj_pi, hn_pi, hi_pas, hi_pao, hr_pa, hj_pa, e23']
      refine k h2 (fr.tr (fr2.le (fun a k z => by unfold rW at z; unfold rM; omega))) (fun r hr => ?_)
      by_cases z : r = ps.length
      · subst z
        rw [od_R, if_neg (by omega), if_pos rfl]
        exact ⟨0, by omega, e1, e2, e3⟩
      · exact (ms r (by omega)).fr fr2 (fun j hj z => by unfold rW at z; omega) (fun z => by unfold rW at z; omega) (fun z => by unfold rW at z; omega)
def gb (n : Nat) (R : Nat → List Nat) (r : Nat) : Option Nat := match R r with
  | [] => none
  | x :: _ => if mf_free n R x then some x else none
theorem gb_pick {n : Nat} {R : Nat → List Nat} {i : Nat} (h : i ≤ n) : mf_pick n R i = match gb n R i with
    | none => mf_pick n R (i + 1)
    | some x => some x := by
  cases e : R i with
  | nil => rw [mf_pick_nil h e, gb, e]
  | cons x l =>
    by_cases hf : mf_free n R x = true
    · rw [mf_pick_yes h e hf, gb, e]
      simp only [hf, ↓reduceIte]
    · rw [mf_pick_no h e hf, gb, e]
      simp only [hf, ↓reduceIte, Bool.false_eq_true]
theorem c_givenBy {d : Nat} {Q : Option am_V → am_H → Prop} {h : am_H} {n r : Nat} {R : Nat → List Nat} (L0 : Lay h) (hn : n ≤ 4) (e23 : h_i h 93 23 = nI n) (hr : r ≤ n) (ms : ∀ k, k ≤ n → rm h k (R k)) (hx : ∀ k, k ≤ n → ∀ x ∈ R k, x < 10) {l2 l3 l4 : Option am_V} : ex_ d 267 0 [some (v_r (some 93)), some (v_i (nI r)), l2, l3, l4] [] h Q ↔ Q (some (v_i (oI (gb n R r)))) h := by
  apply ex_iff
  obtain ⟨t, t1, t2, t3, t4⟩ := ms r hr
  cases eR : R r with
  | nil =>
    rw [eR] at t3
    simp (disch := first | assumption | omega | (simp only [ya_pi, ya_pj, ya_pa, ya_pr, yo_pi, yo_pj, yo_pa, yf_pi, yf_pj, yf_pa, yh_pi, yh_pj, yh_pa, yt_pi, yt_pj, yt_pa, la_pi, la_pj, la_pa]; assumption)) only [b_X12_givenBy_0, b_X12_givenBy_17, b_X12_givenBy_15, b_X12_givenBy_85, b_X12_givenBy_39, b_X12_givenBy_79, b_X12_givenBy_60, b_X12_givenBy_73, b_X12_givenBy_71, i_lit, i_m1, i_31, il_t, il_f, iq_t, iq_f, it_t, it_f, im_e, im_l, im_g, im_g2, nI_add, pk_mul, i_sub, i_div, sdm, i_dec, i_cl, iv_t, bI_or2, bI_t0, bI_one, not_true_eq_false, not_false_eq_true, ↓reduceIte, am_tl, am_tn, am_t0, am_n0, and_true, true_and, List.cons_append, List.nil_append, List.append_nil, or_true, true_or, or_false, false_or, eq_self, ior0, iand0, im_e2, oI, t2, t3, List.length_nil, Nat.add_zero, gb, eR]
  | cons x l =>
    rw [eR, List.length_cons] at t3
    have hl : (R r).length = l.length + 1 := by rw [eR]; rfl
    have x10 := hx r hr x (by rw [eR]; exact List.mem_cons_self)
    have e0 := t4 0 (by omega)
    rw [Nat.add_zero, eR, List.getD_cons_zero] at e0
    simp (disch := first | assumption | omega | (simp only [ya_pi, ya_pj, ya_pa, ya_pr, yo_pi, yo_pj, yo_pa, yf_pi, yf_pj, yf_pa, yh_pi, yh_pj, yh_pa, yt_pi, yt_pj, yt_pa, la_pi, la_pj, la_pa]; assumption)) only [b_X12_givenBy_0, b_X12_givenBy_17, b_X12_givenBy_15, b_X12_givenBy_85, b_X12_givenBy_39, b_X12_givenBy_79, b_X12_givenBy_60, b_X12_givenBy_73, b_X12_givenBy_71, i_lit, i_m1, i_31, il_t, il_f, iq_t, iq_f, it_t, it_f, im_e, im_l, im_g, im_g2, nI_add, pk_mul, i_sub, i_div, sdm, i_dec, i_cl, iv_t, bI_or2, bI_t0, bI_one, not_true_eq_false, not_false_eq_true, ↓reduceIte, am_tl, am_tn, am_t0, am_n0, and_true, true_and, List.cons_append, List.nil_append, List.append_nil, or_true, true_or, or_false, false_or, eq_self, ior0, iand0, im_e2, oI, t2, t3, e0, gb, eR]
    refine lp_up (n + 1) (fun k (l4 : Option am_V) => [some (v_r (some 93)), some (v_i (nI r)), some (v_i (nI x)), some (v_i (nI k)), l4]) (fun i _ h' => h' = h ∧ ∀ k, k < i → ¬ x ∈ (R k).tail) ?_ ?_ (Nat.zero_le _) ⟨rfl, fun k hk => absurd hk (Nat.not_lt_zero _)⟩
    · rintro k l4 h' hk ⟨rfl, e⟩ nx
      obtain ⟨u, u1, u2, u3, u4⟩ := ms k (by omega)
      rw [b_X12_givenBy_31 _ _ _ _ _ L0]
      simp (disch := first | assumption | omega | (simp only [ya_pi, ya_pj, ya_pa, ya_pr, yo_pi, yo_pj, yo_pa, yf_pi, yf_pj, yf_pa, yh_pi, yh_pj, yh_pa, yt_pi, yt_pj, yt_pa, la_pi, la_pj, la_pa]; assumption)) only [b_X12_givenBy_0, b_X12_givenBy_17, b_X12_givenBy_15, b_X12_givenBy_85, b_X12_givenBy_39, b_X12_givenBy_79, b_X12_givenBy_60, b_X12_givenBy_73, b_X12_givenBy_71, i_lit, i_m1, i_31, il_t, il_f, iq_t, iq_f, it_t, it_f, im_e, im_l, im_g, im_g2, nI_add, pk_mul, i_sub, i_div, sdm, i_dec, i_cl, iv_t, bI_or2, bI_t0, bI_one, not_true_eq_false, not_false_eq_true, ↓reduceIte, am_tl, am_tn, am_t0, am_n0, and_true, true_and, List.cons_append, List.nil_append, List.append_nil, or_true, true_or, or_false, false_or, eq_self, ior0, iand0, im_e2, oI, u2, e23]
      refine lp_up ((R k).length - 1) (fun j (_ : Unit) => [some (v_r (some 93)), some (v_i (nI r)), some (v_i (nI x)), some (v_i (nI k)), some (v_i (nI (11 * k + u + 1 + j)))]) (fun j _ h2 => h2 = h' ∧ ∀ i, i < j → ¬ (R k).getD (i + 1) 0 = x) ?_ ?_ (Nat.zero_le _) ⟨rfl, fun k hk => absurd hk (Nat.not_lt_zero _)⟩ (s := ())
      · rintro j - h2 hj ⟨rfl, e2⟩ nx2
        have e3 := u4 (j + 1) (by omega)
        rw [show 11 * k + u + (j + 1) = 11 * k + u + 1 + j from by omega] at e3
        have y10 := hx k (by omega) _ (gd_mem (show j + 1 < (R k).length by omega))
        rw [b_X12_givenBy_49 _ _ _ _ _ L0]
        by_cases z : (R k).getD (j + 1) 0 = x
        · have z2 : ¬ mf_free n R x = true := fun w => by
            rw [mf_free_iff] at w
            refine w k (by omega) ?_
            rw [← z, tl_gd]
            exact gd_mem (by rw [List.length_tail]; omega)
          simp (disch := first | assumption | omega | (simp only [ya_pi, ya_pj, ya_pa, ya_pr, yo_pi, yo_pj, yo_pa, yf_pi, yf_pj, yf_pa, yh_pi, yh_pj, yh_pa, yt_pi, yt_pj, yt_pa, la_pi, la_pj, la_pa]; assumption)) only [b_X12_givenBy_0, b_X12_givenBy_17, b_X12_givenBy_15, b_X12_givenBy_85, b_X12_givenBy_39, b_X12_givenBy_79, b_X12_givenBy_60, b_X12_givenBy_73, b_X12_givenBy_71, i_lit, i_m1, i_31, il_t, il_f, iq_t, iq_f, it_t, it_f, im_e, im_l, im_g, im_g2, nI_add, pk_mul, i_sub, i_div, sdm, i_dec, i_cl, iv_t, bI_or2, bI_t0, bI_one, not_true_eq_false, not_false_eq_true, ↓reduceIte, am_tl, am_tn, am_t0, am_n0, and_true, true_and, List.cons_append, List.nil_append, List.append_nil, or_true, true_or, or_false, false_or, eq_self, ior0, iand0, im_e2, oI, u3, e3, z, z2, Bool.false_eq_true]
        · simp (disch := first | assumption | omega | (simp only [ya_pi, ya_pj, ya_pa, ya_pr, yo_pi, yo_pj, yo_pa, yf_pi, yf_pj, yf_pa, yh_pi, yh_pj, yh_pa, yt_pi, yt_pj, yt_pa, la_pi, la_pj, la_pa]; assumption)) only [b_X12_givenBy_0, b_X12_givenBy_17, b_X12_givenBy_15, b_X12_givenBy_85, b_X12_givenBy_39, b_X12_givenBy_79, b_X12_givenBy_60, b_X12_givenBy_73, b_X12_givenBy_71, i_lit, i_m1, i_31, il_t, il_f, iq_t, iq_f, it_t, it_f, im_e, im_l, im_g, im_g2, nI_add, pk_mul, i_sub, i_div, sdm, i_dec, i_cl, iv_t, bI_or2, bI_t0, bI_one, not_true_eq_false, not_false_eq_true, ↓reduceIte, am_tl, am_tn, am_t0, am_n0, and_true, true_and, List.cons_append, List.nil_append, List.append_nil, or_true, true_or, or_false, false_or, eq_self, ior0, iand0, im_e2, oI, u3, e3, z]
          refine nx2 () h2 ⟨rfl, fun i hi => ?_⟩
          by_cases w : i = j
          · rw [w]
            exact z
          · exact e2 i (by omega)
      · rintro - h2 ⟨rfl, e2⟩
        rw [b_X12_givenBy_49 _ _ _ _ _ L0]
        simp (disch := first | assumption | omega | (simp only [ya_pi, ya_pj, ya_pa, ya_pr, yo_pi, yo_pj, yo_pa, yf_pi, yf_pj, yf_pa, yh_pi, yh_pj, yh_pa, yt_pi, yt_pj, yt_pa, la_pi, la_pj, la_pa]; assumption)) only [b_X12_givenBy_0, b_X12_givenBy_17, b_X12_givenBy_15, b_X12_givenBy_85, b_X12_givenBy_39, b_X12_givenBy_79, b_X12_givenBy_60, b_X12_givenBy_73, b_X12_givenBy_71, i_lit, i_m1, i_31, il_t, il_f, iq_t, iq_f, it_t, it_f, im_e, im_l, im_g, im_g2, nI_add, pk_mul, i_sub, i_div, sdm, i_dec, i_cl, iv_t, bI_or2, bI_t0, bI_one, not_true_eq_false, not_false_eq_true, ↓reduceIte, am_tl, am_tn, am_t0, am_n0, and_true, true_and, List.cons_append, List.nil_append, List.append_nil, or_true, true_or, or_false, false_or, eq_self, ior0, iand0, im_e2, oI, u3]
        refine nx _ h2 ⟨rfl, fun i hi => ?_⟩
        by_cases w : i = k
        · subst w
          intro hm
          obtain ⟨j, hj, ej⟩ := List.getElem_of_mem hm
          rw [List.length_tail] at hj
          refine e2 j hj ?_
          rw [tl_gd, List.getD_eq_getElem?_getD, List.getElem?_eq_getElem (by rw [List.length_tail]; exact hj)]
          exact ej
        · exact e i (by omega)
    · rintro l4 h' ⟨rfl, e⟩
      have z2 : mf_free n R x = true := mf_free_iff.2 (fun k hk => e k (by omega))
      rw [b_X12_givenBy_31 _ _ _ _ _ L0]
      simp (disch := first | assumption | omega | (simp only [ya_pi, ya_pj, ya_pa, ya_pr, yo_pi, yo_pj, yo_pa, yf_pi, yf_pj, yf_pa, yh_pi, yh_pj, yh_pa, yt_pi, yt_pj, yt_pa, la_pi, la_pj, la_pa]; assumption)) only [b_X12_givenBy_0, b_X12_givenBy_17, b_X12_givenBy_15, b_X12_givenBy_85, b_X12_givenBy_39, b_X12_givenBy_79, b_X12_givenBy_60, b_X12_givenBy_73, b_X12_givenBy_71, i_lit, i_m1, i_31, il_t, il_f, iq_t, iq_f, it_t, it_f, im_e, im_l, im_g, im_g2, nI_add, pk_mul, i_sub, i_div, sdm, i_dec, i_cl, iv_t, bI_or2, bI_t0, bI_one, not_true_eq_false, not_false_eq_true, ↓reduceIte, am_tl, am_tn, am_t0, am_n0, and_true, true_and, List.cons_append, List.nil_append, List.append_nil, or_true, true_or, or_false, false_or, eq_self, ior0, iand0, im_e2, oI, e23, z2]
def ls (R : Nat → List Nat) : Nat → Nat
  | 0 => 0
  | n + 1 => ls R n + (R n).length
theorem ls_mf {R : Nat → List Nat} : ∀ n, ls R (n + 1) = mf_len R n := by
  intro n
  induction n with
  | zero => simp only [ls, mf_len, Nat.zero_add]
  | succ n ih => rw [ls, ih]; rfl
theorem ls_le {R : Nat → List Nat} : ∀ n, (∀ k, k < n → (R k).length ≤ 11) → ls R n ≤ 11 * n := by
  intro n
  induction n with
  | zero => intro _; exact Nat.le_refl _
  | succ n ih =>
    intro h
    have h1 := ih (fun k hk => h k (by omega))
    have h2 := h n (by omega)
    simp only [ls]
    omega
theorem ls_ext {R R' : Nat → List Nat} : ∀ n, (∀ k, k < n → R k = R' k) → ls R n = ls R' n := by
  intro n
  induction n with
  | zero => intro _; rfl
  | succ n ih =>
    intro h
    rw [ls, ls, ih (fun k hk => h k (by omega)), h n (by omega)]
theorem ls_1 {R R' : Nat → List Nat} {i : Nat} (hi : (R' i).length + 1 = (R i).length) (h : ∀ k, ¬ k = i → R k = R' k) : ∀ n, i < n → ls R n = ls R' n + 1 := by
  intro n
  induction n with
  | zero => intro z; omega
  | succ n ih =>
    intro z
    by_cases e : i = n
    · subst e
      rw [ls, ls, ls_ext (R := R) (R' := R') i (fun k hk => h k (by omega))]
      omega
    · rw [ls, ls, ih (by omega), h n (by omega)]
      omega
theorem mf_emp_pick {n : Nat} {R : Nat → List Nat} (h : ∀ k, k ≤ n → R k = []) : ∀ m i, i + m = n + 1 → mf_pick n R i = none := by
  intro m
  induction m with
  | zero => intro i hi; exact mf_pick_out (by omega)
  | succ m ih => intro i hi; rw [mf_pick_nil (by omega) (h i (by omega))]; exact ih (i + 1) (by omega)
def rd (x : Nat) (R : Nat → List Nat) (i : Nat) : Nat → List Nat := fun k => if k < i then mf_drop x R k else R k
theorem rd_0 {x : Nat} {R : Nat → List Nat} : rd x R 0 = R := by
  funext k
  exact if_neg (Nat.not_lt_zero _)
theorem rd_at {x : Nat} {R : Nat → List Nat} {i : Nat} : rd x R i i = R i := if_neg (by omega)
theorem rd_n {x : Nat} {R : Nat → List Nat} {i : Nat} (h : ¬ (R i).head? = some x) : rd x R (i + 1) = rd x R i := by
  funext k
  unfold rd
  by_cases e : k = i
  · subst e
    rw [if_pos (by omega), if_neg (by omega), mf_drop, if_neg h]
  · by_cases z : k < i
    · rw [if_pos (by omega), if_pos z]
    · rw [if_neg (by omega), if_neg z]
theorem rd_o {x : Nat} {R : Nat → List Nat} {i k : Nat} (h : ¬ k = i) : rd x R (i + 1) k = rd x R i k := by
  unfold rd
  by_cases z : k < i
  · rw [if_pos (by omega), if_pos z]
  · rw [if_neg (by omega), if_neg z]
theorem rd_y {x : Nat} {R : Nat → List Nat} {i : Nat} (h : (R i).head? = some x) : rd x R (i + 1) i = (R i).tail := by
  unfold rd
  rw [if_pos (by omega), mf_drop, if_pos h]
def mv (c : Nat) (o : Option (List Nat)) : Nat × List Nat := match o with
  | none => (1, [])
  | some l => (0, c :: l)
theorem c_merges {d : Nat} {Q : Option am_V → am_H → Prop} {h : am_H} {c N : Nat} {T : od_T} {ps : List Nat} (L0 : Lay h) (p0 : rp h ps) (TO : ∀ p, p < N → rr h p (T p)) (ok : od_ok T N) (hNc : N ≤ c) (hc : c ≤ 10) (hps : ∀ p ∈ ps, p < N) (nd : ps.Nodup) (h4 : ps.length ≤ 4) {l2 l3 l4 : Option am_V} (k : ∀ h', am_fr h h' (rP c) → h_i h' 98 c = nI (mv c (mf ps.length (od_R T ps))).2.length → ro h' 99 (11 * c) (mv c (mf ps.length (od_R T ps))).2 → Q (some (v_i (nI (mv c (mf ps.length (od_R T ps))).1))) h') : ex_ (d + 1) 268 0 [some (v_r (some 93)), some (v_i (nI c)), l2, l3, l4] [] h Q := by
  have inv0 : mf_inv ps.length (od_R T ps) [] := od_inv ok hps nd (fun p hp => by have := hps p hp; omega)
  simp (disch := first | assumption | omega | (simp only [ya_pi, ya_pj, ya_pa, ya_pr, yo_pi, yo_pj, yo_pa, yf_pi, yf_pj, yf_pa, yh_pi, yh_pj, yh_pa, yt_pi, yt_pj, yt_pa, la_pi, la_pj, la_pa]; assumption)) only [b_X12_merges_0, b_X12_merges_21, b_X12_merges_33, b_X12_merges_203, b_X12_merges_59, b_X12_merges_91, b_X12_merges_73, b_X12_merges_105, b_X12_merges_96, b_X12_merges_78, b_X12_merges_84, b_X12_merges_200, b_X12_merges_144, b_X12_merges_194, b_X12_merges_161, b_X12_merges_180, b_X12_merges_177, i_lit, i_m1, i_31, il_t, il_f, iq_t, iq_f, it_t, it_f, im_e, im_l, im_g, im_g2, nI_add, pk_mul, i_sub, i_div, sdm, i_dec, i_cl, iv_t, bI_or2, bI_t0, bI_one, not_true_eq_false, not_false_eq_true, ↓reduceIte, am_tl, am_tn, am_t0, am_n0, and_true, true_and, List.cons_append, List.nil_append, List.append_nil, or_true, true_or, or_false, false_or, eq_self, ior0, iand0, im_e2, oI]
  have fr1 : am_fr h (p_i (p_i h 99 (11 * c) (nI c)) 98 c (nI 1)) (rP c) := (am_fr_pi (by unfold rP; omega)).pi (by unfold rP; omega)
  have s1 : h_i (p_i (p_i h 99 (11 * c) (nI c)) 98 c (nI 1)) 98 c = nI 1 := by simp (disch := first | assumption | omega | (simp only [ya_pi, ya_pj, ya_pa, ya_pr, yo_pi, yo_pj, yo_pa, yf_pi, yf_pj, yf_pa, yh_pi, yh_pj, yh_pa, yt_pi, yt_pj, yt_pa, la_pi, la_pj, la_pa]; assumption)) only [hi_s, hi_o, hi_k, hr_pi, hj_pi, hn_pi, hi_pas, hi_pao, hr_pa, hj_pa]
  have s2 : h_i (p_i (p_i h 99 (11 * c) (nI c)) 98 c (nI 1)) 99 (11 * c) = nI c := by simp (disch := first | assumption | omega | (simp only [ya_pi, ya_pj, ya_pa, ya_pr, yo_pi, yo_pj, yo_pa, yf_pi, yf_pj, yf_pa, yh_pi, yh_pj, yh_pa, yt_pi, yt_pj, yt_pa, la_pi, la_pj, la_pa]; assumption)) only [hi_s, hi_o, hi_k, hr_pi, hj_pi, hn_pi, hi_pas, hi_pao, hr_pa, hj_pa]
  generalize p_i (p_i h 99 (11 * c) (nI c)) 98 c (nI 1) = h1 at fr1 s1 s2
  have L1 : Lay h1 := fr1.lay L0
  have p1 : rp h1 ps := p0.fr fr1 (by unfold rP; omega) (fun k => by unfold rP; omega)
  refine c_laysRows L1 h4 p1 (T := T) (fun p hp => ?_) (fun h2 fr2 ms => ?_)
  · have h3 := hps p hp
    have h5 := ok p h3
    exact ⟨by omega, (TO p h3).fr fr1 (by omega) (by unfold rP; omega) (by unfold rP; omega) (fun k _ => by unfold rP; omega), by omega⟩
  generalize od_R T ps = R0 at inv0 ms k
  generalize hN : ps.length = n at *
  have fr2' : am_fr h h2 (rP c) := fr1.tr (fr2.le (fun a k z => by unfold rM at z; unfold rP; omega))
  have len11 : ∀ {h : am_H} {R : Nat → List Nat}, (∀ r, r ≤ n → rm h r (R r)) → ∀ k, k < n + 1 → (R k).length ≤ 11 := fun ms k hk => by
    obtain ⟨t, t1, -⟩ := ms k (by omega)
    omega
  simp (disch := first | assumption | omega | (simp only [ya_pi, ya_pj, ya_pa, ya_pr, yo_pi, yo_pj, yo_pa, yf_pi, yf_pj, yf_pa, yh_pi, yh_pj, yh_pa, yt_pi, yt_pj, yt_pa, la_pi, la_pj, la_pa]; assumption)) only [b_X12_merges_0, b_X12_merges_21, b_X12_merges_33, b_X12_merges_203, b_X12_merges_59, b_X12_merges_91, b_X12_merges_73, b_X12_merges_105, b_X12_merges_96, b_X12_merges_78, b_X12_merges_84, b_X12_merges_200, b_X12_merges_144, b_X12_merges_194, b_X12_merges_161, b_X12_merges_180, b_X12_merges_177, i_lit, i_m1, i_31, il_t, il_f, iq_t, iq_f, it_t, it_f, im_e, im_l, im_g, im_g2, nI_add, pk_mul, i_sub, i_div, sdm, i_dec, i_cl, iv_t, bI_or2, bI_t0, bI_one, not_true_eq_false, not_false_eq_true, ↓reduceIte, am_tl, am_tn, am_t0, am_n0, and_true, true_and, List.cons_append, List.nil_append, List.append_nil, or_true, true_or, or_false, false_or, eq_self, ior0, iand0, im_e2, oI]
  have L2 : Lay h2 := fr2.lay L1
  have e23 : h_i h2 93 23 = nI n := by rw [fr2.i (by unfold rM; omega), p1.1, hN]
  refine lp_up (n + 1) (fun i (_ : Unit) => [some (v_r (some 93)), some (v_i (nI c)), some (v_i (nI (ls R0 i))), some (v_i (nI i)), l4]) (fun i _ h' => h' = h2) ?_ ?_ (Nat.zero_le _) rfl (s := ())
  · rintro i - h' hi rfl nx
    obtain ⟨t, t1, t2, t3, -⟩ := ms i (by omega)
    rw [b_X12_merges_25 _ _ _ _ _ L2]
    have e : 11 * i + t + (R0 i).length - (11 * i + t) = (R0 i).length := by omega
    simp (disch := first | assumption | omega | (simp only [ya_pi, ya_pj, ya_pa, ya_pr, yo_pi, yo_pj, yo_pa, yf_pi, yf_pj, yf_pa, yh_pi, yh_pj, yh_pa, yt_pi, yt_pj, yt_pa, la_pi, la_pj, la_pa]; assumption)) only [b_X12_merges_0, b_X12_merges_21, b_X12_merges_33, b_X12_merges_203, b_X12_merges_59, b_X12_merges_91, b_X12_merges_73, b_X12_merges_105, b_X12_merges_96, b_X12_merges_78, b_X12_merges_84, b_X12_merges_200, b_X12_merges_144, b_X12_merges_194, b_X12_merges_161, b_X12_merges_180, b_X12_merges_177, i_lit, i_m1, i_31, il_t, il_f, iq_t, iq_f, it_t, it_f, im_e, im_l, im_g, im_g2, nI_add, pk_mul, i_sub, i_div, sdm, i_dec, i_cl, iv_t, bI_or2, bI_t0, bI_one, not_true_eq_false, not_false_eq_true, ↓reduceIte, am_tl, am_tn, am_t0, am_n0, and_true, true_and, List.cons_append, List.nil_append, List.append_nil, or_true, true_or, or_false, false_or, eq_self, ior0, iand0, im_e2, oI, e23, t2, t3, e]
    exact nx () h' rfl
  rintro - h' rfl
  rw [b_X12_merges_25 _ _ _ _ _ L2]
  simp (disch := first | assumption | omega | (simp only [ya_pi, ya_pj, ya_pa, ya_pr, yo_pi, yo_pj, yo_pa, yf_pi, yf_pj, yf_pa, yh_pi, yh_pj, yh_pa, yt_pi, yt_pj, yt_pa, la_pi, la_pj, la_pa]; assumption)) only [b_X12_merges_0, b_X12_merges_21, b_X12_merges_33, b_X12_merges_203, b_X12_merges_59, b_X12_merges_91, b_X12_merges_73, b_X12_merges_105, b_X12_merges_96, b_X12_merges_78, b_X12_merges_84, b_X12_merges_200, b_X12_merges_144, b_X12_merges_194, b_X12_merges_161, b_X12_merges_180, b_X12_merges_177, i_lit, i_m1, i_31, il_t, il_f, iq_t, iq_f, it_t, it_f, im_e, im_l, im_g, im_g2, nI_add, pk_mul, i_sub, i_div, sdm, i_dec, i_cl, iv_t, bI_or2, bI_t0, bI_one, not_true_eq_false, not_false_eq_true, ↓reduceIte, am_tl, am_tn, am_t0, am_n0, and_true, true_and, List.cons_append, List.nil_append, List.append_nil, or_true, true_or, or_false, false_or, eq_self, ior0, iand0, im_e2, oI, e23]
  refine lp_wf (fun (s : List Nat × (Nat → List Nat) × Option am_V × Option am_V) => mf_len s.2.1 n) (fun s => [some (v_r (some 93)), some (v_i (nI c)), some (v_i (nI (ls s.2.1 (n + 1)))), s.2.2.1, s.2.2.2]) (fun s h' => am_fr h h' (rP c) ∧ h_i h' 93 23 = nI n ∧ (∀ k, k ≤ n → rm h' k (s.2.1 k)) ∧ mf_inv n s.2.1 s.1 ∧ h_i h' 98 c = nI (s.1.length + 1) ∧ ro h' 99 (11 * c) (c :: s.1) ∧ mf n R0 = (mf n s.2.1).map (fun l => s.1 ++ l)) ?_ (s := ([], R0, some (v_i (nI (n + 1))), l4)) ⟨fr2', e23, ms, inv0, ?_, ?_, ?_⟩
  · rintro ⟨acc, R, l3, l4⟩ h5 ⟨fr5, e5, ms5, inv5, l5, ro5, eq5⟩ nx
    dsimp only at ms5 inv5 l5 ro5 eq5 nx ⊢
    have L5 : Lay h5 := fr5.lay L0
    have hx5 := fun k hk x hx => ((inv5.1 k hk).2 x hx).1
    have acl := nd_len inv5.2.1 inv5.2.2
    have lsl := ls_le (R := R) (n + 1) (len11 ms5)
    rw [b_X12_merges_55]
    by_cases hz : ls R (n + 1) = 0
    · have he := (mf_len0 n).1 ((ls_mf n).symm.trans hz)
      rw [mf_none (mf_emp_pick he (n + 1) 0 (by omega)), if_pos (mf_emp_iff.2 he), Option.map_some, List.append_nil] at eq5
      rw [eq5] at k
      simp (disch := first | assumption | omega | (simp only [ya_pi, ya_pj, ya_pa, ya_pr, yo_pi, yo_pj, yo_pa, yf_pi, yf_pj, yf_pa, yh_pi, yh_pj, yh_pa, yt_pi, yt_pj, yt_pa, la_pi, la_pj, la_pa]; assumption)) only [b_X12_merges_0, b_X12_merges_21, b_X12_merges_33, b_X12_merges_203, b_X12_merges_59, b_X12_merges_91, b_X12_merges_73, b_X12_merges_105, b_X12_merges_96, b_X12_merges_78, b_X12_merges_84, b_X12_merges_200, b_X12_merges_144, b_X12_merges_194, b_X12_merges_161, b_X12_merges_180, b_X12_merges_177, i_lit, i_m1, i_31, il_t, il_f, iq_t, iq_f, it_t, it_f, im_e, im_l, im_g, im_g2, nI_add, pk_mul, i_sub, i_div, sdm, i_dec, i_cl, iv_t, bI_or2, bI_t0, bI_one, not_true_eq_false, not_false_eq_true, ↓reduceIte, am_tl, am_tn, am_t0, am_n0, and_true, true_and, List.cons_append, List.nil_append, List.append_nil, or_true, true_or, or_false, false_or, eq_self, ior0, iand0, im_e2, oI]
      exact k h5 fr5 l5 ro5
    · simp (disch := first | assumption | omega | (simp only [ya_pi, ya_pj, ya_pa, ya_pr, yo_pi, yo_pj, yo_pa, yf_pi, yf_pj, yf_pa, yh_pi, yh_pj, yh_pa, yt_pi, yt_pj, yt_pa, la_pi, la_pj, la_pa]; assumption)) only [b_X12_merges_0, b_X12_merges_21, b_X12_merges_33, b_X12_merges_203, b_X12_merges_59, b_X12_merges_91, b_X12_merges_73, b_X12_merges_105, b_X12_merges_96, b_X12_merges_78, b_X12_merges_84, b_X12_merges_200, b_X12_merges_144, b_X12_merges_194, b_X12_merges_161, b_X12_merges_180, b_X12_merges_177, i_lit, i_m1, i_31, il_t, il_f, iq_t, iq_f, it_t, it_f, im_e, im_l, im_g, im_g2, nI_add, pk_mul, i_sub, i_div, sdm, i_dec, i_cl, iv_t, bI_or2, bI_t0, bI_one, not_true_eq_false, not_false_eq_true, ↓reduceIte, am_tl, am_tn, am_t0, am_n0, and_true, true_and, List.cons_append, List.nil_append, List.append_nil, or_true, true_or, or_false, false_or, eq_self, ior0, iand0, im_e2, oI]
      have cont : ∀ l4, ex_ (d + 1) 268 91 [some (v_r (some 93)), some (v_i (nI c)), some (v_i (nI (ls R (n + 1)))), some (v_i (oI (mf_pick n R 0))), l4] [] h5 Q := by
        intro l4
        cases hp : mf_pick n R 0 with
        | none =>
          rw [mf_none hp, if_neg (fun w => hz ((ls_mf n).trans ((mf_len0 n).2 (mf_emp_iff.1 w)))), Option.map_none] at eq5
          rw [eq5] at k
          simp (disch := first | assumption | omega | (simp only [ya_pi, ya_pj, ya_pa, ya_pr, yo_pi, yo_pj, yo_pa, yf_pi, yf_pj, yf_pa, yh_pi, yh_pj, yh_pa, yt_pi, yt_pj, yt_pa, la_pi, la_pj, la_pa]; assumption)) only [b_X12_merges_0, b_X12_merges_21, b_X12_merges_33, b_X12_merges_203, b_X12_merges_59, b_X12_merges_91, b_X12_merges_73, b_X12_merges_105, b_X12_merges_96, b_X12_merges_78, b_X12_merges_84, b_X12_merges_200, b_X12_merges_144, b_X12_merges_194, b_X12_merges_161, b_X12_merges_180, b_X12_merges_177, i_lit, i_m1, i_31, il_t, il_f, iq_t, iq_f, it_t, it_f, im_e, im_l, im_g, im_g2, nI_add, pk_mul, i_sub, i_div, sdm, i_dec, i_cl, iv_t, bI_or2, bI_t0, bI_one, not_true_eq_false, not_false_eq_true, ↓reduceIte, am_tl, am_tn, am_t0, am_n0, and_true, true_and, List.cons_append, List.nil_append, List.append_nil, or_true, true_or, or_false, false_or, eq_self, ior0, iand0, im_e2, oI]
          exact k _ (fr5.pi (by unfold rP; omega)) (by simp (disch := first | assumption | omega | (simp only [ya_pi, ya_pj, ya_pa, ya_pr, yo_pi, yo_pj, yo_pa, yf_pi, yf_pj, yf_pa, yh_pi, yh_pj, yh_pa, yt_pi, yt_pj, yt_pa, la_pi, la_pj, la_pa]; assumption)) only [hi_s, hi_o, hi_k, hr_pi, hj_pi, hn_pi, hi_pas, hi_pao, hr_pa, hj_pa]; rfl) ro_nil
        | some x =>
          have st := mf_step inv5 hp
          obtain ⟨hf, j, hj, hh⟩ := mf_pick_mem (n + 1) 0 (by omega) hp
          have hlt := mf_len_lt hh n hj
          rw [mf_some hp] at eq5
          have x10 := st.2.1
          simp (disch := first | assumption | omega | (simp only [ya_pi, ya_pj, ya_pa, ya_pr, yo_pi, yo_pj, yo_pa, yf_pi, yf_pj, yf_pa, yh_pi, yh_pj, yh_pa, yt_pi, yt_pj, yt_pa, la_pi, la_pj, la_pa]; assumption)) only [b_X12_merges_0, b_X12_merges_21, b_X12_merges_33, b_X12_merges_203, b_X12_merges_59, b_X12_merges_91, b_X12_merges_73, b_X12_merges_105, b_X12_merges_96, b_X12_merges_78, b_X12_merges_84, b_X12_merges_200, b_X12_merges_144, b_X12_merges_194, b_X12_merges_161, b_X12_merges_180, b_X12_merges_177, i_lit, i_m1, i_31, il_t, il_f, iq_t, iq_f, it_t, it_f, im_e, im_l, im_g, im_g2, nI_add, pk_mul, i_sub, i_div, sdm, i_dec, i_cl, iv_t, bI_or2, bI_t0, bI_one, not_true_eq_false, not_false_eq_true, ↓reduceIte, am_tl, am_tn, am_t0, am_n0, and_true, true_and, List.cons_append, List.nil_append, List.append_nil, or_true, true_or, or_false, false_or, eq_self, ior0, iand0, im_e2, oI, hi_s, hi_o, hi_k, hr_pi, hj_pi, hn_pi, hi_pas, hi_pao, hr_pa, hj_pa, l5]
          have fr6 : am_fr h5 (p_i (p_i h5 99 (11 * c + (acc.length + 1)) (nI x)) 98 c (nI (acc.length + 1 + 1))) (rP c) := (am_fr_pi (by unfold rP; omega)).pi (by unfold rP; omega)
          have e98 : h_i (p_i (p_i h5 99 (11 * c + (acc.length + 1)) (nI x)) 98 c (nI (acc.length + 1 + 1))) 98 c = nI (acc.length + 1 + 1) := by simp (disch := first | assumption | omega | (simp only [ya_pi, ya_pj, ya_pa, ya_pr, yo_pi, yo_pj, yo_pa, yf_pi, yf_pj, yf_pa, yh_pi, yh_pj, yh_pa, yt_pi, yt_pj, yt_pa, la_pi, la_pj, la_pa]; assumption)) only [hi_s, hi_o, hi_k, hr_pi, hj_pi, hn_pi, hi_pas, hi_pao, hr_pa, hj_pa]
          have ro99 : ro (p_i (p_i h5 99 (11 * c + (acc.length + 1)) (nI x)) 98 c (nI (acc.length + 1 + 1))) 99 (11 * c) (c :: (acc ++ [x])) := by
            have := ro_app (q := x) ro5
            rw [List.length_cons] at this
            intro q hq
            rw [hi_o (by omega)]
            exact this q hq
          have ms6 : ∀ r, r ≤ n → rm (p_i (p_i h5 99 (11 * c + (acc.length + 1)) (nI x)) 98 c (nI (acc.length + 1 + 1))) r (R r) := fun r hr => (ms5 r hr).fr (P := fun a _ => a = 98 ∨ a = 99) ((am_fr_pi (Or.inr rfl)).pi (Or.inl rfl)) (fun k _ z => by omega) (fun z => by omega) (fun z => by omega)
          have e6 : h_i (p_i (p_i h5 99 (11 * c + (acc.length + 1)) (nI x)) 98 c (nI (acc.length + 1 + 1))) 93 23 = nI n := by simp (disch := first | assumption | omega | (simp only [ya_pi, ya_pj, ya_pa, ya_pr, yo_pi, yo_pj, yo_pa, yf_pi, yf_pj, yf_pa, yh_pi, yh_pj, yh_pa, yt_pi, yt_pj, yt_pa, la_pi, la_pj, la_pa]; assumption)) only [hi_s, hi_o, hi_k, hr_pi, hj_pi, hn_pi, hi_pas, hi_pao, hr_pa, hj_pa, e5]
          generalize p_i (p_i h5 99 (11 * c + (acc.length + 1)) (nI x)) 98 c (nI (acc.length + 1 + 1)) = h6 at fr6 e98 ro99 ms6 e6
          have L6 : Lay h6 := fr6.lay L5
          have start : ex_ (d + 1) 268 135 [some (v_r (some 93)), some (v_i (nI c)), some (v_i (nI (ls (rd x R 0) (n + 1)))), some (v_i (nI x)), some (v_i (nI 0))] [] h6 Q := by
            refine lp_up (n + 1) (fun i (_ : Unit) => [some (v_r (some 93)), some (v_i (nI c)), some (v_i (nI (ls (rd x R i) (n + 1)))), some (v_i (nI x)), some (v_i (nI i))]) (fun i _ h' => am_fr h6 h' (fun a _ => a = 101) ∧ ∀ r, r ≤ n → rm h' r (rd x R i r)) ?_ ?_ (Nat.zero_le _) ⟨am_fr.rf, by rw [rd_0]; exact ms6⟩ (s := ())
            · rintro i - h7 hi ⟨fr7, ms7⟩ nx7
              have L7 : Lay h7 := fr7.lay L6
              have e7 : h_i h7 93 23 = nI n := by rw [fr7.i (by omega), e6]
              obtain ⟨t, t1, t2, t3, t4⟩ := ms7 i (by omega)
              rw [rd_at] at t1 t3 t4
              have lsl7 := ls_le (R := rd x R i) (n + 1) (len11 ms7)
              rw [b_X12_merges_135 _ _ _ _ _ L7]
              cases eR : R i with
              | nil =>
                rw [eR, List.length_nil, Nat.add_zero] at t3
                have same := rd_n (x := x) (R := R) (i := i) (by rw [eR]; simp)
                have nxt := nx7 () h7 ⟨fr7, by rw [same]; exact ms7⟩
                rw [same] at nxt
                simp (disch := first | assumption | omega | (simp only [ya_pi, ya_pj, ya_pa, ya_pr, yo_pi, yo_pj, yo_pa, yf_pi, yf_pj, yf_pa, yh_pi, yh_pj, yh_pa, yt_pi, yt_pj, yt_pa, la_pi, la_pj, la_pa]; assumption)) only [b_X12_merges_0, b_X12_merges_21, b_X12_merges_33, b_X12_merges_203, b_X12_merges_59, b_X12_merges_91, b_X12_merges_73, b_X12_merges_105, b_X12_merges_96, b_X12_merges_78, b_X12_merges_84, b_X12_merges_200, b_X12_merges_144, b_X12_merges_194, b_X12_merges_161, b_X12_merges_180, b_X12_merges_177, i_lit, i_m1, i_31, il_t, il_f, iq_t, iq_f, it_t, it_f, im_e, im_l, im_g, im_g2, nI_add, pk_mul, i_sub, i_div, sdm, i_dec, i_cl, iv_t, bI_or2, bI_t0, bI_one, not_true_eq_false, not_false_eq_true, ↓reduceIte, am_tl, am_tn, am_t0, am_n0, and_true, true_and, List.cons_append, List.nil_append, List.append_nil, or_true, true_or, or_false, false_or, eq_self, ior0, iand0, im_e2, oI, e7, t2, t3]
                exact nxt
              | cons y l =>
                rw [eR, List.length_cons] at t1 t3
                have y10 := hx5 i (by omega) y (by rw [eR]; exact List.mem_cons_self)
                have t40 := t4 0 (by rw [eR]; simp)
                rw [Nat.add_zero, eR, List.getD_cons_zero] at t40
                by_cases e : y = x
                · subst e
                  have hh : (R i).head? = some y := by rw [eR]; rfl
                  have ry := rd_y (x := y) (R := R) (i := i) hh
                  rw [eR, List.tail_cons] at ry
                  have l1 := ls_1 (R := rd y R i) (R' := rd y R (i + 1)) (i := i) (by rw [ry, rd_at, eR]; rfl) (fun k hk => (rd_o hk).symm) (n + 1) (by omega)
                  have e1 : ls (rd y R i) (n + 1) - 1 = ls (rd y R (i + 1)) (n + 1) := by omega
                  have l2 : 1 ≤ ls (rd y R i) (n + 1) := by omega
                  simp (disch := first | assumption | omega | (simp only [ya_pi, ya_pj, ya_pa, ya_pr, yo_pi, yo_pj, yo_pa, yf_pi, yf_pj, yf_pa, yh_pi, yh_pj, yh_pa, yt_pi, yt_pj, yt_pa, la_pi, la_pj, la_pa]; assumption)) only [b_X12_merges_0, b_X12_merges_21, b_X12_merges_33, b_X12_merges_203, b_X12_merges_59, b_X12_merges_91, b_X12_merges_73, b_X12_merges_105, b_X12_merges_96, b_X12_merges_78, b_X12_merges_84, b_X12_merges_200, b_X12_merges_144, b_X12_merges_194, b_X12_merges_161, b_X12_merges_180, b_X12_merges_177, i_lit, i_m1, i_31, il_t, il_f, iq_t, iq_f, it_t, it_f, im_e, im_l, im_g, im_g2, nI_add, pk_mul, i_sub, i_div, sdm, i_dec, i_cl, iv_t, bI_or2, bI_t0, bI_one, not_true_eq_false, not_false_eq_true, ↓reduceIte, am_tl, am_tn, am_t0, am_n0, and_true, true_and, List.cons_append, List.nil_append, List.append_nil, or_true, true_or, or_false, false_or, eq_self, ior0, iand0, im_e2, oI, e7, t2, t3, t40, e1]
                  refine nx7 () _ ⟨fr7.pi rfl, fun r hr => ?_⟩
                  by_cases z : r = i
                  · subst z
                    rw [ry]
                    refine ⟨t + 1, by omega, by simp (disch := first | assumption | omega | (simp only [ya_pi, ya_pj, ya_pa, ya_pr, yo_pi, yo_pj, yo_pa, yf_pi, yf_pj, yf_pa, yh_pi, yh_pj, yh_pa, yt_pi, yt_pj, yt_pa, la_pi, la_pj, la_pa]; assumption)) only [hi_s, hi_o, hi_k, hr_pi, hj_pi, hn_pi, hi_pas, hi_pao, hr_pa, hj_pa]; rfl, ?_, ?_⟩
                    · simp (disch := first | assumption | omega | (simp only [ya_pi, ya_pj, ya_pa, ya_pr, yo_pi, yo_pj, yo_pa, yf_pi, yf_pj, yf_pa, yh_pi, yh_pj, yh_pa, yt_pi, yt_pj, yt_pa, la_pi, la_pj, la_pa]; assumption)) only [hi_s, hi_o, hi_k, hr_pi, hj_pi, hn_pi, hi_pas, hi_pao, hr_pa, hj_pa, t3]
                      exact congrArg nI (by omega)
                    · intro j hj
                      have := t4 (j + 1) (by rw [eR, List.length_cons]; omega)
                      rw [hi_o (by omega), show 11 * r + (t + 1) + j = 11 * r + t + (j + 1) from by omega, this, eR]
                      rfl
                  · rw [rd_o z]
                    exact (ms7 r hr).fr (P := fun a k => a = 101 ∧ k = i) (am_fr_pi ⟨rfl, rfl⟩) (fun k _ z => by omega) (fun z => by omega) (fun z => by omega)
                · have same := rd_n (x := x) (R := R) (i := i) (by rw [eR]; intro z; exact e (Option.some.inj z))
                  have nxt := nx7 () h7 ⟨fr7, by rw [same]; exact ms7⟩
                  rw [same] at nxt
                  simp (disch := first | assumption | omega | (simp only [ya_pi, ya_pj, ya_pa, ya_pr, yo_pi, yo_pj, yo_pa, yf_pi, yf_pj, yf_pa, yh_pi, yh_pj, yh_pa, yt_pi, yt_pj, yt_pa, la_pi, la_pj, la_pa]; assumption)) only [b_X12_merges_0, b_X12_merges_21, b_X12_merges_33, b_X12_merges_203, b_X12_merges_59, b_X12_merges_91, b_X12_merges_73, b_X12_merges_105, b_X12_merges_96, b_X12_merges_78, b_X12_merges_84, b_X12_merges_200, b_X12_merges_144, b_X12_merges_194, b_X12_merges_161, b_X12_merges_180, b_X12_merges_177, i_lit, i_m1, i_31, il_t, il_f, iq_t, iq_f, it_t, it_f, im_e, im_l, im_g, im_g2, nI_add, pk_mul, i_sub, i_div, sdm, i_dec, i_cl, iv_t, bI_or2, bI_t0, bI_one, not_true_eq_false, not_false_eq_true, ↓reduceIte, am_tl, am_tn, am_t0, am_n0, and_true, true_and, List.cons_append, List.nil_append, List.append_nil, or_true, true_or, or_false, false_or, eq_self, ior0, iand0, im_e2, oI, e7, t2, t3, t40]
                  exact nxt
            · rintro - h7 ⟨fr7, ms7⟩
              have L7 : Lay h7 := fr7.lay L6
              have e7 : h_i h7 93 23 = nI n := by rw [fr7.i (by omega), e6]
              have last : ∀ r, r ≤ n → rd x R (n + 1) r = mf_drop x R r := fun r hr => if_pos (by omega)
              rw [b_X12_merges_135 _ _ _ _ _ L7]
              simp (disch := first | assumption | omega | (simp only [ya_pi, ya_pj, ya_pa, ya_pr, yo_pi, yo_pj, yo_pa, yf_pi, yf_pj, yf_pa, yh_pi, yh_pj, yh_pa, yt_pi, yt_pj, yt_pa, la_pi, la_pj, la_pa]; assumption)) only [b_X12_merges_0, b_X12_merges_21, b_X12_merges_33, b_X12_merges_203, b_X12_merges_59, b_X12_merges_91, b_X12_merges_73, b_X12_merges_105, b_X12_merges_96, b_X12_merges_78, b_X12_merges_84, b_X12_merges_200, b_X12_merges_144, b_X12_merges_194, b_X12_merges_161, b_X12_merges_180, b_X12_merges_177, i_lit, i_m1, i_31, il_t, il_f, iq_t, iq_f, it_t, it_f, im_e, im_l, im_g, im_g2, nI_add, pk_mul, i_sub, i_div, sdm, i_dec, i_cl, iv_t, bI_or2, bI_t0, bI_one, not_true_eq_false, not_false_eq_true, ↓reduceIte, am_tl, am_tn, am_t0, am_n0, and_true, true_and, List.cons_append, List.nil_append, List.append_nil, or_true, true_or, or_false, false_or, eq_self, ior0, iand0, im_e2, oI, e7]
              rw [ls_ext (R' := mf_drop x R) (n + 1) (fun k hk => last k (by omega))]
              refine nx (acc ++ [x], mf_drop x R, _, _) h7 hlt ⟨(fr5.tr fr6).tr (fr7.le (fun a k z => by unfold rP; omega)), e7, fun r hr => by have := ms7 r hr; rw [last r hr] at this; exact this, st.1, ?_, ?_, ?_⟩
              · rw [fr7.i (by omega), e98, List.length_append, List.length_singleton]
              · exact fr7.ro ro99 (fun k _ z => by omega)
              · dsimp only
                rw [eq5, Option.map_map]
                congr 1
                funext l
                simp
          rw [rd_0] at start
          exact start
      refine lp_up (n + 1) (fun i (s : Int32) => [some (v_r (some 93)), some (v_i (nI c)), some (v_i (nI (ls R (n + 1)))), some (v_i s), some (v_i (nI i))]) (fun i s h' => h' = h5 ∧ ((s = mI ∧ mf_pick n R i = mf_pick n R 0) ∨ ∃ x, s = nI x ∧ x < 10 ∧ mf_pick n R 0 = some x)) ?_ ?_ (Nat.zero_le _) ⟨rfl, Or.inl ⟨rfl, rfl⟩⟩ (s := mI)
      · rintro i s h6 hi ⟨rfl, e⟩ nx6
        rw [b_X12_merges_64 _ _ _ _ _ L5]
        rcases e with ⟨rfl, e⟩ | ⟨x, rfl, x10, e⟩
        · simp (disch := first | assumption | omega | (simp only [ya_pi, ya_pj, ya_pa, ya_pr, yo_pi, yo_pj, yo_pa, yf_pi, yf_pj, yf_pa, yh_pi, yh_pj, yh_pa, yt_pi, yt_pj, yt_pa, la_pi, la_pj, la_pa]; assumption)) only [b_X12_merges_0, b_X12_merges_21, b_X12_merges_33, b_X12_merges_203, b_X12_merges_59, b_X12_merges_73, b_X12_merges_105, b_X12_merges_96, b_X12_merges_78, b_X12_merges_84, b_X12_merges_200, b_X12_merges_144, b_X12_merges_194, b_X12_merges_161, b_X12_merges_180, b_X12_merges_177, i_lit, i_m1, i_31, il_t, il_f, iq_t, iq_f, it_t, it_f, im_e, im_l, im_g, im_g2, nI_add, pk_mul, i_sub, i_div, sdm, i_dec, i_cl, iv_t, bI_or2, bI_t0, bI_one, not_true_eq_false, not_false_eq_true, ↓reduceIte, am_tl, am_tn, am_t0, am_n0, and_true, true_and, List.cons_append, List.nil_append, List.append_nil, or_true, true_or, or_false, false_or, eq_self, ior0, iand0, im_e2, oI, e5, c_givenBy L5 (by omega) e5 (show i ≤ n by omega) ms5 hx5]
          refine nx6 _ h6 ⟨rfl, ?_⟩
          rw [gb_pick (by omega)] at e
          cases hg : gb n R i with
          | none =>
            rw [hg] at e
            exact Or.inl ⟨rfl, e⟩
          | some x =>
            rw [hg] at e
            refine Or.inr ⟨x, rfl, ?_, e.symm⟩
            obtain ⟨hf, j, hj, hh⟩ := mf_pick_mem (n + 1) 0 (by omega) e.symm
            exact hx5 j hj x (List.mem_of_head? hh)
        · have := cont (some (v_i (nI i)))
          rw [e] at this
          simp (disch := first | assumption | omega | (simp only [ya_pi, ya_pj, ya_pa, ya_pr, yo_pi, yo_pj, yo_pa, yf_pi, yf_pj, yf_pa, yh_pi, yh_pj, yh_pa, yt_pi, yt_pj, yt_pa, la_pi, la_pj, la_pa]; assumption)) only [b_X12_merges_0, b_X12_merges_21, b_X12_merges_33, b_X12_merges_203, b_X12_merges_59, b_X12_merges_73, b_X12_merges_105, b_X12_merges_96, b_X12_merges_78, b_X12_merges_84, b_X12_merges_200, b_X12_merges_144, b_X12_merges_194, b_X12_merges_161, b_X12_merges_180, b_X12_merges_177, i_lit, i_m1, i_31, il_t, il_f, iq_t, iq_f, it_t, it_f, im_e, im_l, im_g, im_g2, nI_add, pk_mul, i_sub, i_div, sdm, i_dec, i_cl, iv_t, bI_or2, bI_t0, bI_one, not_true_eq_false, not_false_eq_true, ↓reduceIte, am_tl, am_tn, am_t0, am_n0, and_true, true_and, List.cons_append, List.nil_append, List.append_nil, or_true, true_or, or_false, false_or, eq_self, ior0, iand0, im_e2, oI, e5]
          exact this
      · rintro s h6 ⟨rfl, e⟩
        rw [b_X12_merges_64 _ _ _ _ _ L5]
        simp (disch := first | assumption | omega | (simp only [ya_pi, ya_pj, ya_pa, ya_pr, yo_pi, yo_pj, yo_pa, yf_pi, yf_pj, yf_pa, yh_pi, yh_pj, yh_pa, yt_pi, yt_pj, yt_pa, la_pi, la_pj, la_pa]; assumption)) only [b_X12_merges_0, b_X12_merges_21, b_X12_merges_33, b_X12_merges_203, b_X12_merges_59, b_X12_merges_73, b_X12_merges_105, b_X12_merges_96, b_X12_merges_78, b_X12_merges_84, b_X12_merges_200, b_X12_merges_144, b_X12_merges_194, b_X12_merges_161, b_X12_merges_180, b_X12_merges_177, i_lit, i_m1, i_31, il_t, il_f, iq_t, iq_f, it_t, it_f, im_e, im_l, im_g, im_g2, nI_add, pk_mul, i_sub, i_div, sdm, i_dec, i_cl, iv_t, bI_or2, bI_t0, bI_one, not_true_eq_false, not_false_eq_true, ↓reduceIte, am_tl, am_tn, am_t0, am_n0, and_true, true_and, List.cons_append, List.nil_append, List.append_nil, or_true, true_or, or_false, false_or, eq_self, ior0, iand0, im_e2, oI, e5]
        have := cont (some (v_i (nI (n + 1))))
        rcases e with ⟨rfl, e⟩ | ⟨x, rfl, x10, e⟩
        · rw [mf_pick_out (by omega)] at e
          rw [← e] at this
          exact this
        · rw [e] at this
          exact this
  · dsimp only
    rw [fr2.i (by unfold rM; omega), s1]
    rfl
  · intro j hj
    dsimp only at hj
    simp at hj
    subst hj
    rw [fr2.i (by unfold rM; omega), Nat.add_zero, s2]
    rfl
  · dsimp only
    cases mf n R0 with
    | none => rfl
    | some l => rfl
