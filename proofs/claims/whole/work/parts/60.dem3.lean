def dq (h : am_H) (D : Nat → Nat → Bool) : Prop := ∀ a, a < 10 → h_i h 106 a = nI (bs (D a))
def r6 (a k : Nat) : Prop := a = 106
theorem dq_add {h : am_H} {D : Nat → Nat → Bool} (R : dq h D) {x y : Nat} (hx : x < 10) : dq (p_i h 106 x (nI (bs (dadd D x y x)))) (dadd D x y) := fun a ha => by
  by_cases z : a = x
  · rw [z, hi_s]
  · rw [hi_k z, R a ha, b_addn z]
theorem b_add1' {D : Nat → Nat → Bool} {x y : Nat} : nI (bs (fun k => D x k || decide (k = y))) = nI (bs (dadd D x y x)) := congrArg nI (bs_ext (fun k _ => by simp [dadd]))
theorem c_demandsRow {d : Nat} {Q : Option am_V → am_H → Prop} {h : am_H} {D : Nat → Nat → Bool} {s : Nat} {R : List Nat} (L0 : Lay h) (ro0 : ro h 103 s R) (hs : s + R.length ≤ 55) (hR : ∀ x ∈ R, x < 10) (q0 : dq h D) {l3 l4 : Option am_V} (k : ∀ D' h', am_fr h h' r6 → dq h' D' → (∀ a b, D' a b = true ↔ D a b = true ∨ pc R a b) → Q none h') : ex_ d 310 0 [some (v_r (some 93)), some (v_i (nI s)), some (v_i (nI R.length)), l3, l4] [] h Q := by
  rw [b_X12_demandsRow_0 _ _ _ _ _ _]
  refine lp_up R.length (fun i (t : (Nat → Nat → Bool) × Option am_V) => [some (v_r (some 93)), some (v_i (nI s)), some (v_i (nI R.length)), some (v_i (nI i)), t.2]) (fun i t h' => am_fr h h' r6 ∧ dq h' t.1 ∧ ∀ a b, t.1 a b = true ↔ D a b = true ∨ pcU R i 0 a b) ?_ ?_ (Nat.zero_le _) ⟨am_fr.rf, q0, fun a b => by rw [pcU_0, or_false]⟩ (s := (D, l4))
  · rintro i ⟨D1, l4⟩ h' hi ⟨fr, R1, e⟩ nx
    dsimp only at R1 e ⊢
    rw [b_X12_demandsRow_2 _ _ _ _ _ _]
    simp (disch := first | assumption | omega | (simp only [ya_pi, ya_pj, ya_pa, ya_pr, yo_pi, yo_pj, yo_pa, yf_pi, yf_pj, yf_pa, yh_pi, yh_pj, yh_pa, yt_pi, yt_pj, yt_pa, la_pi, la_pj, la_pa]; assumption)) only [b_X12_demandsRow_0, b_X12_demandsRow_57, b_X12_demandsRow_7, b_X12_demandsRow_51, b_X12_demandsRow_18, i_lit, i_m1, i_31, il_t, il_f, iq_t, iq_f, it_t, it_f, im_e, im_l, im_g, im_g2, nI_add, pk_mul, i_sub, i_div, sdm, i_dec, i_cl, iv_t, bI_or2, bI_t0, bI_one, not_true_eq_false, not_false_eq_true, ↓reduceIte, am_tl, am_tn, am_t0, am_n0, and_true, true_and, List.cons_append, List.nil_append, List.append_nil, or_true, true_or, or_false, false_or, eq_self, ior0, iand0, im_e2, oI]
    have L2 := lp_up (d := d) (k := 310) (pc := 12) (Q := Q) (R.length - (i + 1)) (fun j (_ : Nat → Nat → Bool) => [some (v_r (some 93)), some (v_i (nI s)), some (v_i (nI R.length)), some (v_i (nI i)), some (v_i (nI (i + 1 + j)))]) (fun j D2 h2 => am_fr h h2 r6 ∧ dq h2 D2 ∧ ∀ a b, D2 a b = true ↔ D a b = true ∨ pcU R i (i + 1 + j) a b) ?_ ?_ (Nat.zero_le _) (s := D1) (h := h') ⟨fr, R1, fun a b => by rw [e a b, pcU_i]⟩
    · exact L2
    · rintro j D2 h2 hj ⟨fr2, R2, e2⟩ nx2
      have L2 : Lay h2 := fr2.lay L0
      have x1 := hR _ (gd_mem hi)
      have x2 := hR _ (gd_mem (show i + 1 + j < R.length by omega))
      have e3 : h_i h2 103 (s + i) = nI (R.getD i 0) := by rw [fr2.i (by unfold r6; omega)]; exact ro0 i hi
      have e4 : h_i h2 103 (s + (i + 1 + j)) = nI (R.getD (i + 1 + j) 0) := by rw [fr2.i (by unfold r6; omega)]; exact ro0 _ (by omega)
      have e5 := R2 _ x1
      rw [b_X12_demandsRow_12 _ _ _ _ _ _]
      simp (disch := first | assumption | omega | (simp only [ya_pi, ya_pj, ya_pa, ya_pr, yo_pi, yo_pj, yo_pa, yf_pi, yf_pj, yf_pa, yh_pi, yh_pj, yh_pa, yt_pi, yt_pj, yt_pa, la_pi, la_pj, la_pa]; assumption)) only [b_X12_demandsRow_0, b_X12_demandsRow_57, b_X12_demandsRow_7, b_X12_demandsRow_51, b_X12_demandsRow_18, i_lit, i_m1, i_31, il_t, il_f, iq_t, iq_f, it_t, it_f, im_e, im_l, im_g, im_g2, nI_add, pk_mul, i_sub, i_div, sdm, i_dec, i_cl, iv_t, bI_or2, bI_t0, bI_one, not_true_eq_false, not_false_eq_true, ↓reduceIte, am_tl, am_tn, am_t0, am_n0, and_true, true_and, List.cons_append, List.nil_append, List.append_nil, or_true, true_or, or_false, false_or, eq_self, ior0, iand0, im_e2, oI, e3, e4, e5, i_31, b_add1']
      refine nx2 _ _ ⟨fr2.pi rfl, dq_add R2 x1, fun a b => ?_⟩
      rw [dadd_iff, e2 a b, ← Nat.add_assoc, pcU_s (by omega) (by omega), or_assoc]
    · rintro D2 h2 ⟨fr2, R2, e2⟩
      rw [b_X12_demandsRow_12 _ _ _ _ _ _]
      simp (disch := first | assumption | omega | (simp only [ya_pi, ya_pj, ya_pa, ya_pr, yo_pi, yo_pj, yo_pa, yf_pi, yf_pj, yf_pa, yh_pi, yh_pj, yh_pa, yt_pi, yt_pj, yt_pa, la_pi, la_pj, la_pa]; assumption)) only [b_X12_demandsRow_0, b_X12_demandsRow_57, b_X12_demandsRow_7, b_X12_demandsRow_51, b_X12_demandsRow_18, i_lit, i_m1, i_31, il_t, il_f, iq_t, iq_f, it_t, it_f, im_e, im_l, im_g, im_g2, nI_add, pk_mul, i_sub, i_div, sdm, i_dec, i_cl, iv_t, bI_or2, bI_t0, bI_one, not_true_eq_false, not_false_eq_true, ↓reduceIte, am_tl, am_tn, am_t0, am_n0, and_true, true_and, List.cons_append, List.nil_append, List.append_nil, or_true, true_or, or_false, false_or, eq_self, ior0, iand0, im_e2, oI]
      refine nx (D2, _) h2 ⟨fr2, R2, fun a b => ?_⟩
      rw [e2 a b, show i + 1 + (R.length - (i + 1)) = R.length from by omega, pcU_e]
  · rintro ⟨D1, l4⟩ h' ⟨fr, R1, e⟩
    dsimp only at R1 e ⊢
    rw [b_X12_demandsRow_2 _ _ _ _ _ _]
    simp (disch := first | assumption | omega | (simp only [ya_pi, ya_pj, ya_pa, ya_pr, yo_pi, yo_pj, yo_pa, yf_pi, yf_pj, yf_pa, yh_pi, yh_pj, yh_pa, yt_pi, yt_pj, yt_pa, la_pi, la_pj, la_pa]; assumption)) only [b_X12_demandsRow_0, b_X12_demandsRow_57, b_X12_demandsRow_7, b_X12_demandsRow_51, b_X12_demandsRow_18, i_lit, i_m1, i_31, il_t, il_f, iq_t, iq_f, it_t, it_f, im_e, im_l, im_g, im_g2, nI_add, pk_mul, i_sub, i_div, sdm, i_dec, i_cl, iv_t, bI_or2, bI_t0, bI_one, not_true_eq_false, not_false_eq_true, ↓reduceIte, am_tl, am_tn, am_t0, am_n0, and_true, true_and, List.cons_append, List.nil_append, List.append_nil, or_true, true_or, or_false, false_or, eq_self, ior0, iand0, im_e2, oI]
    exact k D1 h' fr R1 (fun a b => by rw [e a b, pcU_a])
/-- the reference's cells that a question may change -/
def rS (a k : Nat) : Prop := (97 ≤ a ∧ a ≤ 114) ∨ (a = 93 ∧ ¬ k = 5 ∧ ¬ k = 13 ∧ ¬ k = 14)
theorem rA.S {a k : Nat} (z : rA a k) : rS a k := by unfold rA at z; unfold rS; omega
def rD (a k : Nat) : Prop := rQ a k ∨ rM a k ∨ a = 106
theorem rD.S {a k : Nat} (z : rD a k) : rS a k := by unfold rD rQ rM at z; unfold rS; omega
theorem pc_nil {a b : Nat} : pc [] a b ↔ False := ⟨fun ⟨i, j, h1, h2, _⟩ => absurd h2 (Nat.not_lt_zero _), fun z => z.elim⟩
theorem c_laysDemands {d : Nat} {Q : Option am_V → am_H → Prop} {h : am_H} {f : fa_S} {T : od_T} {c : Nat} (ok : fa_ok f) (F : rfa h f) (A : ra h T (f_n f)) (okT : od_ok T (f_n f)) (hc : c < f_n f) {l2 : Option am_V} (k : ∀ h', am_fr h h' rD → dq h' (dmb T c (f_p f c)) → Q none h') : ex_ (d + 2) 311 0 [some (v_r (some 93)), some (v_i (nI c)), l2] [] h Q := by
  have L0 := F.1
  have hn := ok.1
  have h4 := (ok.2 c).1
  have hps : ∀ p ∈ f_p f c, p < c := (ok.2 c).2.1
  rw [b_X12_laysDemands_0 _ _ _ _]
  refine lp_up 10 (fun i (_ : Unit) => [some (v_r (some 93)), some (v_i (nI c)), some (v_i (nI i))]) (fun i _ h' => am_fr h h' r6 ∧ ∀ a, a < i → h_i h' 106 a = nI 0) ?_ ?_ (Nat.zero_le _) ⟨am_fr.rf, fun k hk => absurd hk (Nat.not_lt_zero _)⟩ (s := ())
  · rintro i - h' hi ⟨fr, e⟩ nx
    have L1 : Lay h' := fr.lay L0
    rw [b_X12_laysDemands_2 _ _ _ _]
    simp (disch := first | assumption | omega | (simp only [ya_pi, ya_pj, ya_pa, ya_pr, yo_pi, yo_pj, yo_pa, yf_pi, yf_pj, yf_pa, yh_pi, yh_pj, yh_pa, yt_pi, yt_pj, yt_pa, la_pi, la_pj, la_pa]; assumption)) only [b_X12_laysDemands_0, b_X12_laysDemands_21, b_X12_laysDemands_8, b_X12_laysDemands_26, b_X12_laysDemands_30, b_X12_laysDemands_69, b_X12_laysDemands_40, b_X12_laysDemands_63, b_X12_laysDemands_102, b_X12_laysDemands_79, i_lit, i_m1, i_31, il_t, il_f, iq_t, iq_f, it_t, it_f, im_e, im_l, im_g, im_g2, nI_add, pk_mul, i_sub, i_div, sdm, i_dec, i_cl, iv_t, bI_or2, bI_t0, bI_one, not_true_eq_false, not_false_eq_true, ↓reduceIte, am_tl, am_tn, am_t0, am_n0, and_true, true_and, List.cons_append, List.nil_append, List.append_nil, or_true, true_or, or_false, false_or, eq_self, ior0, iand0, im_e2, oI]
    refine nx () _ ⟨fr.pi rfl, fun a ha => ?_⟩
    by_cases z : a = i
    · rw [z, hi_s]
    · rw [hi_k z]
      exact e a (by omega)
  rintro - h1 ⟨fr1, e1⟩
  have F1 : rfa h1 f := fr1.rfa ok F (fun k _ => by unfold r6; omega)
  have L1 := F1.1
  rw [b_X12_laysDemands_2 _ _ _ _]
  simp (disch := first | assumption | omega | (simp only [ya_pi, ya_pj, ya_pa, ya_pr, yo_pi, yo_pj, yo_pa, yf_pi, yf_pj, yf_pa, yh_pi, yh_pj, yh_pa, yt_pi, yt_pj, yt_pa, la_pi, la_pj, la_pa]; assumption)) only [b_X12_laysDemands_0, b_X12_laysDemands_21, b_X12_laysDemands_8, b_X12_laysDemands_26, b_X12_laysDemands_30, b_X12_laysDemands_69, b_X12_laysDemands_40, b_X12_laysDemands_63, b_X12_laysDemands_102, b_X12_laysDemands_79, i_lit, i_m1, i_31, il_t, il_f, iq_t, iq_f, it_t, it_f, im_e, im_l, im_g, im_g2, nI_add, pk_mul, i_sub, i_div, sdm, i_dec, i_cl, iv_t, bI_or2, bI_t0, bI_one, not_true_eq_false, not_false_eq_true, ↓reduceIte, am_tl, am_tn, am_t0, am_n0, and_true, true_and, List.cons_append, List.nil_append, List.append_nil, or_true, true_or, or_false, false_or, eq_self, ior0, iand0, im_e2, oI]
  refine c_laysParents ok F1 (by omega) (fun h2 fr2 p2 => ?_)
  have L2 : Lay h2 := fr2.lay L1
  have fr12 : am_fr h h2 rD := (fr1.le (fun a k z => Or.inr (Or.inr z))).tr (fr2.le (fun a k z => Or.inl z))
  have A2 : ra h2 T (f_n f) := A.fr okT fr12 (fun a k _ _ => by unfold rD rQ rM; omega)
  simp (disch := first | assumption | omega | (simp only [ya_pi, ya_pj, ya_pa, ya_pr, yo_pi, yo_pj, yo_pa, yf_pi, yf_pj, yf_pa, yh_pi, yh_pj, yh_pa, yt_pi, yt_pj, yt_pa, la_pi, la_pj, la_pa]; assumption)) only [b_X12_laysDemands_0, b_X12_laysDemands_21, b_X12_laysDemands_8, b_X12_laysDemands_26, b_X12_laysDemands_30, b_X12_laysDemands_69, b_X12_laysDemands_40, b_X12_laysDemands_63, b_X12_laysDemands_102, b_X12_laysDemands_79, i_lit, i_m1, i_31, il_t, il_f, iq_t, iq_f, it_t, it_f, im_e, im_l, im_g, im_g2, nI_add, pk_mul, i_sub, i_div, sdm, i_dec, i_cl, iv_t, bI_or2, bI_t0, bI_one, not_true_eq_false, not_false_eq_true, ↓reduceIte, am_tl, am_tn, am_t0, am_n0, and_true, true_and, List.cons_append, List.nil_append, List.append_nil, or_true, true_or, or_false, false_or, eq_self, ior0, iand0, im_e2, oI]
  refine c_laysRows (T := T) L2 h4 p2 (fun p hp => ?_) (fun h3 fr3 ms => ?_)
  · have hp2 := hps p hp
    have okp := okT p (by omega)
    exact ⟨by omega, A2.2 p (by omega), by omega⟩
  have L3 : Lay h3 := fr3.lay L2
  have p3 : rp h3 (f_p f c) := p2.fr fr3 (by unfold rM; omega) (fun k => by unfold rM; omega)
  have fr13 : am_fr h h3 rD := fr12.tr (fr3.le (fun a k z => Or.inr (Or.inl z)))
  have e23 := p3.1
  have q3 : dq h3 (fun _ _ => false) := fun a ha => by
    rw [fr3.i (by unfold rM; omega), fr2.i (by unfold rQ; omega), e1 a ha]
    exact congrArg nI bs_0.symm
  have hR : ∀ r, r ≤ (f_p f c).length → (∀ x ∈ od_R T (f_p f c) r, x < 10) := by
    intro r hr x hx
    unfold od_R at hx
    split at hx
    · rename_i z
      have := hps _ (gd_mem z)
      exact (okT _ (by omega)).2.2.2.1 x hx
    · split at hx
      · have := hps x hx
        omega
      · cases hx
  have last : ∀ a b, (∃ t, t < (f_p f c).length + 1 ∧ pc (od_R T (f_p f c) t) a b) ↔ pc (f_p f c) a b ∨ ∃ p ∈ f_p f c, pc (T p).2 a b := by
    intro a b
    constructor
    · rintro ⟨t, ht, hp⟩
      unfold od_R at hp
      split at hp
      · rename_i z
        exact Or.inr ⟨_, gd_mem z, hp⟩
      · rw [if_pos (by omega)] at hp
        exact Or.inl hp
    · rintro (hp | ⟨p, hp, hp2⟩)
      · exact ⟨(f_p f c).length, by omega, by rw [od_R, if_neg (by omega), if_pos rfl]; exact hp⟩
      · obtain ⟨t, ht, et⟩ := gd_ex hp
        exact ⟨t, by omega, by rw [od_R, if_pos ht, et]; exact hp2⟩
  generalize od_R T (f_p f c) = R at ms hR last
  simp (disch := first | assumption | omega | (simp only [ya_pi, ya_pj, ya_pa, ya_pr, yo_pi, yo_pj, yo_pa, yf_pi, yf_pj, yf_pa, yh_pi, yh_pj, yh_pa, yt_pi, yt_pj, yt_pa, la_pi, la_pj, la_pa]; assumption)) only [b_X12_laysDemands_0, b_X12_laysDemands_21, b_X12_laysDemands_8, b_X12_laysDemands_26, b_X12_laysDemands_30, b_X12_laysDemands_69, b_X12_laysDemands_40, b_X12_laysDemands_63, b_X12_laysDemands_102, b_X12_laysDemands_79, i_lit, i_m1, i_31, il_t, il_f, iq_t, iq_f, it_t, it_f, im_e, im_l, im_g, im_g2, nI_add, pk_mul, i_sub, i_div, sdm, i_dec, i_cl, iv_t, bI_or2, bI_t0, bI_one, not_true_eq_false, not_false_eq_true, ↓reduceIte, am_tl, am_tn, am_t0, am_n0, and_true, true_and, List.cons_append, List.nil_append, List.append_nil, or_true, true_or, or_false, false_or, eq_self, ior0, iand0, im_e2, oI]
  refine lp_up ((f_p f c).length + 1) (fun i (_ : Nat → Nat → Bool) => [some (v_r (some 93)), some (v_i (nI c)), some (v_i (nI i))]) (fun i D h' => am_fr h3 h' r6 ∧ dq h' D ∧ ∀ a b, D a b = true ↔ ∃ t, t < i ∧ pc (R t) a b) ?_ ?_ (Nat.zero_le _) ⟨am_fr.rf, q3, fun a b => by rw [ex_0]; simp⟩ (s := fun _ _ => false)
  · rintro i D h' hi ⟨fr, q, e⟩ nx
    have L' : Lay h' := fr.lay L3
    have e23' : h_i h' 93 23 = nI (f_p f c).length := by rw [fr.i (by unfold r6; omega), e23]
    obtain ⟨t, t1, t2, t3, t4⟩ := (ms i (by omega)).fr fr (fun k _ => by unfold r6; omega) (by unfold r6; omega) (by unfold r6; omega)
    have el : 11 * i + t + (R i).length - (11 * i + t) = (R i).length := by omega
    rw [b_X12_laysDemands_32 _ _ _ L']
    simp (disch := first | assumption | omega | (simp only [ya_pi, ya_pj, ya_pa, ya_pr, yo_pi, yo_pj, yo_pa, yf_pi, yf_pj, yf_pa, yh_pi, yh_pj, yh_pa, yt_pi, yt_pj, yt_pa, la_pi, la_pj, la_pa]; assumption)) only [b_X12_laysDemands_0, b_X12_laysDemands_21, b_X12_laysDemands_8, b_X12_laysDemands_26, b_X12_laysDemands_30, b_X12_laysDemands_69, b_X12_laysDemands_40, b_X12_laysDemands_63, b_X12_laysDemands_102, b_X12_laysDemands_79, i_lit, i_m1, i_31, il_t, il_f, iq_t, iq_f, it_t, it_f, im_e, im_l, im_g, im_g2, nI_add, pk_mul, i_sub, i_div, sdm, i_dec, i_cl, iv_t, bI_or2, bI_t0, bI_one, not_true_eq_false, not_false_eq_true, ↓reduceIte, am_tl, am_tn, am_t0, am_n0, and_true, true_and, List.cons_append, List.nil_append, List.append_nil, or_true, true_or, or_false, false_or, eq_self, ior0, iand0, im_e2, oI, e23', t2, t3, el]
    refine c_demandsRow L' t4 (by omega) (hR i (by omega)) q (fun D' h4 fr4 q4 e4 => ?_)
    simp (disch := first | assumption | omega | (simp only [ya_pi, ya_pj, ya_pa, ya_pr, yo_pi, yo_pj, yo_pa, yf_pi, yf_pj, yf_pa, yh_pi, yh_pj, yh_pa, yt_pi, yt_pj, yt_pa, la_pi, la_pj, la_pa]; assumption)) only [b_X12_laysDemands_0, b_X12_laysDemands_21, b_X12_laysDemands_8, b_X12_laysDemands_26, b_X12_laysDemands_30, b_X12_laysDemands_69, b_X12_laysDemands_40, b_X12_laysDemands_63, b_X12_laysDemands_102, b_X12_laysDemands_79, i_lit, i_m1, i_31, il_t, il_f, iq_t, iq_f, it_t, it_f, im_e, im_l, im_g, im_g2, nI_add, pk_mul, i_sub, i_div, sdm, i_dec, i_cl, iv_t, bI_or2, bI_t0, bI_one, not_true_eq_false, not_false_eq_true, ↓reduceIte, am_tl, am_tn, am_t0, am_n0, and_true, true_and, List.cons_append, List.nil_append, List.append_nil, or_true, true_or, or_false, false_or, eq_self, ior0, iand0, im_e2, oI]
    exact nx D' h4 ⟨fr.tr fr4, q4, fun a b => by rw [e4 a b, e a b, ex_s]⟩
  · rintro D h' ⟨fr, q, e⟩
    have L' : Lay h' := fr.lay L3
    have e23' : h_i h' 93 23 = nI (f_p f c).length := by rw [fr.i (by unfold r6; omega), e23]
    rw [b_X12_laysDemands_32 _ _ _ L']
    simp (disch := first | assumption | omega | (simp only [ya_pi, ya_pj, ya_pa, ya_pr, yo_pi, yo_pj, yo_pa, yf_pi, yf_pj, yf_pa, yh_pi, yh_pj, yh_pa, yt_pi, yt_pj, yt_pa, la_pi, la_pj, la_pa]; assumption)) only [b_X12_laysDemands_0, b_X12_laysDemands_21, b_X12_laysDemands_8, b_X12_laysDemands_26, b_X12_laysDemands_30, b_X12_laysDemands_69, b_X12_laysDemands_40, b_X12_laysDemands_63, b_X12_laysDemands_102, b_X12_laysDemands_79, i_lit, i_m1, i_31, il_t, il_f, iq_t, iq_f, it_t, it_f, im_e, im_l, im_g, im_g2, nI_add, pk_mul, i_sub, i_div, sdm, i_dec, i_cl, iv_t, bI_or2, bI_t0, bI_one, not_true_eq_false, not_false_eq_true, ↓reduceIte, am_tl, am_tn, am_t0, am_n0, and_true, true_and, List.cons_append, List.nil_append, List.append_nil, or_true, true_or, or_false, false_or, eq_self, ior0, iand0, im_e2, oI, e23']
    refine lp_up (f_p f c).length (fun i (_ : Nat → Nat → Bool) => [some (v_r (some 93)), some (v_i (nI c)), some (v_i (nI i))]) (fun i D2 h2 => am_fr h3 h2 r6 ∧ dq h2 D2 ∧ ∀ a b, D2 a b = true ↔ D a b = true ∨ ∃ t, t < i ∧ (a = c ∧ b = (f_p f c).getD t 0)) ?_ ?_ (Nat.zero_le _) ⟨fr, q, fun a b => by rw [ex_0]; simp⟩ (s := D)
    · rintro i D2 h2 hi ⟨fr2, q2, e2⟩ nx
      have L2 : Lay h2 := fr2.lay L3
      have e23' : h_i h2 93 23 = nI (f_p f c).length := by rw [fr2.i (by unfold r6; omega), e23]
      have e104 : h_i h2 104 i = nI ((f_p f c).getD i 0) := by
        have := p3.2 i hi
        rw [Nat.zero_add] at this
        rw [fr2.i (by unfold r6; omega), this]
      have hp := hps _ (gd_mem hi)
      have e5 := q2 c (by omega)
      rw [b_X12_laysDemands_71 _ _ _ L2]
      simp (disch := first | assumption | omega | (simp only [ya_pi, ya_pj, ya_pa, ya_pr, yo_pi, yo_pj, yo_pa, yf_pi, yf_pj, yf_pa, yh_pi, yh_pj, yh_pa, yt_pi, yt_pj, yt_pa, la_pi, la_pj, la_pa]; assumption)) only [b_X12_laysDemands_0, b_X12_laysDemands_21, b_X12_laysDemands_8, b_X12_laysDemands_26, b_X12_laysDemands_30, b_X12_laysDemands_69, b_X12_laysDemands_40, b_X12_laysDemands_63, b_X12_laysDemands_102, b_X12_laysDemands_79, i_lit, i_m1, i_31, il_t, il_f, iq_t, iq_f, it_t, it_f, im_e, im_l, im_g, im_g2, nI_add, pk_mul, i_sub, i_div, sdm, i_dec, i_cl, iv_t, bI_or2, bI_t0, bI_one, not_true_eq_false, not_false_eq_true, ↓reduceIte, am_tl, am_tn, am_t0, am_n0, and_true, true_and, List.cons_append, List.nil_append, List.append_nil, or_true, true_or, or_false, false_or, eq_self, ior0, iand0, im_e2, oI, e23', e104, e5, i_31, b_add1']
      refine nx _ _ ⟨fr2.pi rfl, dq_add q2 (by omega), fun a b => ?_⟩
      rw [dadd_iff, e2 a b, ex_s, or_assoc]
    · rintro D2 h2 ⟨fr2, q2, e2⟩
      have L2 : Lay h2 := fr2.lay L3
      have e23' : h_i h2 93 23 = nI (f_p f c).length := by rw [fr2.i (by unfold r6; omega), e23]
      rw [b_X12_laysDemands_71 _ _ _ L2]
      simp (disch := first | assumption | omega | (simp only [ya_pi, ya_pj, ya_pa, ya_pr, yo_pi, yo_pj, yo_pa, yf_pi, yf_pj, yf_pa, yh_pi, yh_pj, yh_pa, yt_pi, yt_pj, yt_pa, la_pi, la_pj, la_pa]; assumption)) only [b_X12_laysDemands_0, b_X12_laysDemands_21, b_X12_laysDemands_8, b_X12_laysDemands_26, b_X12_laysDemands_30, b_X12_laysDemands_69, b_X12_laysDemands_40, b_X12_laysDemands_63, b_X12_laysDemands_102, b_X12_laysDemands_79, i_lit, i_m1, i_31, il_t, il_f, iq_t, iq_f, it_t, it_f, im_e, im_l, im_g, im_g2, nI_add, pk_mul, i_sub, i_div, sdm, i_dec, i_cl, iv_t, bI_or2, bI_t0, bI_one, not_true_eq_false, not_false_eq_true, ↓reduceIte, am_tl, am_tn, am_t0, am_n0, and_true, true_and, List.cons_append, List.nil_append, List.append_nil, or_true, true_or, or_false, false_or, eq_self, ior0, iand0, im_e2, oI, e23']
      have eD : D2 = dmb T c (f_p f c) := by
        funext a b
        rw [Bool.eq_iff_iff, e2 a b, e a b, last a b, dmb_iff, dmP]
        have : (∃ t, t < (f_p f c).length ∧ (a = c ∧ b = (f_p f c).getD t 0)) ↔ (a = c ∧ b ∈ f_p f c) := by
          constructor
          · rintro ⟨t, ht, h1, h2⟩
            exact ⟨h1, h2 ▸ gd_mem ht⟩
          · rintro ⟨h1, h2⟩
            obtain ⟨t, ht, e⟩ := gd_ex h2
            exact ⟨t, ht, h1, e.symm⟩
        rw [this]
        simp only [or_assoc, or_left_comm, or_comm]
      exact k h2 (fr13.tr (fr2.le (fun a k z => Or.inr (Or.inr z)))) (eD ▸ q2)
theorem c_noDemands_n {d : Nat} {Q : Option am_V → am_H → Prop} {h : am_H} {f : fa_S} (ok : fa_ok f) (F : rfa h f) {c : Int32} (hc : ¬ fa_has (f_n f) c) : ex_ (d + 2) 312 0 [some (v_r (some 93)), some (v_i c)] [] h Q ↔ Q (some (v_i (-2))) h := by
  have L0 := F.1
  simp (disch := first | assumption | omega | (simp only [ya_pi, ya_pj, ya_pa, ya_pr, yo_pi, yo_pj, yo_pa, yf_pi, yf_pj, yf_pa, yh_pi, yh_pj, yh_pa, yt_pi, yt_pj, yt_pa, la_pi, la_pj, la_pa]; assumption)) only [b_X12_noDemands_0, b_X12_noDemands_6, b_X12_noDemands_12, b_X12_noDemands_9, b_X12_noDemands_16, b_X12_noDemands_28, b_X12_noDemands_26, b_X12_noDemands_33, i_lit, i_m1, i_31, il_t, il_f, iq_t, iq_f, it_t, it_f, im_e, im_l, im_g, im_g2, nI_add, pk_mul, i_sub, i_div, sdm, i_dec, i_cl, iv_t, bI_or2, bI_t0, bI_one, not_true_eq_false, not_false_eq_true, ↓reduceIte, am_tl, am_tn, am_t0, am_n0, and_true, true_and, List.cons_append, List.nil_append, List.append_nil, or_true, true_or, or_false, false_or, eq_self, ior0, iand0, im_e2, oI, c_isClass_32 ok F hc]
/-- the orders of a house -/
def fT (f : fa_S) : od_T := od (f_p f) (f_n f)
theorem fT_ok {f : fa_S} (ok : fa_ok f) : od_ok (fT f) (f_n f) := (od_okk (fa_pok ok) _ ok.1).1
theorem fT_le {f : fa_S} (ok : fa_ok f) : ∀ a, a < f_n f → ∀ x ∈ (fT f a).2, x ≤ a := (od_okk (fa_pok ok) _ ok.1).2
theorem c_noDemands_y {d : Nat} {Q : Option am_V → am_H → Prop} {h : am_H} {f : fa_S} (ok : fa_ok f) (F : rfa h f) {c : Nat} (hc : c < f_n f) (k1 : (fT f c).1 = 2 → ∀ h', am_fr h h' rS → Q (some (v_i mI)) h') (k2 : ¬ (fT f c).1 = 2 → ∀ h', am_fr h h' rS → ra h' (fT f) (f_n f) → dq h' (dmb (fT f) c (f_p f c)) → Q (some (v_i (nI 0))) h') : ex_ (d + 4) 312 0 [some (v_r (some 93)), some (v_i (nI c))] [] h Q := by
  have L0 := F.1
  have hn := ok.1
  simp (disch := first | assumption | omega | (simp only [ya_pi, ya_pj, ya_pa, ya_pr, yo_pi, yo_pj, yo_pa, yf_pi, yf_pj, yf_pa, yh_pi, yh_pj, yh_pa, yt_pi, yt_pj, yt_pa, la_pi, la_pj, la_pa]; assumption)) only [b_X12_noDemands_0, b_X12_noDemands_6, b_X12_noDemands_12, b_X12_noDemands_9, b_X12_noDemands_16, b_X12_noDemands_28, b_X12_noDemands_26, b_X12_noDemands_33, i_lit, i_m1, i_31, il_t, il_f, iq_t, iq_f, it_t, it_f, im_e, im_l, im_g, im_g2, nI_add, pk_mul, i_sub, i_div, sdm, i_dec, i_cl, iv_t, bI_or2, bI_t0, bI_one, not_true_eq_false, not_false_eq_true, ↓reduceIte, am_tl, am_tn, am_t0, am_n0, and_true, true_and, List.cons_append, List.nil_append, List.append_nil, or_true, true_or, or_false, false_or, eq_self, ior0, iand0, im_e2, oI, nI_l, c_isClass_y ok F hc]
  refine c_laysOrders ok F (fun h1 fr1 (A1 : ra h1 (fT f) (f_n f)) => ?_)
  have F1 : rfa h1 f := fr1.rfa ok F (fun k _ => by unfold rA; omega)
  have L1 := F1.1
  have e1 := (A1.2 c hc).1
  have o1 := (fT_ok ok c hc).1
  by_cases z : (fT f c).1 = 2
  · simp (disch := first | assumption | omega | (simp only [ya_pi, ya_pj, ya_pa, ya_pr, yo_pi, yo_pj, yo_pa, yf_pi, yf_pj, yf_pa, yh_pi, yh_pj, yh_pa, yt_pi, yt_pj, yt_pa, la_pi, la_pj, la_pa]; assumption)) only [b_X12_noDemands_0, b_X12_noDemands_6, b_X12_noDemands_12, b_X12_noDemands_9, b_X12_noDemands_16, b_X12_noDemands_28, b_X12_noDemands_26, b_X12_noDemands_33, i_lit, i_m1, i_31, il_t, il_f, iq_t, iq_f, it_t, it_f, im_e, im_l, im_g, im_g2, nI_add, pk_mul, i_sub, i_div, sdm, i_dec, i_cl, iv_t, bI_or2, bI_t0, bI_one, not_true_eq_false, not_false_eq_true, ↓reduceIte, am_tl, am_tn, am_t0, am_n0, and_true, true_and, List.cons_append, List.nil_append, List.append_nil, or_true, true_or, or_false, false_or, eq_self, ior0, iand0, im_e2, oI, e1, z]
    exact k1 z h1 (fr1.le (fun a k z => z.S))
  · simp (disch := first | assumption | omega | (simp only [ya_pi, ya_pj, ya_pa, ya_pr, yo_pi, yo_pj, yo_pa, yf_pi, yf_pj, yf_pa, yh_pi, yh_pj, yh_pa, yt_pi, yt_pj, yt_pa, la_pi, la_pj, la_pa]; assumption)) only [b_X12_noDemands_0, b_X12_noDemands_6, b_X12_noDemands_12, b_X12_noDemands_9, b_X12_noDemands_16, b_X12_noDemands_28, b_X12_noDemands_26, b_X12_noDemands_33, i_lit, i_m1, i_31, il_t, il_f, iq_t, iq_f, it_t, it_f, im_e, im_l, im_g, im_g2, nI_add, pk_mul, i_sub, i_div, sdm, i_dec, i_cl, iv_t, bI_or2, bI_t0, bI_one, not_true_eq_false, not_false_eq_true, ↓reduceIte, am_tl, am_tn, am_t0, am_n0, and_true, true_and, List.cons_append, List.nil_append, List.append_nil, or_true, true_or, or_false, false_or, eq_self, ior0, iand0, im_e2, oI, e1]
    refine c_laysDemands ok F1 A1 (fT_ok ok) hc (fun h2 fr2 q2 => ?_)
    simp (disch := first | assumption | omega | (simp only [ya_pi, ya_pj, ya_pa, ya_pr, yo_pi, yo_pj, yo_pa, yf_pi, yf_pj, yf_pa, yh_pi, yh_pj, yh_pa, yt_pi, yt_pj, yt_pa, la_pi, la_pj, la_pa]; assumption)) only [b_X12_noDemands_0, b_X12_noDemands_6, b_X12_noDemands_12, b_X12_noDemands_9, b_X12_noDemands_16, b_X12_noDemands_28, b_X12_noDemands_26, b_X12_noDemands_33, i_lit, i_m1, i_31, il_t, il_f, iq_t, iq_f, it_t, it_f, im_e, im_l, im_g, im_g2, nI_add, pk_mul, i_sub, i_div, sdm, i_dec, i_cl, iv_t, bI_or2, bI_t0, bI_one, not_true_eq_false, not_false_eq_true, ↓reduceIte, am_tl, am_tn, am_t0, am_n0, and_true, true_and, List.cons_append, List.nil_append, List.append_nil, or_true, true_or, or_false, false_or, eq_self, ior0, iand0, im_e2, oI]
    exact k2 z h2 ((fr1.le (fun a k z => z.S)).tr (fr2.le (fun a k z => z.S))) (A1.fr (fT_ok ok) fr2 (fun a k _ _ => by unfold rD rQ rM; omega)) q2
