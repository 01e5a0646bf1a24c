/-! ===== repairs: the reference ===== -/
def tkl (h : am_H) (ks : List Nat) : Prop := h_i h 93 37 = nI ks.length ∧ ks.length ≤ 3 ∧ ro h 113 0 ks
theorem c_isTaken {d : Nat} {Q : Option am_V → am_H → Prop} {h : am_H} {ks : List Nat} {l : Nat} (L : Lay h) (T : tkl h ks) (hl : l < 1000) (hk : ∀ x ∈ ks, x < 1000) {l2 : Option am_V} : ex_ d 351 0 [some (v_r (some 93)), some (v_i (nI l)), l2] [] h Q ↔ Q (some (v_i (nI (if ks.contains l = true then 1 else 0)))) h := by
  obtain ⟨e37, l3, r⟩ := T
  apply ex_iff
  simp (disch := first | assumption | omega | (simp only [ya_pi, ya_pj, ya_pa, ya_pr, yo_pi, yo_pj, yo_pa, yf_pi, yf_pj, yf_pa, yh_pi, yh_pj, yh_pa, yt_pi, yt_pj, yt_pa, la_pi, la_pj, la_pa]; assumption)) only [b_X12_isTaken_0, i_lit, i_m1, i_31, il_t, il_f, iq_t, iq_f, it_t, it_f, im_e, im_l, im_g, im_g2, nI_add, pk_mul, i_sub, i_div, sdm, i_dec, i_cl, iv_t, bI_or2, bI_t0, bI_one, not_true_eq_false, not_false_eq_true, ↓reduceIte, am_tl, am_tn, am_t0, am_n0, and_true, true_and, List.cons_append, List.nil_append, List.append_nil]
  generalize hR : (if ks.contains l = true then 1 else 0) = R
  refine lp_up ks.length (fun i (_ : Unit) => [some (v_r (some 93)), some (v_i (nI l)), some (v_i (nI i))]) (fun i _ h' => h' = h ∧ ks.contains l = (ks.drop i).contains l) ?_ ?_ (Nat.zero_le _) ⟨rfl, by rw [List.drop_zero]⟩ (s := ())
  · rintro i - h1 hi ⟨rfl, eq⟩ nxt
    have ri := r i hi
    rw [Nat.zero_add] at ri
    have x1000 := hk _ (gd_mem hi)
    have hd : ks.drop i = ks.getD i 0 :: ks.drop (i + 1) := dr_s hi
    rw [hd] at eq
    rw [b_X12_isTaken_2 _ _ _ L]
    by_cases z : ks.getD i 0 = l
    · have : ks.contains l = true := by rw [eq, z]; simp
      rw [this, if_pos rfl] at hR
      simp (disch := first | assumption | omega | (simp only [ya_pi, ya_pj, ya_pa, ya_pr, yo_pi, yo_pj, yo_pa, yf_pi, yf_pj, yf_pa, yh_pi, yh_pj, yh_pa, yt_pi, yt_pj, yt_pa, la_pi, la_pj, la_pa]; assumption)) only [b_X12_isTaken_10, b_X12_isTaken_20, i_lit, i_m1, i_31, il_t, il_f, iq_t, iq_f, it_t, it_f, im_e, im_l, im_g, im_g2, nI_add, pk_mul, i_sub, i_div, sdm, i_dec, i_cl, iv_t, bI_or2, bI_t0, bI_one, not_true_eq_false, not_false_eq_true, ↓reduceIte, am_tl, am_tn, am_t0, am_n0, and_true, true_and, List.cons_append, List.nil_append, List.append_nil, e37, ri, z]
      rw [← hR]
    · have : ks.contains l = (ks.drop (i + 1)).contains l := by
        rw [eq, List.contains_eq_mem, List.contains_eq_mem]
        refine decide_eq_decide.2 ⟨fun y => ?_, fun y => List.mem_cons_of_mem _ y⟩
        rcases List.mem_cons.1 y with y | y
        · exact absurd y.symm z
        · exact y
      simp (disch := first | assumption | omega | (simp only [ya_pi, ya_pj, ya_pa, ya_pr, yo_pi, yo_pj, yo_pa, yf_pi, yf_pj, yf_pa, yh_pi, yh_pj, yh_pa, yt_pi, yt_pj, yt_pa, la_pi, la_pj, la_pa]; assumption)) only [b_X12_isTaken_10, b_X12_isTaken_22, i_lit, i_m1, i_31, il_t, il_f, iq_t, iq_f, it_t, it_f, im_e, im_l, im_g, im_g2, nI_add, pk_mul, i_sub, i_div, sdm, i_dec, i_cl, iv_t, bI_or2, bI_t0, bI_one, not_true_eq_false, not_false_eq_true, ↓reduceIte, am_tl, am_tn, am_t0, am_n0, and_true, true_and, List.cons_append, List.nil_append, List.append_nil, e37, ri]
      exact nxt () h1 ⟨rfl, this⟩
  · rintro - h1 ⟨rfl, eq⟩
    rw [List.drop_length] at eq
    have : ks.contains l = false := by rw [eq]; rfl
    rw [this, if_neg (by decide)] at hR
    rw [b_X12_isTaken_2 _ _ _ L]
    simp (disch := first | assumption | omega | (simp only [ya_pi, ya_pj, ya_pa, ya_pr, yo_pi, yo_pj, yo_pa, yf_pi, yf_pj, yf_pa, yh_pi, yh_pj, yh_pa, yt_pi, yt_pj, yt_pa, la_pi, la_pj, la_pa]; assumption)) only [b_X12_isTaken_28, i_lit, i_m1, i_31, il_t, il_f, iq_t, iq_f, it_t, it_f, im_e, im_l, im_g, im_g2, nI_add, pk_mul, i_sub, i_div, sdm, i_dec, i_cl, iv_t, bI_or2, bI_t0, bI_one, not_true_eq_false, not_false_eq_true, ↓reduceIte, am_tl, am_tn, am_t0, am_n0, and_true, true_and, List.cons_append, List.nil_append, List.append_nil, e37]
    rw [← hR]
def rWh (a k : Nat) : Prop := (a = 93 ∧ k = 23) ∨ (98 ≤ a ∧ a ≤ 104)
theorem rWh.S {a k : Nat} (z : rWh a k) : rS a k := by unfold rWh at z; unfold rS; omega
theorem tkl.fr {h h' : am_H} {P : Nat → Nat → Prop} {ks : List Nat} (T : tkl h ks) (fr : am_fr h h' P) (h1 : ¬ P 93 37) (h2 : ∀ k, ¬ P 113 k) : tkl h' ks := ⟨by rw [fr.i h1]; exact T.1, T.2.1, fr.ro T.2.2 (fun k _ => h2 _)⟩
theorem c_isWhole {d : Nat} {Q : Option am_V → am_H → Prop} {h : am_H} {f : fa_S} {ks : List Nat} (ok : fa_ok f) (F : rfa h f) (T : tkl h ks) (hk : ∀ x ∈ ks, x < 1000) {l1 l2 l3 : Option am_V} (k : ∀ h', am_fr h h' rWh → Q (some (v_i (nI (if wh f ks = true then 1 else 0)))) h') : ex_ (d + 3) 352 0 [some (v_r (some 93)), l1, l2, l3] [] h Q := by
  have n10 := ok.1
  have L := F.1
  simp (disch := first | assumption | omega | (simp only [ya_pi, ya_pj, ya_pa, ya_pr, yo_pi, yo_pj, yo_pa, yf_pi, yf_pj, yf_pa, yh_pi, yh_pj, yh_pa, yt_pi, yt_pj, yt_pa, la_pi, la_pj, la_pa]; assumption)) only [b_X12_isWhole_0, i_lit, i_m1, i_31, il_t, il_f, iq_t, iq_f, it_t, it_f, im_e, im_l, im_g, im_g2, nI_add, pk_mul, i_sub, i_div, sdm, i_dec, i_cl, iv_t, bI_or2, bI_t0, bI_one, not_true_eq_false, not_false_eq_true, ↓reduceIte, am_tl, am_tn, am_t0, am_n0, and_true, true_and, List.cons_append, List.nil_append, List.append_nil]
  have pk := wo_ok ok ks
  have lle : ∀ c, c ≤ 10 → lo_at f c ≤ 40 := fun c hc => Nat.le_trans (f_lk_le ok c) (by omega)
  refine lp_up (f_n f) (fun c (l3 : Option am_V) => [some (v_r (some 93)), some (v_i (nI (lo_at f c))), some (v_i (nI c)), l3]) (fun c _ h' => am_fr h h' rWh ∧ ra h' (od (wo_p f ks) c) c ∧ ∀ c', c' < c → (od (wo_p f ks) c c').1 = 0) ?_ ?_ (Nat.zero_le _) ⟨am_fr.rf, ⟨L, fun c hc => absurd hc (Nat.not_lt_zero _)⟩, fun c hc => absurd hc (Nat.not_lt_zero _)⟩ (s := l3)
  · rintro c m3 h1 hc ⟨fr1, A1, z1⟩ nxt
    have L1 := A1.1
    have F1 := fr1.rfa ok F (fun k hk => by unfold rWh; omega)
    have e1 := F1.2.1
    have l4 := (ok.2 c).1
    have okT := (od_okk pk c (by omega)).1
    have lc := lle c (by omega)
    rw [b_X12_isWhole_4 _ _ _ _ L1]
    simp (disch := first | assumption | omega | (simp only [ya_pi, ya_pj, ya_pa, ya_pr, yo_pi, yo_pj, yo_pa, yf_pi, yf_pj, yf_pa, yh_pi, yh_pj, yh_pa, yt_pi, yt_pj, yt_pa, la_pi, la_pj, la_pa]; assumption)) only [b_X12_isWhole_14, i_lit, i_m1, i_31, il_t, il_f, iq_t, iq_f, it_t, it_f, im_e, im_l, im_g, im_g2, nI_add, pk_mul, i_sub, i_div, sdm, i_dec, i_cl, iv_t, bI_or2, bI_t0, bI_one, not_true_eq_false, not_false_eq_true, ↓reduceIte, am_tl, am_tn, am_t0, am_n0, and_true, true_and, List.cons_append, List.nil_append, List.append_nil, e1]
    refine lp_up (f_p f c).length (fun i (_ : Unit) => [some (v_r (some 93)), some (v_i (nI (lo_at f c + i))), some (v_i (nI c)), some (v_i (nI i))]) (fun i _ h' => am_fr h1 h' rQ ∧ rp h' (lw (f_p f c) (fun j => ks.contains (lo_at f c + j)) i)) ?_ ?_ (Nat.zero_le _) ⟨am_fr_pi (by unfold rQ; omega), hi_s, ro_nil⟩ (s := ())
    · rintro i - h2 hi ⟨fr2, p2⟩ nx2
      have L2 := fr2.lay L1
      have F2 := fr2.rfa ok F1 (fun k hk => by unfold rQ; omega)
      have cnt := r_cnt F2 (show c < 10 by omega)
      have T2 : tkl h2 ks := (T.fr fr1 (by unfold rWh; omega) (fun k => by unfold rWh; omega)).fr fr2 (by unfold rQ; omega) (fun k => by unfold rQ; omega)
      have e23 := p2.1
      have ll := lw_len (f_p f c) (fun j => ks.contains (lo_at f c + j)) i
      rw [b_X12_isWhole_21 _ _ _ _ L2]
      have nx := fun h' x => nx2 () h' x
      rw [lw] at nx
      cases w : ks.contains (lo_at f c + i) with
      | true =>
        rw [if_pos w] at nx
        simp (disch := first | assumption | omega | (simp only [ya_pi, ya_pj, ya_pa, ya_pr, yo_pi, yo_pj, yo_pa, yf_pi, yf_pj, yf_pa, yh_pi, yh_pj, yh_pa, yt_pi, yt_pj, yt_pa, la_pi, la_pj, la_pa]; assumption)) only [b_X12_isWhole_34, b_X12_isWhole_39, b_X12_isWhole_67, i_lit, i_m1, i_31, il_t, il_f, iq_t, iq_f, it_t, it_f, im_e, im_l, im_g, im_g2, nI_add, pk_mul, i_sub, i_div, sdm, i_dec, i_cl, iv_t, bI_or2, bI_t0, bI_one, not_true_eq_false, not_false_eq_true, ↓reduceIte, am_tl, am_tn, am_t0, am_n0, and_true, true_and, List.cons_append, List.nil_append, List.append_nil, cnt, c_isTaken L2 T2 (show lo_at f c + i < 1000 by omega) hk, w]
        exact nx h2 ⟨fr2, p2⟩
      | false =>
        rw [if_neg (by rw [w]; decide)] at nx
        have A104 : y_arr h2 104 20 4 := la_y L2 rfl
        have q23 : ∀ v, h_i (p_i h2 104 (lw (f_p f c) (fun j => ks.contains (lo_at f c + j)) i).length v) 93 23 = nI (lw (f_p f c) (fun j => ks.contains (lo_at f c + j)) i).length := fun v => by rw [hi_o (by omega)]; exact e23
        simp (disch := first | assumption | omega | (simp only [ya_pi, ya_pj, ya_pa, ya_pr, yo_pi, yo_pj, yo_pa, yf_pi, yf_pj, yf_pa, yh_pi, yh_pj, yh_pa, yt_pi, yt_pj, yt_pa, la_pi, la_pj, la_pa]; assumption)) only [b_X12_isWhole_34, b_X12_isWhole_39, b_X12_isWhole_42, b_X12_isWhole_56, i_lit, i_m1, i_31, il_t, il_f, iq_t, iq_f, it_t, it_f, im_e, im_l, im_g, im_g2, nI_add, pk_mul, i_sub, i_div, sdm, i_dec, i_cl, iv_t, bI_or2, bI_t0, bI_one, not_true_eq_false, not_false_eq_true, ↓reduceIte, am_tl, am_tn, am_t0, am_n0, and_true, true_and, List.cons_append, List.nil_append, List.append_nil, cnt, c_isTaken L2 T2 (show lo_at f c + i < 1000 by omega) hk, w, Bool.false_eq_true, c_rParentAt F2 (show c < 10 by omega) hi l4, e23, q23]
        refine nx _ ⟨(fr2.pi (by unfold rQ; omega)).pi (by unfold rQ; omega), by rw [hi_s, List.length_append, List.length_singleton], ?_⟩
        have := ro_app (q := (f_p f c).getD i 0) p2.2
        rw [Nat.zero_add] at this
        intro j hj
        rw [hi_o (by omega)]
        exact this j hj
    · rintro - h2 ⟨fr2, p2⟩
      have L2 := fr2.lay L1
      have F2 := fr2.rfa ok F1 (fun k hk => by unfold rQ; omega)
      have cnt := r_cnt F2 (show c < 10 by omega)
      have A2 : ra h2 (od (wo_p f ks) c) c := A1.fr okT fr2 (fun a k h1 h2 => by unfold rQ; omega)
      have p2' : rp h2 (wo_p f ks c) := p2
      rw [← lo_s, b_X12_isWhole_21 _ _ _ _ L2]
      simp (disch := first | assumption | omega | (simp only [ya_pi, ya_pj, ya_pa, ya_pr, yo_pi, yo_pj, yo_pa, yf_pi, yf_pj, yf_pa, yh_pi, yh_pj, yh_pa, yt_pi, yt_pj, yt_pa, la_pi, la_pj, la_pa]; assumption)) only [b_X12_isWhole_76, i_lit, i_m1, i_31, il_t, il_f, iq_t, iq_f, it_t, it_f, im_e, im_l, im_g, im_g2, nI_add, pk_mul, i_sub, i_div, sdm, i_dec, i_cl, iv_t, bI_or2, bI_t0, bI_one, not_true_eq_false, not_false_eq_true, ↓reduceIte, am_tl, am_tn, am_t0, am_n0, and_true, true_and, List.cons_append, List.nil_append, List.append_nil, cnt]
      refine c_laysOrder A2 p2' okT (Nat.le_refl _) (by omega) (pk c).2.1 (pk c).2.2 (pk c).1 (fun h3 fr3 r3 => ?_)
      have L3 := fr3.lay L2
      have e100 := r3.1
      have eo : od (wo_p f ks) (c + 1) c = od1 (od (wo_p f ks) c) c (wo_p f ks c) := od_at (c + 1) (by omega)
      rw [← eo] at r3 e100
      have fr13 := (fr1.tr (fr2.le (fun a k z => by unfold rQ at z; unfold rWh; omega))).tr (fr3.le (fun a k z => by unfold rP at z; unfold rWh; omega))
      have o2 := ((od_okk pk (c + 1) (by omega)).1 c (by omega)).1
      by_cases z : (od (wo_p f ks) (c + 1) c).1 = 0
      · simp (disch := first | assumption | omega | (simp only [ya_pi, ya_pj, ya_pa, ya_pr, yo_pi, yo_pj, yo_pa, yf_pi, yf_pj, yf_pa, yh_pi, yh_pj, yh_pa, yt_pi, yt_pj, yt_pa, la_pi, la_pj, la_pa]; assumption)) only [b_X12_isWhole_81, b_X12_isWhole_92, i_lit, i_m1, i_31, il_t, il_f, iq_t, iq_f, it_t, it_f, im_e, im_l, im_g, im_g2, nI_add, pk_mul, i_sub, i_div, sdm, i_dec, i_cl, iv_t, bI_or2, bI_t0, bI_one, not_true_eq_false, not_false_eq_true, ↓reduceIte, am_tl, am_tn, am_t0, am_n0, and_true, true_and, List.cons_append, List.nil_append, List.append_nil, e100, z]
        refine nxt _ h3 ⟨fr13, ?_, fun c' hc' => ?_⟩
        · have := A2.up okT fr3 r3
          rw [eo] at this
          exact this
        · by_cases u : c' = c
          · rw [u]; exact z
          · rw [← od_st (show c' < c by omega) (show c' < c + 1 by omega)]
            exact z1 c' (by omega)
      · simp (disch := first | assumption | omega | (simp only [ya_pi, ya_pj, ya_pa, ya_pr, yo_pi, yo_pj, yo_pa, yf_pi, yf_pj, yf_pa, yh_pi, yh_pj, yh_pa, yt_pi, yt_pj, yt_pa, la_pi, la_pj, la_pa]; assumption)) only [b_X12_isWhole_81, b_X12_isWhole_90, i_lit, i_m1, i_31, il_t, il_f, iq_t, iq_f, it_t, it_f, im_e, im_l, im_g, im_g2, nI_add, pk_mul, i_sub, i_div, sdm, i_dec, i_cl, iv_t, bI_or2, bI_t0, bI_one, not_true_eq_false, not_false_eq_true, ↓reduceIte, am_tl, am_tn, am_t0, am_n0, and_true, true_and, List.cons_append, List.nil_append, List.append_nil, e100]
        have fin := k h3 fr13
        have nw : ¬ wh f ks = true := fun w => z (by
          have := wh_iff.1 w c hc
          rw [← od_st (show c < c + 1 by omega) hc] at this
          exact this)
        rw [if_neg nw] at fin
        exact fin
  · rintro m3 h1 ⟨fr1, A1, z1⟩
    have L1 := A1.1
    have F1 := fr1.rfa ok F (fun k hk => by unfold rWh; omega)
    have e1 := F1.2.1
    rw [b_X12_isWhole_4 _ _ _ _ L1]
    simp (disch := first | assumption | omega | (simp only [ya_pi, ya_pj, ya_pa, ya_pr, yo_pi, yo_pj, yo_pa, yf_pi, yf_pj, yf_pa, yh_pi, yh_pj, yh_pa, yt_pi, yt_pj, yt_pa, la_pi, la_pj, la_pa]; assumption)) only [b_X12_isWhole_98, i_lit, i_m1, i_31, il_t, il_f, iq_t, iq_f, it_t, it_f, im_e, im_l, im_g, im_g2, nI_add, pk_mul, i_sub, i_div, sdm, i_dec, i_cl, iv_t, bI_or2, bI_t0, bI_one, not_true_eq_false, not_false_eq_true, ↓reduceIte, am_tl, am_tn, am_t0, am_n0, and_true, true_and, List.cons_append, List.nil_append, List.append_nil, e1]
    have fin := k h1 fr1
    rw [if_pos (wh_iff.2 z1)] at fin
    exact fin
def rRp (a k : Nat) : Prop := rWh a k ∨ a = 113 ∨ (a = 93 ∧ k = 37)
theorem rRp.S {a k : Nat} (z : rRp a k) : rS a k := by
  rcases z with z | z
  · exact z.S
  · unfold rS; omega
theorem c_repairsBy {f : fa_S} (ok : fa_ok f) : ∀ (m : Nat) {d a : Nat} {ks : List Nat} {Q : Option am_V → am_H → Prop} {h : am_H}, ks.length + m ≤ 3 → a ≤ 1000 → (∀ x ∈ ks, x < 1000) → rfa h f → tkl h ks → ∀ {l3 l4 l5 : Option am_V}, (∀ h', am_fr h h' rRp → (match rbs f m a ks with
    | some r => tkl h' r
    | none => tkl h' ks) → Q (some (v_i (nI (if (rbs f m a ks).isSome = true then 1 else 0)))) h') → ex_ (d + m + 4) 353 0 [some (v_r (some 93)), some (v_i (nI a)), some (v_i (nI m)), l3, l4, l5] [] h Q := by
  intro m
  induction m with
  | zero =>
    intro d a ks Q h hl ha hk F T l3 l4 l5 k
    have L := F.1
    rw [rbs] at k
    simp (disch := first | assumption | omega | (simp only [ya_pi, ya_pj, ya_pa, ya_pr, yo_pi, yo_pj, yo_pa, yf_pi, yf_pj, yf_pa, yh_pi, yh_pj, yh_pa, yt_pi, yt_pj, yt_pa, la_pi, la_pj, la_pa]; assumption)) only [b_X12_repairsBy_0, b_X12_repairsBy_4, i_lit, i_m1, i_31, il_t, il_f, iq_t, iq_f, it_t, it_f, im_e, im_l, im_g, im_g2, nI_add, pk_mul, i_sub, i_div, sdm, i_dec, i_cl, iv_t, bI_or2, bI_t0, bI_one, not_true_eq_false, not_false_eq_true, ↓reduceIte, am_tl, am_tn, am_t0, am_n0, and_true, true_and, List.cons_append, List.nil_append, List.append_nil]
    refine c_isWhole ok F T hk (fun h1 fr1 => ?_)
    have fr1' : am_fr h h1 rRp := fr1.le (fun a k z => Or.inl z)
    have T1 : tkl h1 ks := T.fr fr1 (by unfold rWh; omega) (fun k => by unfold rWh; omega)
    have fin := k h1 fr1'
    by_cases w : wh f ks = true
    · rw [if_pos w] at fin
      simp (disch := first | assumption | omega | (simp only [ya_pi, ya_pj, ya_pa, ya_pr, yo_pi, yo_pj, yo_pa, yf_pi, yf_pj, yf_pa, yh_pi, yh_pj, yh_pa, yt_pi, yt_pj, yt_pa, la_pi, la_pj, la_pa]; assumption)) only [b_X12_repairsBy_8, i_lit, i_m1, i_31, il_t, il_f, iq_t, iq_f, it_t, it_f, im_e, im_l, im_g, im_g2, nI_add, pk_mul, i_sub, i_div, sdm, i_dec, i_cl, iv_t, bI_or2, bI_t0, bI_one, not_true_eq_false, not_false_eq_true, ↓reduceIte, am_tl, am_tn, am_t0, am_n0, and_true, true_and, List.cons_append, List.nil_append, List.append_nil, w, or_true]
      exact fin T1
    · rw [if_neg w] at fin
      have wf : wh f ks = false := by simpa using w
      simp (disch := first | assumption | omega | (simp only [ya_pi, ya_pj, ya_pa, ya_pr, yo_pi, yo_pj, yo_pa, yf_pi, yf_pj, yf_pa, yh_pi, yh_pj, yh_pa, yt_pi, yt_pj, yt_pa, la_pi, la_pj, la_pa]; assumption)) only [b_X12_repairsBy_8, i_lit, i_m1, i_31, il_t, il_f, iq_t, iq_f, it_t, it_f, im_e, im_l, im_g, im_g2, nI_add, pk_mul, i_sub, i_div, sdm, i_dec, i_cl, iv_t, bI_or2, bI_t0, bI_one, not_true_eq_false, not_false_eq_true, ↓reduceIte, am_tl, am_tn, am_t0, am_n0, and_true, true_and, List.cons_append, List.nil_append, List.append_nil, wf, Bool.false_eq_true, true_or]
      exact fin T1
  | succ m ih =>
    intro d a ks Q h hl ha hk F T l3 l4 l5 k
    have L := F.1
    have lk40 : f_lk f ≤ 40 := Nat.le_trans (f_lk_le ok (f_n f)) (by have := ok.1; omega)
    rw [rbs] at k
    rw [show d + (m + 1) + 4 = (d + m + 4) + 1 from by omega]
    simp (disch := first | assumption | omega | (simp only [ya_pi, ya_pj, ya_pa, ya_pr, yo_pi, yo_pj, yo_pa, yf_pi, yf_pj, yf_pa, yh_pi, yh_pj, yh_pa, yt_pi, yt_pj, yt_pa, la_pi, la_pj, la_pa]; assumption)) only [b_X12_repairsBy_0, b_X12_repairsBy_9, b_X12_repairsBy_13, i_lit, i_m1, i_31, il_t, il_f, iq_t, iq_f, it_t, it_f, im_e, im_l, im_g, im_g2, nI_add, pk_mul, i_sub, i_div, sdm, i_dec, i_cl, iv_t, bI_or2, bI_t0, bI_one, not_true_eq_false, not_false_eq_true, ↓reduceIte, am_tl, am_tn, am_t0, am_n0, and_true, true_and, List.cons_append, List.nil_append, List.append_nil, c_rLinks ok F]
    generalize hg : (fun l => rbs f m (l + 1) (ks ++ [l])) = g at k
    have hgl : ∀ l, rbs f m (l + 1) (ks ++ [l]) = g l := fun l => by rw [← hg]
    by_cases z : a ≤ f_lk f
    · have st := lp_up (d := d + m + 4 + 1) (k := 353) (pc := 17) (Q := Q) (f_lk f - a) (fun i (l5 : Option am_V) => [some (v_r (some 93)), some (v_i (nI a)), some (v_i (nI (m + 1))), some (v_i (nI (f_lk f))), some (v_i (nI (a + i))), l5]) (fun i _ h' => am_fr h h' rRp ∧ rfa h' f ∧ tkl h' ks ∧ fo g (f_lk f) a = fo g (f_lk f) (a + i)) ?_ ?_ (Nat.zero_le _) ⟨am_fr.rf, F, T, by rw [Nat.add_zero]⟩ (s := l5) (h := h)
      · rw [Nat.add_zero] at st
        exact st
      · rintro i m5 h1 hi ⟨fr1, F1, T1, eq⟩ nxt
        have L1 := F1.1
        have e37 := T1.1
        have hl' : a + i < f_lk f := by omega
        have q37 : ∀ v, h_i (p_i h1 113 ks.length v) 93 37 = nI ks.length := fun v => by rw [hi_o (by omega)]; exact e37
        rw [b_X12_repairsBy_17 _ _ _ _ _ _ _]
        simp (disch := first | assumption | omega | (simp only [ya_pi, ya_pj, ya_pa, ya_pr, yo_pi, yo_pj, yo_pa, yf_pi, yf_pj, yf_pa, yh_pi, yh_pj, yh_pa, yt_pi, yt_pj, yt_pa, la_pi, la_pj, la_pa]; assumption)) only [b_X12_repairsBy_23, i_lit, i_m1, i_31, il_t, il_f, iq_t, iq_f, it_t, it_f, im_e, im_l, im_g, im_g2, nI_add, pk_mul, i_sub, i_div, sdm, i_dec, i_cl, iv_t, bI_or2, bI_t0, bI_one, not_true_eq_false, not_false_eq_true, ↓reduceIte, am_tl, am_tn, am_t0, am_n0, and_true, true_and, List.cons_append, List.nil_append, List.append_nil, e37, q37, Nat.add_sub_cancel]
        have fr2 : am_fr h1 (p_i (p_i h1 113 ks.length (nI (a + i))) 93 37 (nI (ks.length + 1))) (fun a k => a = 113 ∨ (a = 93 ∧ k = 37)) := (am_fr_pi (by omega)).pi (by omega)
        have T2 : tkl (p_i (p_i h1 113 ks.length (nI (a + i))) 93 37 (nI (ks.length + 1))) (ks ++ [a + i]) := by
          refine ⟨by rw [hi_s, List.length_append, List.length_singleton], by rw [List.length_append, List.length_singleton]; omega, ?_⟩
          have := ro_app (q := a + i) T1.2.2
          rw [Nat.zero_add] at this
          intro j hj
          rw [hi_o (by omega)]
          exact this j hj
        have F2 := fr2.rfa ok F1 (fun k hk => by omega)
        refine ih (by rw [List.length_append, List.length_singleton]; omega) (by omega) (fun x hx => ?_) F2 T2 (fun h3 fr3 t3 => ?_)
        · rcases List.mem_append.1 hx with y | y
          · exact hk x y
          · rw [List.mem_singleton.1 y]; omega
        · have F3 := fr3.rfa ok F2 (fun k hk => by unfold rRp rWh; omega)
          have L3 := F3.1
          have fr13 := (fr1.tr (fr2.le (fun a k z => Or.inr z))).tr fr3
          rw [hgl] at t3 ⊢
          cases w : g (a + i) with
          | some r =>
            rw [w] at t3
            rw [fo_s hl' w] at eq
            have fin := k h3 fr13
            rw [eq] at fin
            simp (disch := first | assumption | omega | (simp only [ya_pi, ya_pj, ya_pa, ya_pr, yo_pi, yo_pj, yo_pa, yf_pi, yf_pj, yf_pa, yh_pi, yh_pj, yh_pa, yt_pi, yt_pj, yt_pa, la_pi, la_pj, la_pa]; assumption)) only [b_X12_repairsBy_55, b_X12_repairsBy_62, i_lit, i_m1, i_31, il_t, il_f, iq_t, iq_f, it_t, it_f, im_e, im_l, im_g, im_g2, nI_add, pk_mul, i_sub, i_div, sdm, i_dec, i_cl, iv_t, bI_or2, bI_t0, bI_one, not_true_eq_false, not_false_eq_true, ↓reduceIte, am_tl, am_tn, am_t0, am_n0, and_true, true_and, List.cons_append, List.nil_append, List.append_nil, Option.isSome_some]
            exact fin t3
          | none =>
            rw [w] at t3
            rw [fo_n hl' w] at eq
            obtain ⟨t1, t2, t4⟩ := t3
            rw [List.length_append, List.length_singleton] at t1
            simp (disch := first | assumption | omega | (simp only [ya_pi, ya_pj, ya_pa, ya_pr, yo_pi, yo_pj, yo_pa, yf_pi, yf_pj, yf_pa, yh_pi, yh_pj, yh_pa, yt_pi, yt_pj, yt_pa, la_pi, la_pj, la_pa]; assumption)) only [b_X12_repairsBy_55, b_X12_repairsBy_64, i_lit, i_m1, i_31, il_t, il_f, iq_t, iq_f, it_t, it_f, im_e, im_l, im_g, im_g2, nI_add, pk_mul, i_sub, i_div, sdm, i_dec, i_cl, iv_t, bI_or2, bI_t0, bI_one, not_true_eq_false, not_false_eq_true, ↓reduceIte, am_tl, am_tn, am_t0, am_n0, and_true, true_and, List.cons_append, List.nil_append, List.append_nil, Option.isSome_none, Bool.false_eq_true, t1, Nat.add_sub_cancel]
            have fr4 : am_fr h3 (p_i h3 93 37 (nI ks.length)) (fun a k => a = 93 ∧ k = 37) := am_fr_pi ⟨rfl, rfl⟩
            have nx := nxt (some (v_i (nI 0))) _ ⟨fr13.tr (fr4.le (fun a k z => Or.inr (Or.inr z))), fr4.rfa ok F3 (fun k hk => by omega), ⟨hi_s, T.2.1, fun j hj => ?_⟩, eq⟩
            · rw [← Nat.add_assoc] at nx
              exact nx
            · rw [hi_o (by omega)]
              have := t4 j (by rw [List.length_append]; omega)
              rw [gd_app, if_pos hj] at this
              exact this
      · rintro m5 h1 ⟨fr1, F1, T1, eq⟩
        rw [show a + (f_lk f - a) = f_lk f from by omega, fo_e (Nat.le_refl _)] at eq
        have fin := k h1 fr1
        rw [eq] at fin
        rw [show a + (f_lk f - a) = f_lk f from by omega, b_X12_repairsBy_17 _ _ _ _ _ _ _]
        simp (disch := first | assumption | omega | (simp only [ya_pi, ya_pj, ya_pa, ya_pr, yo_pi, yo_pj, yo_pa, yf_pi, yf_pj, yf_pa, yh_pi, yh_pj, yh_pa, yt_pi, yt_pj, yt_pa, la_pi, la_pj, la_pa]; assumption)) only [b_X12_repairsBy_80, i_lit, i_m1, i_31, il_t, il_f, iq_t, iq_f, it_t, it_f, im_e, im_l, im_g, im_g2, nI_add, pk_mul, i_sub, i_div, sdm, i_dec, i_cl, iv_t, bI_or2, bI_t0, bI_one, not_true_eq_false, not_false_eq_true, ↓reduceIte, am_tl, am_tn, am_t0, am_n0, and_true, true_and, List.cons_append, List.nil_append, List.append_nil]
        exact fin T1
    · rw [fo_e (by omega)] at k
      rw [b_X12_repairsBy_17 _ _ _ _ _ _ _]
      simp (disch := first | assumption | omega | (simp only [ya_pi, ya_pj, ya_pa, ya_pr, yo_pi, yo_pj, yo_pa, yf_pi, yf_pj, yf_pa, yh_pi, yh_pj, yh_pa, yt_pi, yt_pj, yt_pa, la_pi, la_pj, la_pa]; assumption)) only [b_X12_repairsBy_80, i_lit, i_m1, i_31, il_t, il_f, iq_t, iq_f, it_t, it_f, im_e, im_l, im_g, im_g2, nI_add, pk_mul, i_sub, i_div, sdm, i_dec, i_cl, iv_t, bI_or2, bI_t0, bI_one, not_true_eq_false, not_false_eq_true, ↓reduceIte, am_tl, am_tn, am_t0, am_n0, and_true, true_and, List.cons_append, List.nil_append, List.append_nil]
      exact k h am_fr.rf T
theorem c_laysRepairs {d : Nat} {Q : Option am_V → am_H → Prop} {h : am_H} {f : fa_S} (ok : fa_ok f) (F : rfa h f) {l1 : Option am_V} (k : ∀ h', am_fr h h' rRp → (∀ r, rpl f = some r → tkl h' r) → Q (some (v_i (oI ((rpl f).map List.length)))) h') : ex_ (d + 8) 354 0 [some (v_r (some 93)), l1] [] h Q := by
  simp (disch := first | assumption | omega | (simp only [ya_pi, ya_pj, ya_pa, ya_pr, yo_pi, yo_pj, yo_pa, yf_pi, yf_pj, yf_pa, yh_pi, yh_pj, yh_pa, yt_pi, yt_pj, yt_pa, la_pi, la_pj, la_pa]; assumption)) only [b_X12_laysRepairs_0, i_lit, i_m1, i_31, il_t, il_f, iq_t, iq_f, it_t, it_f, im_e, im_l, im_g, im_g2, nI_add, pk_mul, i_sub, i_div, sdm, i_dec, i_cl, iv_t, bI_or2, bI_t0, bI_one, not_true_eq_false, not_false_eq_true, ↓reduceIte, am_tl, am_tn, am_t0, am_n0, and_true, true_and, List.cons_append, List.nil_append, List.append_nil]
  refine lp_up 4 (fun b (_ : Unit) => [some (v_r (some 93)), some (v_i (nI b))]) (fun b _ h' => am_fr h h' rRp ∧ rfa h' f ∧ rpl f = fo (fun m => rbs f m 0 []) 4 b) ?_ ?_ (Nat.zero_le _) ⟨am_fr.rf, F, rfl⟩ (s := ())
  · rintro b - h1 hb ⟨fr1, F1, eq⟩ nxt
    have L1 := F1.1
    rw [b_X12_laysRepairs_2 _ _ _]
    simp (disch := first | assumption | omega | (simp only [ya_pi, ya_pj, ya_pa, ya_pr, yo_pi, yo_pj, yo_pa, yf_pi, yf_pj, yf_pa, yh_pi, yh_pj, yh_pa, yt_pi, yt_pj, yt_pa, la_pi, la_pj, la_pa]; assumption)) only [b_X12_laysRepairs_7, i_lit, i_m1, i_31, il_t, il_f, iq_t, iq_f, it_t, it_f, im_e, im_l, im_g, im_g2, nI_add, pk_mul, i_sub, i_div, sdm, i_dec, i_cl, iv_t, bI_or2, bI_t0, bI_one, not_true_eq_false, not_false_eq_true, ↓reduceIte, am_tl, am_tn, am_t0, am_n0, and_true, true_and, List.cons_append, List.nil_append, List.append_nil]
    have fr2 : am_fr h1 (p_i h1 93 37 (nI 0)) rRp := am_fr_pi (by unfold rRp; omega)
    have F2 : rfa (p_i h1 93 37 (nI 0)) f := p0_rfa ok F1
    have w1 := c_repairsBy ok b (d := d + 3 - b) (a := 0) (ks := []) (h := p_i h1 93 37 (nI 0)) (Q := fun r h' => ex_ (d + 8) 354 18 [some (v_r (some 93)), some (v_i (nI b))] r.toList h' Q) (by rw [List.length_nil]; omega) (by omega) (fun x hx => by cases hx) F2 ⟨hi_s, by rw [List.length_nil]; omega, ro_nil⟩ (l3 := none) (l4 := none) (l5 := none) (fun h3 fr3 t3 => ?_)
    · rw [show d + 3 - b + b + 4 = d + 7 from by omega] at w1
      exact w1
    · have F3 := fr3.rfa ok F2 (fun k hk => by unfold rRp rWh; omega)
      have fr13 := (fr1.tr fr2).tr fr3
      cases w : rbs f b 0 [] with
      | some r =>
        rw [w] at t3
        rw [fo_s (g := fun m => rbs f m 0 []) hb w] at eq
        have rl : r.length = b := by
          rw [rbs_sx b (f_lk f) (by omega)] at w
          have sl : ∀ j m (ks q : List Nat), sx f j m ks = some q → q.length = ks.length + m := by
            intro j
            induction j with
            | zero =>
              intro m ks q hq
              rw [sx] at hq
              split at hq
              · rename_i z
                cases hq
                rw [z.1, Nat.add_zero]
              · cases hq
            | succ j ih =>
              intro m ks q hq
              rw [sx] at hq
              split at hq
              · split at hq
                · rename_i q' hq'
                  cases hq
                  have := ih _ _ _ hq'
                  rw [List.length_append, List.length_singleton] at this
                  omega
                · exact ih _ _ _ hq
              · exact ih _ _ _ hq
          have := sl _ _ _ _ w
          rw [List.length_nil] at this
          omega
        have fin := k h3 fr13
        rw [eq, Option.map_some, rl] at fin
        simp (disch := first | assumption | omega | (simp only [ya_pi, ya_pj, ya_pa, ya_pr, yo_pi, yo_pj, yo_pa, yf_pi, yf_pj, yf_pa, yh_pi, yh_pj, yh_pa, yt_pi, yt_pj, yt_pa, la_pi, la_pj, la_pa]; assumption)) only [b_X12_laysRepairs_18, b_X12_laysRepairs_21, i_lit, i_m1, i_31, il_t, il_f, iq_t, iq_f, it_t, it_f, im_e, im_l, im_g, im_g2, nI_add, pk_mul, i_sub, i_div, sdm, i_dec, i_cl, iv_t, bI_or2, bI_t0, bI_one, not_true_eq_false, not_false_eq_true, ↓reduceIte, am_tl, am_tn, am_t0, am_n0, and_true, true_and, List.cons_append, List.nil_append, List.append_nil, Option.isSome_some]
        exact fin (fun r' hr' => by cases hr'; exact t3)
      | none =>
        rw [fo_n (g := fun m => rbs f m 0 []) hb w] at eq
        simp (disch := first | assumption | omega | (simp only [ya_pi, ya_pj, ya_pa, ya_pr, yo_pi, yo_pj, yo_pa, yf_pi, yf_pj, yf_pa, yh_pi, yh_pj, yh_pa, yt_pi, yt_pj, yt_pa, la_pi, la_pj, la_pa]; assumption)) only [b_X12_laysRepairs_18, b_X12_laysRepairs_23, i_lit, i_m1, i_31, il_t, il_f, iq_t, iq_f, it_t, it_f, im_e, im_l, im_g, im_g2, nI_add, pk_mul, i_sub, i_div, sdm, i_dec, i_cl, iv_t, bI_or2, bI_t0, bI_one, not_true_eq_false, not_false_eq_true, ↓reduceIte, am_tl, am_tn, am_t0, am_n0, and_true, true_and, List.cons_append, List.nil_append, List.append_nil, Option.isSome_none, Bool.false_eq_true]
        exact nxt () h3 ⟨fr13, F3, eq⟩
  · rintro - h1 ⟨fr1, F1, eq⟩
    rw [fo_e (Nat.le_refl _)] at eq
    rw [b_X12_laysRepairs_2 _ _ _]
    simp (disch := first | assumption | omega | (simp only [ya_pi, ya_pj, ya_pa, ya_pr, yo_pi, yo_pj, yo_pa, yf_pi, yf_pj, yf_pa, yh_pi, yh_pj, yh_pa, yt_pi, yt_pj, yt_pa, la_pi, la_pj, la_pa]; assumption)) only [b_X12_laysRepairs_29, i_lit, i_m1, i_31, il_t, il_f, iq_t, iq_f, it_t, it_f, im_e, im_l, im_g, im_g2, nI_add, pk_mul, i_sub, i_div, sdm, i_dec, i_cl, iv_t, bI_or2, bI_t0, bI_one, not_true_eq_false, not_false_eq_true, ↓reduceIte, am_tl, am_tn, am_t0, am_n0, and_true, true_and, List.cons_append, List.nil_append, List.append_nil]
    have fin := k h1 fr1
    rw [eq] at fin
    exact fin (fun r hr => by cases hr)
theorem c_rRepairs {d : Nat} {Q : Option am_V → am_H → Prop} {h : am_H} {S : St} (ok : St_ok S) (C : rI h S) (k : ∀ h', am_fr h h' rS → Q (some (v_i (t_repairs (s_f S)))) h') : ex_ (d + 9) 355 0 [some (v_r (some 93))] [] h Q := by
  have L := C.1
  have gd : fa_gd (s_f S) := ok.1.1.1
  have fr0 : am_fr h (p_i h 93 0 (nI 0)) rS := am_fr_pi (by unfold rS; omega)
  have C0 := C.q ok fr0
  have L0 := C0.1
  simp (disch := first | assumption | omega | (simp only [ya_pi, ya_pj, ya_pa, ya_pr, yo_pi, yo_pj, yo_pa, yf_pi, yf_pj, yf_pa, yh_pi, yh_pj, yh_pa, yt_pi, yt_pj, yt_pa, la_pi, la_pj, la_pa]; assumption)) only [b_X12_repairs_0, i_lit, i_m1, i_31, il_t, il_f, iq_t, iq_f, it_t, it_f, im_e, im_l, im_g, im_g2, nI_add, pk_mul, i_sub, i_div, sdm, i_dec, i_cl, iv_t, bI_or2, bI_t0, bI_one, not_true_eq_false, not_false_eq_true, ↓reduceIte, am_tl, am_tn, am_t0, am_n0, and_true, true_and, List.cons_append, List.nil_append, List.append_nil]
  refine c_laysRepairs gd.1 C0.rfa (fun h1 fr1 t1 => ?_)
  simp only [b_X12_repairs_9, am_t0, am_tl, List.append_nil]
  exact k h1 (fr0.tr (fr1.le (fun a k z => z.S)))
theorem rpl_sp {f : fa_S} {r : List Nat} (h : rpl f = some r) : ∀ x ∈ r, x < f_lk f := by
  have go : ∀ b, b ≤ 4 → ∀ a, a + b = 4 → fo (fun m => rbs f m 0 []) 4 a = some r → ∃ m, rbs f m 0 [] = some r := by
    intro b
    induction b with
    | zero => intro _ a ha h; rw [fo_e (by omega)] at h; cases h
    | succ b ih =>
      intro hb a ha h
      cases w : rbs f a 0 [] with
      | some q =>
        rw [fo_s (g := fun m => rbs f m 0 []) (by omega) w] at h
        cases h
        exact ⟨a, w⟩
      | none =>
        rw [fo_n (g := fun m => rbs f m 0 []) (by omega) w] at h
        exact ih (by omega) (a + 1) (by omega) h
  obtain ⟨m, hm⟩ := go 4 (Nat.le_refl _) 0 rfl h
  rw [rbs_sx m (f_lk f) (by omega)] at hm
  have sl : ∀ j m (ks q : List Nat), j ≤ f_lk f → (∀ x ∈ ks, x < f_lk f) → sx f j m ks = some q → ∀ x ∈ q, x < f_lk f := by
    intro j
    induction j with
    | zero =>
      intro m ks q _ hks hq
      rw [sx] at hq
      split at hq
      · cases hq; exact hks
      · cases hq
    | succ j ih =>
      intro m ks q hj hks hq
      rw [sx] at hq
      split at hq
      · split at hq
        · rename_i q' hq'
          cases hq
          refine ih _ _ _ (by omega) (fun x hx => ?_) hq'
          rcases List.mem_append.1 hx with y | y
          · exact hks x y
          · rw [List.mem_singleton.1 y]; omega
        · exact ih _ _ _ (by omega) hks hq
      · exact ih _ _ _ (by omega) hks hq
  exact sl _ _ _ _ (Nat.le_refl _) (fun x hx => by cases hx) hm
theorem c_rRepair {d : Nat} {Q : Option am_V → am_H → Prop} {h : am_H} {S : St} {i : Int32} {l2 l3 : Option am_V} (ok : St_ok S) (C : rI h S) (k : ∀ h', am_fr h h' rS → Q (some (v_i (t_repair (s_f S) i))) h') : ex_ (d + 9) 356 0 [some (v_r (some 93)), some (v_i i), l2, l3] [] h Q := by
  have L := C.1
  have gd : fa_gd (s_f S) := ok.1.1.1
  have n10 := gd.1.1
  have fr0 : am_fr h (p_i h 93 0 (nI 0)) rS := am_fr_pi (by unfold rS; omega)
  have C0 := C.q ok fr0
  have L0 := C0.1
  unfold t_repair at k
  by_cases z : i < 0
  · rw [if_pos z] at k
    simp (disch := first | assumption | omega | (simp only [ya_pi, ya_pj, ya_pa, ya_pr, yo_pi, yo_pj, yo_pa, yf_pi, yf_pj, yf_pa, yh_pi, yh_pj, yh_pa, yt_pi, yt_pj, yt_pa, la_pi, la_pj, la_pa]; assumption)) only [b_X12_repair_0, b_X12_repair_12, b_X12_repair_9, b_X12_repair_17, b_X12_repair_22, b_X12_repair_20, b_X12_repair_62, b_X12_repair_44, b_X12_repair_72, i_lit, i_m1, i_31, il_t, il_f, iq_t, iq_f, it_t, it_f, im_e, im_l, im_g, im_g2, nI_add, pk_mul, i_sub, i_div, sdm, i_dec, i_cl, iv_t, bI_or2, bI_t0, bI_one, not_true_eq_false, not_false_eq_true, ↓reduceIte, am_tl, am_tn, am_t0, am_n0, and_true, true_and, List.cons_append, List.nil_append, List.append_nil, ge0 z]
    exact k _ fr0
  · rw [if_neg z] at k
    obtain ⟨i, hi, rfl⟩ := nI_of z
    rw [nI_clamp hi] at k
    simp (disch := first | assumption | omega | (simp only [ya_pi, ya_pj, ya_pa, ya_pr, yo_pi, yo_pj, yo_pa, yf_pi, yf_pj, yf_pa, yh_pi, yh_pj, yh_pa, yt_pi, yt_pj, yt_pa, la_pi, la_pj, la_pa]; assumption)) only [b_X12_repair_0, b_X12_repair_12, i_lit, i_m1, i_31, il_t, il_f, iq_t, iq_f, it_t, it_f, im_e, im_l, im_g, im_g2, nI_add, pk_mul, i_sub, i_div, sdm, i_dec, i_cl, iv_t, bI_or2, bI_t0, bI_one, not_true_eq_false, not_false_eq_true, ↓reduceIte, am_tl, am_tn, am_t0, am_n0, and_true, true_and, List.cons_append, List.nil_append, List.append_nil]
    refine c_laysRepairs gd.1 C0.rfa (fun h1 fr1 t1 => ?_)
    have fr01 := fr0.tr (fr1.le (fun a k (z : rRp a k) => z.S))
    have C1 := C.q ok fr01
    have L1 := C1.1
    have F1 := C1.rfa
    have fin := k h1 fr01
    cases w : rpl (s_f S) with
    | none =>
      rw [w] at fin
      rw [Option.map_none]
      simp (disch := first | assumption | omega | (simp only [ya_pi, ya_pj, ya_pa, ya_pr, yo_pi, yo_pj, yo_pa, yf_pi, yf_pj, yf_pa, yh_pi, yh_pj, yh_pa, yt_pi, yt_pj, yt_pa, la_pi, la_pj, la_pa]; assumption)) only [b_X12_repair_17, b_X12_repair_20, i_lit, i_m1, i_31, il_t, il_f, iq_t, iq_f, it_t, it_f, im_e, im_l, im_g, im_g2, nI_add, pk_mul, i_sub, i_div, sdm, i_dec, i_cl, iv_t, bI_or2, bI_t0, bI_one, not_true_eq_false, not_false_eq_true, ↓reduceIte, am_tl, am_tn, am_t0, am_n0, and_true, true_and, List.cons_append, List.nil_append, List.append_nil, oI]
      exact fin
    | some r =>
      rw [w] at fin
      rw [Option.map_some]
      obtain ⟨e37, r3, ro1⟩ := t1 r w
      by_cases y : i < r.length
      · have eb : ((some r).bind (fun r => r[i]?)).map (lkn (s_f S)) = some (lkn (s_f S) (r.getD i 0)) := by
          rw [Option.bind_some, List.getElem?_eq_getElem y, List.getD_eq_getElem?_getD, List.getElem?_eq_getElem y]
          rfl
        rw [eb] at fin
        have ei := ro1 i y
        rw [Nat.zero_add] at ei
        have xl := rpl_sp w _ (gd_mem y)
        generalize r.getD i 0 = x at ei xl fin
        have lk40 : f_lk (s_f S) ≤ 40 := Nat.le_trans (f_lk_le gd.1 (f_n (s_f S))) (by omega)
        simp (disch := first | assumption | omega | (simp only [ya_pi, ya_pj, ya_pa, ya_pr, yo_pi, yo_pj, yo_pa, yf_pi, yf_pj, yf_pa, yh_pi, yh_pj, yh_pa, yt_pi, yt_pj, yt_pa, la_pi, la_pj, la_pa]; assumption)) only [b_X12_repair_17, b_X12_repair_22, i_lit, i_m1, i_31, il_t, il_f, iq_t, iq_f, it_t, it_f, im_e, im_l, im_g, im_g2, nI_add, pk_mul, i_sub, i_div, sdm, i_dec, i_cl, iv_t, bI_or2, bI_t0, bI_one, not_true_eq_false, not_false_eq_true, ↓reduceIte, am_tl, am_tn, am_t0, am_n0, and_true, true_and, List.cons_append, List.nil_append, List.append_nil, oI, ei]
        have go : ∀ m c, c + m = f_n (s_f S) → lo_at (s_f S) c ≤ x → ex_ (d + 9) 356 31 [some (v_r (some 93)), some (v_i (nI i)), some (v_i (nI (x - lo_at (s_f S) c))), some (v_i (nI c))] [] h1 Q := by
          intro m
          induction m with
          | zero =>
            intro c hc hl
            have : c = f_n (s_f S) := by omega
            subst this
            rw [lo_n] at hl
            omega
          | succ m ih =>
            intro c hc hl
            have cnt := r_cnt F1 (show c < 10 by omega)
            have l4 := fa_len gd c
            have los := lo_s (s_f S) c
            rw [b_X12_repair_31 _ _ _ _ L1]
            by_cases u : x - lo_at (s_f S) c < (f_p (s_f S) c).length
            · have el := lkn_at (f := s_f S) (show c < 10 by omega) u
              rw [Nat.add_sub_cancel' hl] at el
              rw [el] at fin
              simp (disch := first | assumption | omega | (simp only [ya_pi, ya_pj, ya_pa, ya_pr, yo_pi, yo_pj, yo_pa, yf_pi, yf_pj, yf_pa, yh_pi, yh_pj, yh_pa, yt_pi, yt_pj, yt_pa, la_pi, la_pj, la_pa]; assumption)) only [b_X12_repair_62, b_X12_repair_72, i_lit, i_m1, i_31, il_t, il_f, iq_t, iq_f, it_t, it_f, im_e, im_l, im_g, im_g2, nI_add, pk_mul, i_sub, i_div, sdm, i_dec, i_cl, iv_t, bI_or2, bI_t0, bI_one, not_true_eq_false, not_false_eq_true, ↓reduceIte, am_tl, am_tn, am_t0, am_n0, and_true, true_and, List.cons_append, List.nil_append, List.append_nil, cnt, c_rParentAt F1 (show c < 10 by omega) u l4]
              exact fin
            · have := ih (c + 1) (by omega) (by omega)
              rw [los, Nat.sub_add_eq] at this
              simp (disch := first | assumption | omega | (simp only [ya_pi, ya_pj, ya_pa, ya_pr, yo_pi, yo_pj, yo_pa, yf_pi, yf_pj, yf_pa, yh_pi, yh_pj, yh_pa, yt_pi, yt_pj, yt_pa, la_pi, la_pj, la_pa]; assumption)) only [b_X12_repair_44, i_lit, i_m1, i_31, il_t, il_f, iq_t, iq_f, it_t, it_f, im_e, im_l, im_g, im_g2, nI_add, pk_mul, i_sub, i_div, sdm, i_dec, i_cl, iv_t, bI_or2, bI_t0, bI_one, not_true_eq_false, not_false_eq_true, ↓reduceIte, am_tl, am_tn, am_t0, am_n0, and_true, true_and, List.cons_append, List.nil_append, List.append_nil, cnt]
              exact this
        have := go (f_n (s_f S)) 0 (by omega) (Nat.zero_le _)
        rw [show lo_at (s_f S) 0 = 0 from rfl, Nat.sub_zero] at this
        exact this
      · have eb : ((some r).bind (fun r => r[i]?)).map (lkn (s_f S)) = none := by
          rw [Option.bind_some, List.getElem?_eq_none (by omega)]
          rfl
        rw [eb] at fin
        simp (disch := first | assumption | omega | (simp only [ya_pi, ya_pj, ya_pa, ya_pr, yo_pi, yo_pj, yo_pa, yf_pi, yf_pj, yf_pa, yh_pi, yh_pj, yh_pa, yt_pi, yt_pj, yt_pa, la_pi, la_pj, la_pa]; assumption)) only [b_X12_repair_17, b_X12_repair_20, i_lit, i_m1, i_31, il_t, il_f, iq_t, iq_f, it_t, it_f, im_e, im_l, im_g, im_g2, nI_add, pk_mul, i_sub, i_div, sdm, i_dec, i_cl, iv_t, bI_or2, bI_t0, bI_one, not_true_eq_false, not_false_eq_true, ↓reduceIte, am_tl, am_tn, am_t0, am_n0, and_true, true_and, List.cons_append, List.nil_append, List.append_nil, oI]
        exact fin
