/-! ===== deeds of the reference ===== -/
def rX (a k : Nat) : Prop := (a = 94 ∧ 8 ≤ k ∧ k ≤ 1449) ∨ rS a k
theorem rS.X {a k : Nat} (z : rS a k) : rX a k := Or.inr z
theorem rF.X {a k : Nat} (z : rF a k) : rX a k := by unfold rF at z; unfold rX; omega
theorem rN.X {a k : Nat} (z : rN a k) : rX a k := by unfold rN at z; unfold rX; omega
theorem rT.X {a k : Nat} (z : rT a k) : rX a k := by unfold rT rF at z; unfold rX rS; omega
theorem rX.R {a k : Nat} (z : rX a k) : pR a k := by unfold rX rS at z; unfold pR; omega
theorem rI.facts {h h' : am_H} {S : St} {g : fa_S} {p : List fa_S} (ok : St_ok S) (C : rI h S) (fr : am_fr h h' rX) (F : rfa h' g) (P : rpa h' p) : rI h' (setF S g p) := by
  obtain ⟨L, C1, C2, C3, C4, C5, C6, C7⟩ := C
  have G : gf h h' rX N0 N0 := fr.g
  refine ⟨F.1, ⟨?_, F.2.1, F.2.2, G.rsb L C1.2.2.2.1 (by omega) (fun k hk z => ?_), G.rsb L C1.2.2.2.2 (by omega) (fun k hk z => ?_)⟩, P, G.riA L ok.2.2.1 C3 (fun k z => ?_) (fun k hk z => ?_), G.rtA L C4 (fun a k h1 h2 z => ?_) (fun k z => z), ⟨?_, fun k hk => ?_⟩, ?_, ?_⟩
  · exact (fr.i (by unfold rX rS; omega)).trans C1.1
  · unfold rX rS at z; omega
  · unfold rX rS at z; omega
  · unfold rX rS at z; omega
  · unfold rX rS at z; omega
  · unfold rX rS at z; omega
  · exact (fr.i (by unfold rX rS; omega)).trans C5.1
  · exact (fr.i (by unfold rX rS; omega)).trans (C5.2 k hk)
  · exact (fr.i (by unfold rX rS; omega)).trans C6
  · exact (fr.i (by unfold rX rS; omega)).trans C7
theorem setF_id {S : St} : setF S (s_f S) (s_p S) = S := rfl
theorem rI.rfa {h : am_H} {S : St} (C : rI h S) : rfa h (s_f S) := C.rH.1
theorem rI_same {h h' : am_H} {S : St} (ok : St_ok S) (C : rI h S) (fr : am_fr h h' rX) (F : rfa h' (s_f S)) (P : rpa h' (s_p S)) : rI h' S := C.facts ok fr F P
theorem okpp {S : St} (ok : St_ok S) : ∀ q ∈ ps_push (s_p S) (s_f S), fa_gd q := fun q hq => by
  rcases ps_mem hq with hq | rfl
  · exact (ok.2.1.2 q hq).1
  · exact ok.1.1.1
theorem okp {S : St} (ok : St_ok S) : ∀ q ∈ s_p S, fa_gd q := fun q hq => (ok.2.1.2 q hq).1
theorem okpf {S : St} (ok : St_ok S) : ∀ q ∈ s_p S, fa_ok q := fun q hq => (ok.2.1.2 q hq).1.1
theorem am_fr.rpa {h h' : am_H} {P : Nat → Nat → Prop} (fr : am_fr h h' P) (L : Lay h) {l : List fa_S} (okl : ∀ q ∈ l, fa_gd q) (A : rpa h l) (hp : ∀ k, 139 ≤ k → k ≤ 1449 → ¬ P 94 k) : rpa h' l := (fr.g (J := N0) (R := N0)).rpa L okl A hp
theorem c_endsWith {d : Nat} {Q : Option am_V → am_H → Prop} {h : am_H} {f g : fa_S} {l : List fa_S} (gd : fa_gd g) (gf0 : fa_gd f) (okl : ∀ q ∈ l, fa_gd q) (F : rfa h g) (B : fb h 105 0 f) (R : rpa h l) {c : Nat} (hc : c < f_n g) (k : ∀ h', am_fr h h' rX → rfa h' g → rpa h' (ps_push l f) → Q (some (v_i (nI (fT g c).1))) h') : ex_ (d + 4) 293 0 [some (v_r (some 93)), some (v_i (nI c))] [] h Q := by
  have L := F.1
  have n10 := gd.1.1
  rw [b_X12_endsWith_0 _ _ L]
  refine c_notes L gf0.1 (fun q hq => (okl q hq).1) R B (fun h1 fr1 R1 => ?_)
  have F1 := fr1.rfa gd.1 F (fun k hk => by unfold rN; omega)
  have L1 := F1.1
  simp (disch := first | assumption | omega | (simp only [ya_pi, ya_pj, ya_pa, ya_pr, yo_pi, yo_pj, yo_pa, yf_pi, yf_pj, yf_pa, yh_pi, yh_pj, yh_pa, yt_pi, yt_pj, yt_pa, la_pi, la_pj, la_pa]; assumption)) only [b_X12_endsWith_0, b_X12_endsWith_4, b_X12_endsWith_8, i_lit, i_m1, i_31, il_t, il_f, iq_t, iq_f, it_t, it_f, im_e, im_l, im_g, im_g2, nI_add, pk_mul, i_sub, i_div, sdm, i_dec, i_cl, iv_t, bI_or2, bI_t0, bI_one, not_true_eq_false, not_false_eq_true, ↓reduceIte, am_tl, am_tn, am_t0, am_n0, and_true, true_and, List.cons_append, List.nil_append, List.append_nil]
  refine c_laysOrders gd.1 F1 (fun h2 fr2 (A2 : ra h2 (fT g) (f_n g)) => ?_)
  have L2 := A2.1
  have e := (A2.2 c hc).1
  have okl' : ∀ q ∈ ps_push l f, fa_gd q := fun q hq => by
    rcases ps_mem hq with hq | rfl
    · exact okl q hq
    · exact gf0
  simp (disch := first | assumption | omega | (simp only [ya_pi, ya_pj, ya_pa, ya_pr, yo_pi, yo_pj, yo_pa, yf_pi, yf_pj, yf_pa, yh_pi, yh_pj, yh_pa, yt_pi, yt_pj, yt_pa, la_pi, la_pj, la_pa]; assumption)) only [b_X12_endsWith_0, b_X12_endsWith_4, b_X12_endsWith_8, i_lit, i_m1, i_31, il_t, il_f, iq_t, iq_f, it_t, it_f, im_e, im_l, im_g, im_g2, nI_add, pk_mul, i_sub, i_div, sdm, i_dec, i_cl, iv_t, bI_or2, bI_t0, bI_one, not_true_eq_false, not_false_eq_true, ↓reduceIte, am_tl, am_tn, am_t0, am_n0, and_true, true_and, List.cons_append, List.nil_append, List.append_nil, e]
  exact k h2 ((fr1.le (fun a k z => z.X)).tr (fr2.le (fun a k z => z.S.X))) (fr2.rfa gd.1 F1 (fun k hk => by unfold rA; omega)) (fr2.rpa L1 okl' R1 (fun k h1 h2 => by unfold rA; omega))
theorem rI.p0 {h : am_H} {S : St} (ok : St_ok S) (C : rI h S) : rI (p_i h 93 0 (nI 0)) S ∧ am_fr h (p_i h 93 0 (nI 0)) rX := ⟨C.q ok (am_fr_pi (by unfold rS; omega)), am_fr_pi (by unfold rX rS; omega)⟩
/-- what was stored stands, and the facts and the past with it -/
theorem c_rStores {d : Nat} {Q : Option am_V → am_H → Prop} {h : am_H} {S : St} (ok : St_ok S) (C : rI h S) {l1 : Option am_V} (k : ∀ h', am_fr h h' rS → rI h' S → fb h' 105 0 (s_f S) → Q none h') : ex_ d 283 0 [some (v_r (some 93)), l1] [] h Q := by
  refine c_stores ok.1.1.1.1 C.rfa (fun h1 fr1 B1 => ?_)
  have fr : am_fr h h1 rS := fr1.le (fun a k z => by unfold rS; omega)
  exact k h1 fr (C.q ok fr) B1
theorem fb105 {h h' : am_H} {f : fa_S} (gd : fa_gd f) (B : fb h 105 0 f) (fr : am_fr h h' rF) : fb h' 105 0 f := fr.fb (fa_len gd) B (fun k _ _ => by unfold rF; omega)
theorem c_rGive {d : Nat} {Q : Option am_V → am_H → Prop} {h : am_H} {S : St} {c p : Int32} {l3 : Option am_V} (ok : St_ok S) (C : rI h S) (k : ∀ h', am_fr h h' rX → rI h' (kS S (d_add (s_f S) c p) c).2 → Q (some (v_i (kS S (d_add (s_f S) c p) c).1)) h') : ex_ (d + 5) 294 0 [some (v_r (some 93)), some (v_i c), some (v_i p), l3] [] h Q := by
  have L := C.1
  obtain ⟨C0, fr0⟩ := C.p0 ok
  have gd : fa_gd (s_f S) := ok.1.1.1
  have n10 := gd.1.1
  have L0 := C0.1
  unfold kS at k
  by_cases z : (d_add (s_f S) c p).1 = nI 0
  · rw [if_pos z] at k
    simp (disch := first | assumption | omega | (simp only [ya_pi, ya_pj, ya_pa, ya_pr, yo_pi, yo_pj, yo_pa, yf_pi, yf_pj, yf_pa, yh_pi, yh_pj, yh_pa, yt_pi, yt_pj, yt_pa, la_pi, la_pj, la_pa]; assumption)) only [b_X12_give_0, b_X12_give_13, b_X12_give_23, b_X12_give_18, b_X12_give_27, b_X12_give_33, b_X12_give_38, i_lit, i_m1, i_31, il_t, il_f, iq_t, iq_f, it_t, it_f, im_e, im_l, im_g, im_g2, nI_add, pk_mul, i_sub, i_div, sdm, i_dec, i_cl, iv_t, bI_or2, bI_t0, bI_one, not_true_eq_false, not_false_eq_true, ↓reduceIte, am_tl, am_tn, am_t0, am_n0, and_true, true_and, List.cons_append, List.nil_append, List.append_nil, c_whyGive gd.1 C0.rfa, z]
    obtain ⟨a, q, rfl, rfl, ha, hq, h4, e⟩ := d_add_0 n10 z
    have gdr := gd_add gd (c := nI a) (p := nI q)
    have fnr := fn_add (f := s_f S) (c := nI a) (p := nI q)
    rw [nI_clamp (by omega)] at k
    refine c_rStores ok C0 (fun h1 fr1 C1 B1 => ?_)
    have L1 := C1.1
    simp (disch := first | assumption | omega | (simp only [ya_pi, ya_pj, ya_pa, ya_pr, yo_pi, yo_pj, yo_pa, yf_pi, yf_pj, yf_pa, yh_pi, yh_pj, yh_pa, yt_pi, yt_pj, yt_pa, la_pi, la_pj, la_pa]; assumption)) only [b_X12_give_0, b_X12_give_13, b_X12_give_23, b_X12_give_18, b_X12_give_27, b_X12_give_33, b_X12_give_38, i_lit, i_m1, i_31, il_t, il_f, iq_t, iq_f, it_t, it_f, im_e, im_l, im_g, im_g2, nI_add, pk_mul, i_sub, i_div, sdm, i_dec, i_cl, iv_t, bI_or2, bI_t0, bI_one, not_true_eq_false, not_false_eq_true, ↓reduceIte, am_tl, am_tn, am_t0, am_n0, and_true, true_and, List.cons_append, List.nil_append, List.append_nil]
    refine c_goesGive gd.1 C1.rfa (show a < 10 by omega) h4 (fun h2 fr2 F2 => ?_)
    have L2 := F2.1
    rw [← e] at F2
    simp (disch := first | assumption | omega | (simp only [ya_pi, ya_pj, ya_pa, ya_pr, yo_pi, yo_pj, yo_pa, yf_pi, yf_pj, yf_pa, yh_pi, yh_pj, yh_pa, yt_pi, yt_pj, yt_pa, la_pi, la_pj, la_pa]; assumption)) only [b_X12_give_0, b_X12_give_13, b_X12_give_23, b_X12_give_18, b_X12_give_27, b_X12_give_33, b_X12_give_38, i_lit, i_m1, i_31, il_t, il_f, iq_t, iq_f, it_t, it_f, im_e, im_l, im_g, im_g2, nI_add, pk_mul, i_sub, i_div, sdm, i_dec, i_cl, iv_t, bI_or2, bI_t0, bI_one, not_true_eq_false, not_false_eq_true, ↓reduceIte, am_tl, am_tn, am_t0, am_n0, and_true, true_and, List.cons_append, List.nil_append, List.append_nil]
    refine c_endsWith gdr gd (okp ok) F2 (fb105 gd B1 fr2) (fr2.rpa L1 (okp ok) C1.2.2.1 (fun k h1 h2 => by unfold rF; omega)) (show a < f_n _ by rw [fnr]; exact ha) (fun h3 fr3 F3 R3 => ?_)
    simp (disch := first | assumption | omega | (simp only [ya_pi, ya_pj, ya_pa, ya_pr, yo_pi, yo_pj, yo_pa, yf_pi, yf_pj, yf_pa, yh_pi, yh_pj, yh_pa, yt_pi, yt_pj, yt_pa, la_pi, la_pj, la_pa]; assumption)) only [b_X12_give_0, b_X12_give_13, b_X12_give_23, b_X12_give_18, b_X12_give_27, b_X12_give_33, b_X12_give_38, i_lit, i_m1, i_31, il_t, il_f, iq_t, iq_f, it_t, it_f, im_e, im_l, im_g, im_g2, nI_add, pk_mul, i_sub, i_div, sdm, i_dec, i_cl, iv_t, bI_or2, bI_t0, bI_one, not_true_eq_false, not_false_eq_true, ↓reduceIte, am_tl, am_tn, am_t0, am_n0, and_true, true_and, List.cons_append, List.nil_append, List.append_nil]
    have fr := ((fr0.tr (fr1.le (fun a k z => z.X))).tr (fr2.le (fun a k z => z.X))).tr fr3
    exact k h3 fr (C.facts ok fr F3 R3)
  · rw [if_neg z] at k
    simp (disch := first | assumption | omega | (simp only [ya_pi, ya_pj, ya_pa, ya_pr, yo_pi, yo_pj, yo_pa, yf_pi, yf_pj, yf_pa, yh_pi, yh_pj, yh_pa, yt_pi, yt_pj, yt_pa, la_pi, la_pj, la_pa]; assumption)) only [b_X12_give_0, b_X12_give_13, b_X12_give_23, b_X12_give_18, b_X12_give_27, b_X12_give_33, b_X12_give_38, i_lit, i_m1, i_31, il_t, il_f, iq_t, iq_f, it_t, it_f, im_e, im_l, im_g, im_g2, nI_add, pk_mul, i_sub, i_div, sdm, i_dec, i_cl, iv_t, bI_or2, bI_t0, bI_one, not_true_eq_false, not_false_eq_true, ↓reduceIte, am_tl, am_tn, am_t0, am_n0, and_true, true_and, List.cons_append, List.nil_append, List.append_nil, c_whyGive gd.1 C0.rfa, z]
    exact k _ fr0 C0
theorem c_rTake {d : Nat} {Q : Option am_V → am_H → Prop} {h : am_H} {S : St} {c p : Int32} {l3 : Option am_V} (ok : St_ok S) (C : rI h S) (k : ∀ h', am_fr h h' rX → rI h' (kS S (d_rem (s_f S) c p) c).2 → Q (some (v_i (kS S (d_rem (s_f S) c p) c).1)) h') : ex_ (d + 5) 295 0 [some (v_r (some 93)), some (v_i c), some (v_i p), l3] [] h Q := by
  have L := C.1
  obtain ⟨C0, fr0⟩ := C.p0 ok
  have gd : fa_gd (s_f S) := ok.1.1.1
  have n10 := gd.1.1
  have L0 := C0.1
  unfold kS at k
  by_cases z : (d_rem (s_f S) c p).1 = nI 0
  · rw [if_pos z] at k
    simp (disch := first | assumption | omega | (simp only [ya_pi, ya_pj, ya_pa, ya_pr, yo_pi, yo_pj, yo_pa, yf_pi, yf_pj, yf_pa, yh_pi, yh_pj, yh_pa, yt_pi, yt_pj, yt_pa, la_pi, la_pj, la_pa]; assumption)) only [b_X12_take_0, b_X12_take_13, b_X12_take_23, b_X12_take_18, b_X12_take_27, b_X12_take_35, b_X12_take_38, b_X12_take_43, i_lit, i_m1, i_31, il_t, il_f, iq_t, iq_f, it_t, it_f, im_e, im_l, im_g, im_g2, nI_add, pk_mul, i_sub, i_div, sdm, i_dec, i_cl, iv_t, bI_or2, bI_t0, bI_one, not_true_eq_false, not_false_eq_true, ↓reduceIte, am_tl, am_tn, am_t0, am_n0, and_true, true_and, List.cons_append, List.nil_append, List.append_nil, c_whyTake gd.1 C0.rfa, z]
    obtain ⟨a, q, i, rfl, rfl, ha, hq, hi, e⟩ := d_rem_0 n10 z
    have gdr := gd_rem gd (c := nI a) (p := nI q)
    have fnr := fn_rem (f := s_f S) (c := nI a) (p := nI q)
    rw [nI_clamp (by omega)] at k
    refine c_rStores ok C0 (fun h1 fr1 C1 B1 => ?_)
    have L1 := C1.1
    simp (disch := first | assumption | omega | (simp only [ya_pi, ya_pj, ya_pa, ya_pr, yo_pi, yo_pj, yo_pa, yf_pi, yf_pj, yf_pa, yh_pi, yh_pj, yh_pa, yt_pi, yt_pj, yt_pa, la_pi, la_pj, la_pa]; assumption)) only [b_X12_take_0, b_X12_take_13, b_X12_take_23, b_X12_take_18, b_X12_take_27, b_X12_take_35, b_X12_take_38, b_X12_take_43, i_lit, i_m1, i_31, il_t, il_f, iq_t, iq_f, it_t, it_f, im_e, im_l, im_g, im_g2, nI_add, pk_mul, i_sub, i_div, sdm, i_dec, i_cl, iv_t, bI_or2, bI_t0, bI_one, not_true_eq_false, not_false_eq_true, ↓reduceIte, am_tl, am_tn, am_t0, am_n0, and_true, true_and, List.cons_append, List.nil_append, List.append_nil, c_placeOfParent gd.1 C1.rfa (show a < 10 by omega) (show q < 2147483648 by omega), hi, oI]
    refine c_goesTake gd.1 C1.rfa (show a < 10 by omega) (pl_some hi).1 (fun h2 fr2 F2 => ?_)
    have L2 := F2.1
    rw [← e] at F2
    simp (disch := first | assumption | omega | (simp only [ya_pi, ya_pj, ya_pa, ya_pr, yo_pi, yo_pj, yo_pa, yf_pi, yf_pj, yf_pa, yh_pi, yh_pj, yh_pa, yt_pi, yt_pj, yt_pa, la_pi, la_pj, la_pa]; assumption)) only [b_X12_take_0, b_X12_take_13, b_X12_take_23, b_X12_take_18, b_X12_take_27, b_X12_take_35, b_X12_take_38, b_X12_take_43, i_lit, i_m1, i_31, il_t, il_f, iq_t, iq_f, it_t, it_f, im_e, im_l, im_g, im_g2, nI_add, pk_mul, i_sub, i_div, sdm, i_dec, i_cl, iv_t, bI_or2, bI_t0, bI_one, not_true_eq_false, not_false_eq_true, ↓reduceIte, am_tl, am_tn, am_t0, am_n0, and_true, true_and, List.cons_append, List.nil_append, List.append_nil]
    refine c_endsWith gdr gd (okp ok) F2 (fb105 gd B1 fr2) (fr2.rpa L1 (okp ok) C1.2.2.1 (fun k h1 h2 => by unfold rF; omega)) (show a < f_n _ by rw [fnr]; exact ha) (fun h3 fr3 F3 R3 => ?_)
    simp (disch := first | assumption | omega | (simp only [ya_pi, ya_pj, ya_pa, ya_pr, yo_pi, yo_pj, yo_pa, yf_pi, yf_pj, yf_pa, yh_pi, yh_pj, yh_pa, yt_pi, yt_pj, yt_pa, la_pi, la_pj, la_pa]; assumption)) only [b_X12_take_0, b_X12_take_13, b_X12_take_23, b_X12_take_18, b_X12_take_27, b_X12_take_35, b_X12_take_38, b_X12_take_43, i_lit, i_m1, i_31, il_t, il_f, iq_t, iq_f, it_t, it_f, im_e, im_l, im_g, im_g2, nI_add, pk_mul, i_sub, i_div, sdm, i_dec, i_cl, iv_t, bI_or2, bI_t0, bI_one, not_true_eq_false, not_false_eq_true, ↓reduceIte, am_tl, am_tn, am_t0, am_n0, and_true, true_and, List.cons_append, List.nil_append, List.append_nil]
    have fr := ((fr0.tr (fr1.le (fun a k z => z.X))).tr (fr2.le (fun a k z => z.X))).tr fr3
    exact k h3 fr (C.facts ok fr F3 R3)
  · rw [if_neg z] at k
    simp (disch := first | assumption | omega | (simp only [ya_pi, ya_pj, ya_pa, ya_pr, yo_pi, yo_pj, yo_pa, yf_pi, yf_pj, yf_pa, yh_pi, yh_pj, yh_pa, yt_pi, yt_pj, yt_pa, la_pi, la_pj, la_pa]; assumption)) only [b_X12_take_0, b_X12_take_13, b_X12_take_23, b_X12_take_18, b_X12_take_27, b_X12_take_35, b_X12_take_38, b_X12_take_43, i_lit, i_m1, i_31, il_t, il_f, iq_t, iq_f, it_t, it_f, im_e, im_l, im_g, im_g2, nI_add, pk_mul, i_sub, i_div, sdm, i_dec, i_cl, iv_t, bI_or2, bI_t0, bI_one, not_true_eq_false, not_false_eq_true, ↓reduceIte, am_tl, am_tn, am_t0, am_n0, and_true, true_and, List.cons_append, List.nil_append, List.append_nil, c_whyTake gd.1 C0.rfa, z]
    exact k _ fr0 C0
theorem c_rSwap {d : Nat} {Q : Option am_V → am_H → Prop} {h : am_H} {S : St} {c p : Int32} {l3 : Option am_V} (ok : St_ok S) (C : rI h S) (k : ∀ h', am_fr h h' rX → rI h' (kS S (d_swap (s_f S) c p) c).2 → Q (some (v_i (kS S (d_swap (s_f S) c p) c).1)) h') : ex_ (d + 5) 296 0 [some (v_r (some 93)), some (v_i c), some (v_i p), l3] [] h Q := by
  have L := C.1
  obtain ⟨C0, fr0⟩ := C.p0 ok
  have gd : fa_gd (s_f S) := ok.1.1.1
  have n10 := gd.1.1
  have L0 := C0.1
  unfold kS at k
  by_cases z : (d_swap (s_f S) c p).1 = nI 0
  · rw [if_pos z] at k
    simp (disch := first | assumption | omega | (simp only [ya_pi, ya_pj, ya_pa, ya_pr, yo_pi, yo_pj, yo_pa, yf_pi, yf_pj, yf_pa, yh_pi, yh_pj, yh_pa, yt_pi, yt_pj, yt_pa, la_pi, la_pj, la_pa]; assumption)) only [b_X12_swap_0, b_X12_swap_13, b_X12_swap_23, b_X12_swap_18, b_X12_swap_27, b_X12_swap_33, b_X12_swap_38, i_lit, i_m1, i_31, il_t, il_f, iq_t, iq_f, it_t, it_f, im_e, im_l, im_g, im_g2, nI_add, pk_mul, i_sub, i_div, sdm, i_dec, i_cl, iv_t, bI_or2, bI_t0, bI_one, not_true_eq_false, not_false_eq_true, ↓reduceIte, am_tl, am_tn, am_t0, am_n0, and_true, true_and, List.cons_append, List.nil_append, List.append_nil, c_whySwap gd.1 C0.rfa, z]
    obtain ⟨a, i, rfl, rfl, hi, ha, h4, e⟩ := d_swap_0 n10 z
    have gdr := gd_swap gd (c := nI a) (x := nI i)
    have fnr := fn_swap (f := s_f S) (c := nI a) (p := nI i)
    rw [nI_clamp (by omega)] at k
    refine c_rStores ok C0 (fun h1 fr1 C1 B1 => ?_)
    have L1 := C1.1
    simp (disch := first | assumption | omega | (simp only [ya_pi, ya_pj, ya_pa, ya_pr, yo_pi, yo_pj, yo_pa, yf_pi, yf_pj, yf_pa, yh_pi, yh_pj, yh_pa, yt_pi, yt_pj, yt_pa, la_pi, la_pj, la_pa]; assumption)) only [b_X12_swap_0, b_X12_swap_13, b_X12_swap_23, b_X12_swap_18, b_X12_swap_27, b_X12_swap_33, b_X12_swap_38, i_lit, i_m1, i_31, il_t, il_f, iq_t, iq_f, it_t, it_f, im_e, im_l, im_g, im_g2, nI_add, pk_mul, i_sub, i_div, sdm, i_dec, i_cl, iv_t, bI_or2, bI_t0, bI_one, not_true_eq_false, not_false_eq_true, ↓reduceIte, am_tl, am_tn, am_t0, am_n0, and_true, true_and, List.cons_append, List.nil_append, List.append_nil]
    refine c_goesSwap gd.1 C1.rfa (show a < 10 by omega) h4 (fun h2 fr2 F2 => ?_)
    have L2 := F2.1
    rw [← e] at F2
    simp (disch := first | assumption | omega | (simp only [ya_pi, ya_pj, ya_pa, ya_pr, yo_pi, yo_pj, yo_pa, yf_pi, yf_pj, yf_pa, yh_pi, yh_pj, yh_pa, yt_pi, yt_pj, yt_pa, la_pi, la_pj, la_pa]; assumption)) only [b_X12_swap_0, b_X12_swap_13, b_X12_swap_23, b_X12_swap_18, b_X12_swap_27, b_X12_swap_33, b_X12_swap_38, i_lit, i_m1, i_31, il_t, il_f, iq_t, iq_f, it_t, it_f, im_e, im_l, im_g, im_g2, nI_add, pk_mul, i_sub, i_div, sdm, i_dec, i_cl, iv_t, bI_or2, bI_t0, bI_one, not_true_eq_false, not_false_eq_true, ↓reduceIte, am_tl, am_tn, am_t0, am_n0, and_true, true_and, List.cons_append, List.nil_append, List.append_nil]
    refine c_endsWith gdr gd (okp ok) F2 (fb105 gd B1 fr2) (fr2.rpa L1 (okp ok) C1.2.2.1 (fun k h1 h2 => by unfold rF; omega)) (show a < f_n _ by rw [fnr]; exact ha) (fun h3 fr3 F3 R3 => ?_)
    simp (disch := first | assumption | omega | (simp only [ya_pi, ya_pj, ya_pa, ya_pr, yo_pi, yo_pj, yo_pa, yf_pi, yf_pj, yf_pa, yh_pi, yh_pj, yh_pa, yt_pi, yt_pj, yt_pa, la_pi, la_pj, la_pa]; assumption)) only [b_X12_swap_0, b_X12_swap_13, b_X12_swap_23, b_X12_swap_18, b_X12_swap_27, b_X12_swap_33, b_X12_swap_38, i_lit, i_m1, i_31, il_t, il_f, iq_t, iq_f, it_t, it_f, im_e, im_l, im_g, im_g2, nI_add, pk_mul, i_sub, i_div, sdm, i_dec, i_cl, iv_t, bI_or2, bI_t0, bI_one, not_true_eq_false, not_false_eq_true, ↓reduceIte, am_tl, am_tn, am_t0, am_n0, and_true, true_and, List.cons_append, List.nil_append, List.append_nil]
    have fr := ((fr0.tr (fr1.le (fun a k z => z.X))).tr (fr2.le (fun a k z => z.X))).tr fr3
    exact k h3 fr (C.facts ok fr F3 R3)
  · rw [if_neg z] at k
    simp (disch := first | assumption | omega | (simp only [ya_pi, ya_pj, ya_pa, ya_pr, yo_pi, yo_pj, yo_pa, yf_pi, yf_pj, yf_pa, yh_pi, yh_pj, yh_pa, yt_pi, yt_pj, yt_pa, la_pi, la_pj, la_pa]; assumption)) only [b_X12_swap_0, b_X12_swap_13, b_X12_swap_23, b_X12_swap_18, b_X12_swap_27, b_X12_swap_33, b_X12_swap_38, i_lit, i_m1, i_31, il_t, il_f, iq_t, iq_f, it_t, it_f, im_e, im_l, im_g, im_g2, nI_add, pk_mul, i_sub, i_div, sdm, i_dec, i_cl, iv_t, bI_or2, bI_t0, bI_one, not_true_eq_false, not_false_eq_true, ↓reduceIte, am_tl, am_tn, am_t0, am_n0, and_true, true_and, List.cons_append, List.nil_append, List.append_nil, c_whySwap gd.1 C0.rfa, z]
    exact k _ fr0 C0
theorem c_rDefine {d : Nat} {Q : Option am_V → am_H → Prop} {h : am_H} {S : St} {c m w : Int32} {l4 : Option am_V} (ok : St_ok S) (C : rI h S) (k : ∀ h', am_fr h h' rX → rI h' (kB S (d_def (s_f S) c m w) (f_d (s_f S) c.toNatClampNeg m.toNatClampNeg)).2 → Q (some (v_i (kB S (d_def (s_f S) c m w) (f_d (s_f S) c.toNatClampNeg m.toNatClampNeg)).1)) h') : ex_ (d + 5) 297 0 [some (v_r (some 93)), some (v_i c), some (v_i m), some (v_i w), l4] [] h Q := by
  have L := C.1
  obtain ⟨C0, fr0⟩ := C.p0 ok
  have gd : fa_gd (s_f S) := ok.1.1.1
  have n10 := gd.1.1
  have L0 := C0.1
  unfold kB at k
  by_cases z : (d_def (s_f S) c m w).1 = nI 0
  · rw [if_pos z] at k
    simp (disch := first | assumption | omega | (simp only [ya_pi, ya_pj, ya_pa, ya_pr, yo_pi, yo_pj, yo_pa, yf_pi, yf_pj, yf_pa, yh_pi, yh_pj, yh_pa, yt_pi, yt_pj, yt_pa, la_pi, la_pj, la_pa]; assumption)) only [b_X12_define_0, b_X12_define_15, b_X12_define_28, b_X12_define_22, b_X12_define_32, b_X12_define_55, i_lit, i_m1, i_31, il_t, il_f, iq_t, iq_f, it_t, it_f, im_e, im_l, im_g, im_g2, nI_add, pk_mul, i_sub, i_div, sdm, i_dec, i_cl, iv_t, bI_or2, bI_t0, bI_one, not_true_eq_false, not_false_eq_true, ↓reduceIte, am_tl, am_tn, am_t0, am_n0, and_true, true_and, List.cons_append, List.nil_append, List.append_nil, c_whyDefine gd C0.rfa, z]
    obtain ⟨a, j, i, rfl, rfl, rfl, ha, hj, hi, e⟩ := d_def_0 n10 z
    have gdr := gd_def gd (c := nI a) (m := nI j) (w := nI i)
    rw [nI_clamp (by omega), nI_clamp (by omega)] at k
    refine c_rStores ok C0 (fun h1 fr1 C1 B1 => ?_)
    have L1 := C1.1
    simp (disch := first | assumption | omega | (simp only [ya_pi, ya_pj, ya_pa, ya_pr, yo_pi, yo_pj, yo_pa, yf_pi, yf_pj, yf_pa, yh_pi, yh_pj, yh_pa, yt_pi, yt_pj, yt_pa, la_pi, la_pj, la_pa]; assumption)) only [b_X12_define_0, b_X12_define_15, b_X12_define_28, b_X12_define_22, b_X12_define_32, b_X12_define_55, i_lit, i_m1, i_31, il_t, il_f, iq_t, iq_f, it_t, it_f, im_e, im_l, im_g, im_g2, nI_add, pk_mul, i_sub, i_div, sdm, i_dec, i_cl, iv_t, bI_or2, bI_t0, bI_one, not_true_eq_false, not_false_eq_true, ↓reduceIte, am_tl, am_tn, am_t0, am_n0, and_true, true_and, List.cons_append, List.nil_append, List.append_nil]
    have F2 := rfa_setd (v := nI ((i + 1) % 3)) (fa_len gd) C1.rfa (show a < 10 by omega) hj
    have fr2 : am_fr h1 (p_i h1 94 (58 + 8 * a + j) (nI ((i + 1) % 3))) rF := am_fr_pi (by unfold rF; omega)
    rw [← e] at F2
    refine c_notes F2.1 gd.1 (okpf ok) (fr2.rpa L1 (okp ok) C1.2.2.1 (fun k h1 h2 => by unfold rF; omega)) (fb105 gd B1 fr2) (fun h3 fr3 R3 => ?_)
    have F3 := fr3.rfa gdr.1 F2 (fun k hk => by unfold rN; omega)
    have L3 := F3.1
    have B3 : fb h3 105 0 (s_f S) := fr3.fb (fa_len gd) (fb105 gd B1 fr2) (fun k _ _ => by unfold rN; omega)
    have ed := B3.2.2.1 a j (by omega) hj
    rw [show 0 + 50 + (8 * a + j) = 50 + 8 * a + j from by omega] at ed
    simp (disch := first | assumption | omega | (simp only [ya_pi, ya_pj, ya_pa, ya_pr, yo_pi, yo_pj, yo_pa, yf_pi, yf_pj, yf_pa, yh_pi, yh_pj, yh_pa, yt_pi, yt_pj, yt_pa, la_pi, la_pj, la_pa]; assumption)) only [b_X12_define_0, b_X12_define_15, b_X12_define_28, b_X12_define_22, b_X12_define_32, b_X12_define_55, i_lit, i_m1, i_31, il_t, il_f, iq_t, iq_f, it_t, it_f, im_e, im_l, im_g, im_g2, nI_add, pk_mul, i_sub, i_div, sdm, i_dec, i_cl, iv_t, bI_or2, bI_t0, bI_one, not_true_eq_false, not_false_eq_true, ↓reduceIte, am_tl, am_tn, am_t0, am_n0, and_true, true_and, List.cons_append, List.nil_append, List.append_nil, ed]
    have fr := ((fr0.tr (fr1.le (fun a k z => z.X))).tr (fr2.le (fun a k z => z.X))).tr (fr3.le (fun a k z => z.X))
    exact k h3 fr (C.facts ok fr F3 R3)
  · rw [if_neg z] at k
    simp (disch := first | assumption | omega | (simp only [ya_pi, ya_pj, ya_pa, ya_pr, yo_pi, yo_pj, yo_pa, yf_pi, yf_pj, yf_pa, yh_pi, yh_pj, yh_pa, yt_pi, yt_pj, yt_pa, la_pi, la_pj, la_pa]; assumption)) only [b_X12_define_0, b_X12_define_15, b_X12_define_28, b_X12_define_22, b_X12_define_32, b_X12_define_55, i_lit, i_m1, i_31, il_t, il_f, iq_t, iq_f, it_t, it_f, im_e, im_l, im_g, im_g2, nI_add, pk_mul, i_sub, i_div, sdm, i_dec, i_cl, iv_t, bI_or2, bI_t0, bI_one, not_true_eq_false, not_false_eq_true, ↓reduceIte, am_tl, am_tn, am_t0, am_n0, and_true, true_and, List.cons_append, List.nil_append, List.append_nil, c_whyDefine gd C0.rfa, z]
    exact k _ fr0 C0
theorem e11 : -(nI 10) - nI 1 = -(nI 11) := by decide
theorem w9 {v : Int64} : (v < lN 0 ∨ lN 9 < v) = ¬ lh 10 v := w_iff (n := 10) (by omega) (v := v)
theorem c_rMood {d : Nat} {Q : Option am_V → am_H → Prop} {h : am_H} {S : St} {x : Int32} (ok : St_ok S) (C : rI h S) (k : ∀ h', am_fr h h' rX → rI h' (kB S (d_mood (s_f S) x) (f_m (s_f S))).2 → Q (some (v_i (kB S (d_mood (s_f S) x) (f_m (s_f S))).1)) h') : ex_ (d + 5) 298 0 [some (v_r (some 93)), some (v_i x)] [] h Q := by
  have L := C.1
  obtain ⟨C0, fr0⟩ := C.p0 ok
  have gd : fa_gd (s_f S) := ok.1.1.1
  have L0 := C0.1
  unfold kB at k
  by_cases z : (d_mood (s_f S) x).1 = nI 0
  · rw [if_pos z] at k
    obtain ⟨a, rfl, ha, e⟩ := d_mood_0 z
    have gdr := gd_mood gd (x := nI a)
    simp (disch := first | assumption | omega | (simp only [ya_pi, ya_pj, ya_pa, ya_pr, yo_pi, yo_pj, yo_pa, yf_pi, yf_pj, yf_pa, yh_pi, yh_pj, yh_pa, yt_pi, yt_pj, yt_pa, la_pi, la_pj, la_pa]; assumption)) only [b_X12_mood_0, b_X12_mood_14, b_X12_mood_20, b_X12_mood_17, b_X12_mood_24, b_X12_mood_37, i_lit, i_m1, i_31, il_t, il_f, iq_t, iq_f, it_t, it_f, im_e, im_l, im_g, im_g2, nI_add, pk_mul, i_sub, i_div, sdm, i_dec, i_cl, iv_t, bI_or2, bI_t0, bI_one, not_true_eq_false, not_false_eq_true, ↓reduceIte, am_tl, am_tn, am_t0, am_n0, and_true, true_and, List.cons_append, List.nil_append, List.append_nil, nI_l, l_lit, c_within_y]
    refine c_rStores ok C0 (fun h1 fr1 C1 B1 => ?_)
    have L1 := C1.1
    simp (disch := first | assumption | omega | (simp only [ya_pi, ya_pj, ya_pa, ya_pr, yo_pi, yo_pj, yo_pa, yf_pi, yf_pj, yf_pa, yh_pi, yh_pj, yh_pa, yt_pi, yt_pj, yt_pa, la_pi, la_pj, la_pa]; assumption)) only [b_X12_mood_0, b_X12_mood_14, b_X12_mood_20, b_X12_mood_17, b_X12_mood_24, b_X12_mood_37, i_lit, i_m1, i_31, il_t, il_f, iq_t, iq_f, it_t, it_f, im_e, im_l, im_g, im_g2, nI_add, pk_mul, i_sub, i_div, sdm, i_dec, i_cl, iv_t, bI_or2, bI_t0, bI_one, not_true_eq_false, not_false_eq_true, ↓reduceIte, am_tl, am_tn, am_t0, am_n0, and_true, true_and, List.cons_append, List.nil_append, List.append_nil]
    have F2 := rfa_setm (v := nI a) (fa_len gd) C1.rfa
    have fr2 : am_fr h1 (p_i h1 94 138 (nI a)) rF := am_fr_pi (by unfold rF; omega)
    rw [← e] at F2
    refine c_notes F2.1 gd.1 (okpf ok) (fr2.rpa L1 (okp ok) C1.2.2.1 (fun k h1 h2 => by unfold rF; omega)) (fb105 gd B1 fr2) (fun h3 fr3 R3 => ?_)
    have F3 := fr3.rfa gdr.1 F2 (fun k hk => by unfold rN; omega)
    have L3 := F3.1
    have B3 : fb h3 105 0 (s_f S) := fr3.fb (fa_len gd) (fb105 gd B1 fr2) (fun k _ _ => by unfold rN; omega)
    have ed : h_i h3 105 130 = f_m (s_f S) := B3.2.2.2
    simp (disch := first | assumption | omega | (simp only [ya_pi, ya_pj, ya_pa, ya_pr, yo_pi, yo_pj, yo_pa, yf_pi, yf_pj, yf_pa, yh_pi, yh_pj, yh_pa, yt_pi, yt_pj, yt_pa, la_pi, la_pj, la_pa]; assumption)) only [b_X12_mood_0, b_X12_mood_14, b_X12_mood_20, b_X12_mood_17, b_X12_mood_24, b_X12_mood_37, i_lit, i_m1, i_31, il_t, il_f, iq_t, iq_f, it_t, it_f, im_e, im_l, im_g, im_g2, nI_add, pk_mul, i_sub, i_div, sdm, i_dec, i_cl, iv_t, bI_or2, bI_t0, bI_one, not_true_eq_false, not_false_eq_true, ↓reduceIte, am_tl, am_tn, am_t0, am_n0, and_true, true_and, List.cons_append, List.nil_append, List.append_nil, ed]
    have fr := ((fr0.tr (fr1.le (fun a k z => z.X))).tr (fr2.le (fun a k z => z.X))).tr (fr3.le (fun a k z => z.X))
    exact k h3 fr (C.facts ok fr F3 R3)
  · rw [if_neg z] at k
    have hx : ¬ (¬ x < 0 ∧ x < nI 10) := fun y => z (by unfold d_mood; rw [if_pos y])
    have e1 : (d_mood (s_f S) x).1 = nI 1 := by unfold d_mood; rw [if_neg hx]
    rw [e1, e11] at k
    have w : x.toInt64 < lN 0 ∨ lN 9 < x.toInt64 := by
      rw [w9]
      exact fun y => hx ((hs_32 (by omega)).1 y)
    simp (disch := first | assumption | omega | (simp only [ya_pi, ya_pj, ya_pa, ya_pr, yo_pi, yo_pj, yo_pa, yf_pi, yf_pj, yf_pa, yh_pi, yh_pj, yh_pa, yt_pi, yt_pj, yt_pa, la_pi, la_pj, la_pa]; assumption)) only [b_X12_mood_0, b_X12_mood_14, b_X12_mood_20, b_X12_mood_17, b_X12_mood_24, b_X12_mood_37, i_lit, i_m1, i_31, il_t, il_f, iq_t, iq_f, it_t, it_f, im_e, im_l, im_g, im_g2, nI_add, pk_mul, i_sub, i_div, sdm, i_dec, i_cl, iv_t, bI_or2, bI_t0, bI_one, not_true_eq_false, not_false_eq_true, ↓reduceIte, am_tl, am_tn, am_t0, am_n0, and_true, true_and, List.cons_append, List.nil_append, List.append_nil, l_lit, c_within_n w]
    exact k _ fr0 C0
theorem c_rUndo {d : Nat} {Q : Option am_V → am_H → Prop} {h : am_H} {S : St} {n : Int32} {l2 : Option am_V} (ok : St_ok S) (C : rI h S) (k : ∀ h', am_fr h h' rX → rI h' (t_undo S n).2 → Q (some (v_i (t_undo S n).1)) h') : ex_ (d + 5) 299 0 [some (v_r (some 93)), some (v_i n), l2] [] h Q := by
  have L := C.1
  obtain ⟨C0, fr0⟩ := C.p0 ok
  have gd : fa_gd (s_f S) := ok.1.1.1
  have L0 := C0.1
  have l10 := ok.2.1.1
  have e139 := C0.2.2.1.1
  unfold t_undo at k
  by_cases z : n < nI 1
  · rw [if_neg (fun w => w.1 z)] at k
    have w : n.toInt64 < lN 1 ∨ lN 10 < n.toInt64 := Or.inl (by rw [← nI_l (n := 1) (by omega), lg64]; exact z)
    simp (disch := first | assumption | omega | (simp only [ya_pi, ya_pj, ya_pa, ya_pr, yo_pi, yo_pj, yo_pa, yf_pi, yf_pj, yf_pa, yh_pi, yh_pj, yh_pa, yt_pi, yt_pj, yt_pa, la_pi, la_pj, la_pa]; assumption)) only [b_X12_undo_0, b_X12_undo_14, b_X12_undo_29, b_X12_undo_17, b_X12_undo_32, b_X12_undo_91, b_X12_undo_53, i_lit, i_m1, i_31, il_t, il_f, iq_t, iq_f, it_t, it_f, im_e, im_l, im_g, im_g2, nI_add, pk_mul, i_sub, i_div, sdm, i_dec, i_cl, iv_t, bI_or2, bI_t0, bI_one, not_true_eq_false, not_false_eq_true, ↓reduceIte, am_tl, am_tn, am_t0, am_n0, and_true, true_and, List.cons_append, List.nil_append, List.append_nil, l_lit, c_within_n w]
    exact k _ fr0 C0
  · obtain ⟨n, h1, hn, rfl⟩ := lt_1 z
    by_cases y : n ≤ (s_p S).length
    · rw [if_pos ⟨z, nI_le y (by omega)⟩, nI_clamp hn] at k
      generalize hm : (s_p S).length - n = m at k
      have m10 : m < (s_p S).length := by omega
      have gdm : fa_gd ((s_p S).getD m f_0) := (ok.2.1.2 _ (gdF_mem m10)).1
      have fnm : f_n ((s_p S).getD m f_0) = f_n (s_f S) := (ok.2.1.2 _ (gdF_mem m10)).2
      simp (disch := first | assumption | omega | (simp only [ya_pi, ya_pj, ya_pa, ya_pr, yo_pi, yo_pj, yo_pa, yf_pi, yf_pj, yf_pa, yh_pi, yh_pj, yh_pa, yt_pi, yt_pj, yt_pa, la_pi, la_pj, la_pa]; assumption)) only [b_X12_undo_0, b_X12_undo_14, b_X12_undo_29, b_X12_undo_17, b_X12_undo_32, b_X12_undo_91, b_X12_undo_53, i_lit, i_m1, i_31, il_t, il_f, iq_t, iq_f, it_t, it_f, im_e, im_l, im_g, im_g2, nI_add, pk_mul, i_sub, i_div, sdm, i_dec, i_cl, iv_t, bI_or2, bI_t0, bI_one, not_true_eq_false, not_false_eq_true, ↓reduceIte, am_tl, am_tn, am_t0, am_n0, and_true, true_and, List.cons_append, List.nil_append, List.append_nil, nI_l, l_lit, c_within_y, e139, hm]
      generalize hh : p_i (p_i h 93 0 (nI 0)) 94 139 (nI m) = h2
      have fr2 : am_fr (p_i h 93 0 (nI 0)) h2 (fun a k => a = 94 ∧ k = 139) := by rw [← hh]; exact am_fr_pi ⟨rfl, rfl⟩
      have L2 := fr2.lay L0
      have q2 : h_i h2 94 139 = nI m := by rw [← hh]; exact hi_s
      refine lp_up 131 (fun i (_ : Unit) => [some (v_r (some 93)), some (v_i (nI n)), some (v_i (nI i))]) (fun i _ h' => am_fr h2 h' rF ∧ ∀ j, j < i → h_i h' 94 (8 + j) = h_i h2 94 (140 + 131 * m + j)) ?_ ?_ (Nat.zero_le _) ⟨am_fr.rf, fun j hj => absurd hj (Nat.not_lt_zero _)⟩ (s := ())
      · rintro i - h3 hi ⟨fr3, e3⟩ nxt
        have L3 := fr3.lay L2
        have q3 : h_i h3 94 139 = nI m := by rw [fr3.i (by unfold rF; omega)]; exact q2
        have e140 : h_i h3 94 (140 + 131 * m + i) = h_i h2 94 (140 + 131 * m + i) := fr3.i (by unfold rF; omega)
        rw [b_X12_undo_46 _ _ _ _]
        simp (disch := first | assumption | omega | (simp only [ya_pi, ya_pj, ya_pa, ya_pr, yo_pi, yo_pj, yo_pa, yf_pi, yf_pj, yf_pa, yh_pi, yh_pj, yh_pa, yt_pi, yt_pj, yt_pa, la_pi, la_pj, la_pa]; assumption)) only [b_X12_undo_0, b_X12_undo_14, b_X12_undo_29, b_X12_undo_17, b_X12_undo_32, b_X12_undo_91, b_X12_undo_53, i_lit, i_m1, i_31, il_t, il_f, iq_t, iq_f, it_t, it_f, im_e, im_l, im_g, im_g2, nI_add, pk_mul, i_sub, i_div, sdm, i_dec, i_cl, iv_t, bI_or2, bI_t0, bI_one, not_true_eq_false, not_false_eq_true, ↓reduceIte, am_tl, am_tn, am_t0, am_n0, and_true, true_and, List.cons_append, List.nil_append, List.append_nil, q3, e140]
        refine nxt () _ ⟨fr3.pi (by unfold rF; omega), fun j hj => ?_⟩
        by_cases w : j = i
        · rw [w, hi_s]
        · rw [hi_k (by omega)]
          exact e3 j (by omega)
      · rintro - h3 ⟨fr3, e3⟩
        have L3 := fr3.lay L2
        have q3 : h_i h3 94 139 = nI m := by rw [fr3.i (by unfold rF; omega)]; exact q2
        rw [b_X12_undo_46 _ _ _ _]
        simp (disch := first | assumption | omega | (simp only [ya_pi, ya_pj, ya_pa, ya_pr, yo_pi, yo_pj, yo_pa, yf_pi, yf_pj, yf_pa, yh_pi, yh_pj, yh_pa, yt_pi, yt_pj, yt_pa, la_pi, la_pj, la_pa]; assumption)) only [b_X12_undo_0, b_X12_undo_14, b_X12_undo_29, b_X12_undo_17, b_X12_undo_32, b_X12_undo_91, b_X12_undo_53, i_lit, i_m1, i_31, il_t, il_f, iq_t, iq_f, it_t, it_f, im_e, im_l, im_g, im_g2, nI_add, pk_mul, i_sub, i_div, sdm, i_dec, i_cl, iv_t, bI_or2, bI_t0, bI_one, not_true_eq_false, not_false_eq_true, ↓reduceIte, am_tl, am_tn, am_t0, am_n0, and_true, true_and, List.cons_append, List.nil_append, List.append_nil, q3]
        have fr : am_fr h h3 rX := (fr0.tr (fr2.le (fun a k z => by unfold rX; omega))).tr (fr3.le (fun a k z => z.X))
        have lt : ((s_p S).take m).length = m := by rw [List.length_take]; omega
        have Bp := C0.2.2.1.2.2
        have B2 : ∀ j, j < (s_p S).length → fb h2 94 (140 + 131 * j) ((s_p S).getD j f_0) := fun j hj => fr2.fb (fa_len (okp ok _ (gdF_mem hj))) (Bp j hj) (fun k h1 h2 => by omega)
        refine k h3 fr (C.facts ok fr ⟨L3, ?_, fb_cp (fa_len gdm) (B2 m m10) (fun j hj => e3 j hj)⟩ ⟨?_, ?_, fun j hj => ?_⟩)
        · rw [fnm, fr3.i (by unfold rF; omega), fr2.i (by omega)]
          exact C0.rfa.2.1
        · rw [lt]; exact q3
        · rw [lt]; omega
        · rw [lt] at hj
          rw [gdF_tk hj]
          exact fr3.fb (fa_len (okp ok _ (gdF_mem (show j < (s_p S).length by omega)))) (B2 j (by omega)) (fun k h1 h2 => by unfold rF; omega)
    · rw [if_neg (fun w => y ((nI_leI hn (by omega)).1 w.2))] at k
      by_cases n10 : n ≤ 10
      · simp (disch := first | assumption | omega | (simp only [ya_pi, ya_pj, ya_pa, ya_pr, yo_pi, yo_pj, yo_pa, yf_pi, yf_pj, yf_pa, yh_pi, yh_pj, yh_pa, yt_pi, yt_pj, yt_pa, la_pi, la_pj, la_pa]; assumption)) only [b_X12_undo_0, b_X12_undo_14, b_X12_undo_29, b_X12_undo_17, b_X12_undo_32, b_X12_undo_91, b_X12_undo_53, i_lit, i_m1, i_31, il_t, il_f, iq_t, iq_f, it_t, it_f, im_e, im_l, im_g, im_g2, nI_add, pk_mul, i_sub, i_div, sdm, i_dec, i_cl, iv_t, bI_or2, bI_t0, bI_one, not_true_eq_false, not_false_eq_true, ↓reduceIte, am_tl, am_tn, am_t0, am_n0, and_true, true_and, List.cons_append, List.nil_append, List.append_nil, nI_l, l_lit, c_within_y, e139]
        exact k _ fr0 C0
      · have w : (lN n) < lN 1 ∨ lN 10 < (lN n) := Or.inr ((pk_lLT (by omega) (by omega)).2 (by omega))
        simp (disch := first | assumption | omega | (simp only [ya_pi, ya_pj, ya_pa, ya_pr, yo_pi, yo_pj, yo_pa, yf_pi, yf_pj, yf_pa, yh_pi, yh_pj, yh_pa, yt_pi, yt_pj, yt_pa, la_pi, la_pj, la_pa]; assumption)) only [b_X12_undo_0, b_X12_undo_14, b_X12_undo_29, b_X12_undo_17, b_X12_undo_32, b_X12_undo_91, b_X12_undo_53, i_lit, i_m1, i_31, il_t, il_f, iq_t, iq_f, it_t, it_f, im_e, im_l, im_g, im_g2, nI_add, pk_mul, i_sub, i_div, sdm, i_dec, i_cl, iv_t, bI_or2, bI_t0, bI_one, not_true_eq_false, not_false_eq_true, ↓reduceIte, am_tl, am_tn, am_t0, am_n0, and_true, true_and, List.cons_append, List.nil_append, List.append_nil, nI_l, l_lit, c_within_n w]
        exact k _ fr0 C0
