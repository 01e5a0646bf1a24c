/-! ===== deeds of the class ===== -/
/-- what a call of the class may do to the heap -/
def gC (h h' : am_H) : Prop := gf h h' pC pC pC ∧ h_n h' ≤ h_n h + 1000 ∧ h_s h' ≤ h_s h + 2000
theorem gC.fr {h h' : am_H} {P : Nat → Nat → Prop} (a : am_fr h h' P) (hp : ∀ q k, P q k → pC q k) : gC h h' := ⟨(a.le hp).g, by rw [a.n]; omega, by have := congrArg Prod.snd a.1; show h'.1.2 ≤ h.1.2 + 2000; omega⟩
theorem gC.gj {h h' : am_H} {P J R : Nat → Nat → Prop} (a : gj h h' P J R) (hp : ∀ q k, P q k → pC q k) (hj : ∀ q k, J q k → pC q k) (hr : ∀ q k, R q k → pC q k) : gC h h' := ⟨a.2.le hp hj hr, by have := congrArg Prod.fst a.1; show h'.1.1 ≤ h.1.1 + 1000; omega, by have := congrArg Prod.snd a.1; show h'.1.2 ≤ h.1.2 + 2000; omega⟩
theorem cS_tr {S : St} {h h' : am_H} (ok : St_ok S) (C : cI h S) (fr : am_fr h h' cS) : cI h' S ∧ gC h h' := ⟨C.q ok fr, gC.fr fr (fun _ _ z => z.C)⟩
theorem lwA.ext {h : am_H} {W W' : Nat → Nat} {o r : Nat} {c : Option (List Nat)} (A : lwA h W o r c) (hW : ∀ a, a < h_n h → W' a = W a) : lwA h W' o r c := by
  cases c with
  | none => exact A
  | some l =>
    obtain ⟨q, e, w, A⟩ := A
    refine ⟨q, e, ⟨w.1, fun k hk => ?_⟩, A⟩
    have := A.1.1
    rw [hW _ (by omega)]
    exact w.2 k hk
theorem hoA.ext {h : am_H} {W W' : Nat → Nat} {o : Nat} {H : ho_S} (A : hoA h W o H) (hW : ∀ a, a < h_n h → W' a = W a) : hoA h W' o H := ⟨A.1, A.2.1, A.2.2.1.ext hW, A.2.2.2.1.ext hW, A.2.2.2.2⟩
theorem imA.ext {h : am_H} {W W' : Nat → Nat} {im : Nat → Option ho_S} (A : imA h W im) (hW : ∀ a, a < h_n h → W' a = W a) : imA h W' im := by
  intro i hi
  have A := A i hi
  cases z : im i with
  | none => rw [z] at A; exact A
  | some H =>
    rw [z] at A
    obtain ⟨o, e, w, A⟩ := A
    have n4 := (A.1.1 4 rfl).1
    exact ⟨o, e, ⟨w.1, fun k hk => by rw [hW _ (by omega)]; exact w.2 k hk⟩, A.ext hW⟩
theorem paA.ext {h : am_H} {W W' : Nat → Nat} {e : Nat} {l : List fa_S} (A : paA h W e l) (hW : ∀ a, a < h_n h → W' a = W a) : paA h W' e l := ⟨A.1, A.2.1, A.2.2.1, fun j hj => by
  rcases A.2.2.2.1 j hj with z | ⟨o, z, Y, w⟩
  · exact Or.inl z
  · have n3 := (Y.1 3 rfl).1
    exact Or.inr ⟨o, z, Y, w.1, fun k hk => by rw [hW _ (by omega)]; exact w.2 k hk⟩, A.2.2.2.2⟩
def setF (S : St) (f : fa_S) (p : List fa_S) : St := ((f, S.1.2), p, S.2.2)
def deed (S : St) (f : fa_S) : St := setF S f (ps_push (s_p S) (s_f S))
theorem ps_mem {l : List fa_S} {f g : fa_S} (h : g ∈ ps_push l f) : g ∈ l ∨ g = f := by
  unfold ps_push at h
  rcases List.mem_append.1 h with h | h
  · split at h
    · exact Or.inl (List.mem_of_mem_tail h)
    · exact Or.inl h
  · exact Or.inr (List.mem_singleton.1 h)
theorem deed_ok {S : St} (ok : St_ok S) {g : fa_S} (gd : fa_gd g) (hn : f_n g = f_n (s_f S)) : St_ok (deed S g) := by
  obtain ⟨o1, o2, o3, o4, o5⟩ := ok
  refine ⟨⟨⟨gd, o1.1.2⟩, o1.2⟩, ⟨?_, fun q hq => ?_⟩, o3, o4, o5⟩
  · show (ps_push (s_p S) (s_f S)).length ≤ 10
    rw [ps_len o2.1]
    have := o2.1
    split <;> omega
  · have hq : q ∈ ps_push (s_p S) (s_f S) := hq
    rcases ps_mem hq with hq | rfl
    · exact ⟨(o2.2 q hq).1, (o2.2 q hq).2.trans hn.symm⟩
    · exact ⟨o1.1.1, hn.symm⟩
/-- the orders' cells, and what is known no more -/
def sP (a k : Nat) : Prop := (16 ≤ a ∧ a ≤ 24) ∨ (a = 56 ∧ k = 4) ∨ (a = 69 ∧ k = 5)
theorem c_settleAgain {d : Nat} {Q : Option am_V → am_H → Prop} {h : am_H} {f : fa_S} (L : Lay h) (ok : fa_ok f) (F : fa_at h 11 f) (Y : y_Orders h 15) (k : ∀ h', am_fr h h' sP → or_at h' 15 (fT f) (f_n f) → mnA h' f → ltA h' f → Q none h') : ex_ (d + 4) 164 0 [some (v_r (some 0))] [] h Q := by
  rw [b_X11_settleAgain_0 _ L]
  refine c_settleAll ok F Y (by omega) (fun h1 fr1 (O1 : or_at h1 15 (fT f) (f_n f)) => ?_)
  have L1 := fr1.lay L
  simp (disch := first | assumption | omega | (simp only [ya_pi, ya_pj, ya_pa, ya_pr, yo_pi, yo_pj, yo_pa, yf_pi, yf_pj, yf_pa, yh_pi, yh_pj, yh_pa, yt_pi, yt_pj, yt_pa, la_pi, la_pj, la_pa]; assumption)) only [b_X11_settleAgain_0, b_X11_settleAgain_14, i_lit, i_m1, i_31, il_t, il_f, iq_t, iq_f, it_t, it_f, im_e, im_l, im_g, im_g2, nI_add, pk_mul, i_sub, i_div, sdm, i_dec, i_cl, iv_t, bI_or2, bI_t0, bI_one, not_true_eq_false, not_false_eq_true, ↓reduceIte, am_tl, am_tn, am_t0, am_n0, and_true, true_and, List.cons_append, List.nil_append, List.append_nil]
  have fr2 : am_fr h1 (p_i (p_i h1 56 4 (nI 0)) 69 5 mI) (fun a k => (a = 56 ∧ k = 4) ∨ (a = 69 ∧ k = 5)) := (am_fr_pi (by omega)).pi (by omega)
  refine k _ ((fr1.le (fun a k z => by unfold or_A at z; unfold sP; omega)).tr (fr2.le (fun a k z => by unfold sP; omega))) (O1.fr (fT_ok ok) fr2 (fun a k h1 h2 h3 => by omega) (fun k hk => by omega)) (Or.inl ?_) (Or.inl ?_)
  · rw [hi_o (by omega), hi_s]
  · rw [hi_s]
theorem or_y {h : am_H} (L : Lay h) : y_House h 10 := by
  refine ⟨fun k t hk => ?_, fun q hq => ?_⟩
  · match k, hk with
    | 0, hk => cases hk; exact la_c L rfl
    | 1, hk => cases hk; exact la_c L rfl
    | 2, hk => cases hk; exact la_c L rfl
    | 3, hk => cases hk; exact la_c L rfl
    | 4, hk => cases hk; exact la_c L rfl
  · have qs : q = (0, 0, 1) ∨ q = (1, 2, 2) ∨ q = (1, 3, 3) ∨ q = (1, 4, 4) := by simpa [y_House_r] using hq
    rcases qs with rfl | rfl | rfl | rfl
    · exact la_r L (q := (10, 0, 11)) (by decide)
    · exact la_r L (q := (11, 2, 12)) (by decide)
    · exact la_r L (q := (11, 3, 13)) (by decide)
    · exact la_r L (q := (11, 4, 14)) (by decide)
theorem qw_ref {j : Nat} : ∀ q ∈ y_ref, ¬ qw j q.1 q.2.1 := fun q hq z => by
  have : ¬ q.1 = 26 := (show ∀ q ∈ y_ref, ¬ q.1 = 26 by decide) q hq
  exact this z.1
theorem y_F {h : am_H} (L : Lay h) {o : Nat} (ho : o = 5 ∨ o = 11 ∨ o = 27) : y_Facts h o := by
  rcases ho with rfl | rfl | rfl
  · refine ⟨fun k t hk => ?_, fun q hq => ?_⟩
    · match k, hk with
      | 0, hk => cases hk; exact la_c L rfl
      | 1, hk => cases hk; exact la_c L rfl
      | 2, hk => cases hk; exact la_c L rfl
      | 3, hk => cases hk; exact la_c L rfl
    · have qs : q = (0, 2, 1) ∨ q = (0, 3, 2) ∨ q = (0, 4, 3) := by simpa [y_Facts_r] using hq
      rcases qs with rfl | rfl | rfl
      · exact la_r L (q := (5, 2, 6)) (by decide)
      · exact la_r L (q := (5, 3, 7)) (by decide)
      · exact la_r L (q := (5, 4, 8)) (by decide)
  · refine ⟨fun k t hk => ?_, fun q hq => ?_⟩
    · match k, hk with
      | 0, hk => cases hk; exact la_c L rfl
      | 1, hk => cases hk; exact la_c L rfl
      | 2, hk => cases hk; exact la_c L rfl
      | 3, hk => cases hk; exact la_c L rfl
    · have qs : q = (0, 2, 1) ∨ q = (0, 3, 2) ∨ q = (0, 4, 3) := by simpa [y_Facts_r] using hq
      rcases qs with rfl | rfl | rfl
      · exact la_r L (q := (11, 2, 12)) (by decide)
      · exact la_r L (q := (11, 3, 13)) (by decide)
      · exact la_r L (q := (11, 4, 14)) (by decide)
  · refine ⟨fun k t hk => ?_, fun q hq => ?_⟩
    · match k, hk with
      | 0, hk => cases hk; exact la_c L rfl
      | 1, hk => cases hk; exact la_c L rfl
      | 2, hk => cases hk; exact la_c L rfl
      | 3, hk => cases hk; exact la_c L rfl
    · have qs : q = (0, 2, 1) ∨ q = (0, 3, 2) ∨ q = (0, 4, 3) := by simpa [y_Facts_r] using hq
      rcases qs with rfl | rfl | rfl
      · exact la_r L (q := (27, 2, 28)) (by decide)
      · exact la_r L (q := (27, 3, 29)) (by decide)
      · exact la_r L (q := (27, 4, 30)) (by decide)
/-- what of cI doesn't hang on facts and past -/
theorem cI.rest {h h' : am_H} {S : St} {f : fa_S} {p : List fa_S} {P J R : Nat → Nat → Prop} (C : cI h S) (g : gf h h' P J R) (L' : Lay h') (hp : ∀ a k, a ≤ 1 ∨ (85 ≤ a ∧ a ≤ 92) → ¬ P a k) (hj : ∀ a k, 85 ≤ a → a ≤ 92 → ¬ J a k) (O : or_at h' 15 (fT f) (f_n f)) (B : ∃ W e, hoA h' W 10 (f, (s_H S).2) ∧ paA h' W e p ∧ imA h' W (s_i S)) (M : mnA h' f) (T : ltA h' f) : cI h' (setF S f p) := by
  obtain ⟨L, -, -, C4, C5, C6, -, -⟩ := C
  exact ⟨L', O, B, g.tyA L C4 (fun a k h1 h2 => hp a k (Or.inr ⟨h1, h2⟩)) hj, g.tpA L C5 (hp _ _ (by omega)) (fun k => hp _ _ (by omega)), ⟨(g.i (la_n L (by omega)) (hp _ _ (by omega))).trans C6.1, (g.i (la_n L (by omega)) (hp _ _ (by omega))).trans C6.2⟩, M, T⟩
theorem pw_W {h h' : am_H} {W W' : Nat → Nat} {j : Nat} {J R : Nat → Nat → Prop} (hW : ∀ a, a < h_n h → W' a = W a) (g : gf h h' (pw W j) J R) : gf h h' (pw W' j) J R := ⟨g.1, g.2.1, g.2.2.1, fun a k ha hp => g.i ha (fun z => hp (by unfold pw at z ⊢; rw [hW a ha]; exact z)), g.2.2.2.2.1, g.2.2.2.2.2⟩
theorem y_O {h : am_H} (L : Lay h) : y_Orders h 15 := by
  refine ⟨fun k t hk => ?_, fun q hq => ?_⟩
  · match k, hk with
    | 0, hk => cases hk; exact la_c L rfl
    | 1, hk => cases hk; exact la_c L rfl
    | 2, hk => cases hk; exact la_c L rfl
    | 3, hk => cases hk; exact la_c L rfl
    | 4, hk => cases hk; exact la_c L rfl
    | 5, hk => cases hk; exact la_c L rfl
    | 6, hk => cases hk; exact la_c L rfl
    | 7, hk => cases hk; exact la_c L rfl
    | 8, hk => cases hk; exact la_c L rfl
    | 9, hk => cases hk; exact la_c L rfl
  · have qs : ∀ q ∈ y_Orders_r, (15 + q.1, q.2.1, 15 + q.2.2) ∈ y_ref := by decide
    exact la_r L (qs q hq)
def kP (a k : Nat) : Prop := fa_P 11 a k ∨ sP a k
/-- the facts of the house, and what hangs on them, are new: nothing else is touched -/
theorem cI.facts {h h1 h3 : am_H} {S : St} {g : fa_S} {p : List fa_S} {W' : Nat → Nat} {e' : Nat} {P1 J1 R1 : Nat → Nat → Prop} (ok : St_ok S) (C : cI h S) (gd : fa_gd g) (okp : ∀ q ∈ p, fa_gd q) (g1 : gf h h1 P1 J1 R1) (L1 : Lay h1) (hp1 : ∀ a k, a ≤ 1 ∨ (85 ≤ a ∧ a ≤ 92) → ¬ P1 a k) (hj1 : ∀ a k, 85 ≤ a → a ≤ 92 → ¬ J1 a k) (H1 : y_House h1 10 ∧ lwA h1 W' 10 1 (s_H S).2.1 ∧ lwA h1 W' 10 2 (s_H S).2.2.1 ∧ h_i h1 10 3 = nI (s_H S).2.2.2) (P : paA h1 W' e' p) (I : imA h1 W' (s_i S)) (g3 : am_fr h1 h3 kP) (F3 : fa_at h3 11 g) (O : or_at h3 15 (fT g) (f_n g)) (M : mnA h3 g) (T : ltA h3 g) : cI h3 (setF S g p) := by
  have G : gf h1 h3 kP N0 N0 := g3.g
  have L3 := g3.lay L1
  have n10 := la_n L1 (a := 10) (by omega)
  refine C.rest (P := fun a k => P1 a k ∨ kP a k) (J := J1) (R := R1) ((g1.le (fun a k z => Or.inl z) (fun a k z => z) (fun a k z => z)).tr (G.le (fun a k z => Or.inr z) (fun a k z => z.elim) (fun a k z => z.elim))) L3 (fun a k ha z => ?_) hj1 O ⟨W', e', ⟨G.house H1.1 (fun z => z) (fun k z => z), F3, G.lwA H1.2.1 n10 (fun z => z) (fun a k h1 h2 z => by unfold kP fa_P sP at z; omega), G.lwA H1.2.2.1 n10 (fun z => z) (fun a k h1 h2 z => by unfold kP fa_P sP at z; omega), (G.i n10 (by unfold kP fa_P sP; omega)).trans H1.2.2.2⟩, G.paA L1 okp P (by unfold kP fa_P sP; omega) (by unfold kP fa_P sP; omega) (fun k z => z) (fun a k h1 h2 h3 => ⟨by unfold kP fa_P sP; omega, fun z => z⟩), G.imA L1 ok.2.2.1 I (fun k z => z) (fun a k h1 h2 => by unfold kP fa_P sP; omega) (fun a k h1 h2 h3 => ⟨by unfold kP fa_P sP; omega, fun z => z⟩)⟩ M T
  rcases z with z | z
  · exact hp1 a k ha z
  · unfold kP fa_P sP at z
    omega
theorem c_keepTrial {d : Nat} {Q : Option am_V → am_H → Prop} {h : am_H} {S : St} {g : fa_S} (ok : St_ok S) (C : cI h S) (gd : fa_gd g) (F : fa_at h 27 g) (k : ∀ h', gC h h' → cI h' (deed S g) → Q none h') : ex_ (d + 5) 174 0 [some (v_r (some 0))] [] h Q := by
  have C' := C
  obtain ⟨L, O, ⟨W, e, C1, C2, C3⟩, C4, C5, C6, C7, C8⟩ := C'
  rw [b_X11_keepTrial_0 _ L]
  have okp : ∀ q ∈ s_p S, fa_gd q := fun q hq => (ok.2.1.2 q hq).1
  refine c_push7 L ok.1.1.1 okp ok.2.1.1 C1.2.1 C2 (fun h1 W' e' j hW hj g1 P1 n1 s1 => ?_)
  have L1 := g1.lay qw_ref L
  have F1 : fa_at h1 27 g := g1.fa (fa_len gd) F (fun a k h1 h2 z => by unfold pw at z; omega) (fun k z => by unfold qw at z; omega)
  have g1' := pw_W hW g1
  have H1 : hoA h1 W' 10 (s_H S) := g1'.hoA ok.1 (C1.ext hW) (fun a k h1 h2 z => by unfold qw at z; omega) (fun a k h1 h2 z => by unfold pw at z; omega) (fun a k h1 h2 z => by unfold pw at z; omega)
  have I1 : imA h1 W' (s_i S) := g1'.imA L ok.2.2.1 (C3.ext hW) (fun k z => by unfold qw at z; omega) (fun a k h1 h2 z => by unfold pw at z; omega) (fun a k h1 h2 h3 => ⟨by unfold pw; omega, by unfold qw; omega⟩)
  simp (disch := first | assumption | omega | (simp only [ya_pi, ya_pj, ya_pa, ya_pr, yo_pi, yo_pj, yo_pa, yf_pi, yf_pj, yf_pa, yh_pi, yh_pj, yh_pa, yt_pi, yt_pj, yt_pa, la_pi, la_pj, la_pa]; assumption)) only [b_X11_keepTrial_0, b_X11_keepTrial_14, b_X11_keepTrial_28, b_X11_keepTrial_32, i_lit, i_m1, i_31, il_t, il_f, iq_t, iq_f, it_t, it_f, im_e, im_l, im_g, im_g2, nI_add, pk_mul, i_sub, i_div, sdm, i_dec, i_cl, iv_t, bI_or2, bI_t0, bI_one, not_true_eq_false, not_false_eq_true, ↓reduceIte, am_tl, am_tn, am_t0, am_n0, and_true, true_and, List.cons_append, List.nil_append, List.append_nil]
  refine c_copyFrom gd.1 (y_F L1 (by omega)) F1 (by omega) (fun h2 fr2 F2 => ?_)
  have L2 := fr2.lay L1
  simp (disch := first | assumption | omega | (simp only [ya_pi, ya_pj, ya_pa, ya_pr, yo_pi, yo_pj, yo_pa, yf_pi, yf_pj, yf_pa, yh_pi, yh_pj, yh_pa, yt_pi, yt_pj, yt_pa, la_pi, la_pj, la_pa]; assumption)) only [b_X11_keepTrial_0, b_X11_keepTrial_14, b_X11_keepTrial_28, b_X11_keepTrial_32, i_lit, i_m1, i_31, il_t, il_f, iq_t, iq_f, it_t, it_f, im_e, im_l, im_g, im_g2, nI_add, pk_mul, i_sub, i_div, sdm, i_dec, i_cl, iv_t, bI_or2, bI_t0, bI_one, not_true_eq_false, not_false_eq_true, ↓reduceIte, am_tl, am_tn, am_t0, am_n0, and_true, true_and, List.cons_append, List.nil_append, List.append_nil]
  refine c_settleAgain L2 gd.1 F2 (y_O L2) (fun h3 fr3 O3 M3 T3 => ?_)
  simp (disch := first | assumption | omega | (simp only [ya_pi, ya_pj, ya_pa, ya_pr, yo_pi, yo_pj, yo_pa, yf_pi, yf_pj, yf_pa, yh_pi, yh_pj, yh_pa, yt_pi, yt_pj, yt_pa, la_pi, la_pj, la_pa]; assumption)) only [b_X11_keepTrial_0, b_X11_keepTrial_14, b_X11_keepTrial_28, b_X11_keepTrial_32, i_lit, i_m1, i_31, il_t, il_f, iq_t, iq_f, it_t, it_f, im_e, im_l, im_g, im_g2, nI_add, pk_mul, i_sub, i_div, sdm, i_dec, i_cl, iv_t, bI_or2, bI_t0, bI_one, not_true_eq_false, not_false_eq_true, ↓reduceIte, am_tl, am_tn, am_t0, am_n0, and_true, true_and, List.cons_append, List.nil_append, List.append_nil]
  have fr13 : am_fr h1 h3 kP := (fr2.le (fun a k z => Or.inl z)).tr (fr3.le (fun a k z => Or.inr z))
  have F3 : fa_at h3 11 g := fr3.fa F2 (fun a k h1 h2 z => by unfold sP at z; omega)
  refine k h3 ⟨(g1.le (fun a k z => by unfold pw at z; unfold pC; omega) (fun a k z => z.elim) (fun a k z => by unfold qw at z; unfold pC; omega)).tr ((fr13.le (fun a k z => by unfold kP fa_P sP at z; unfold pC; omega)).g), ?_, ?_⟩ (C.facts ok gd (fun q hq => ?_) g1 L1 (fun a k ha z => by unfold pw at z; omega) (fun a k h1 h2 z => z) ⟨H1.1, H1.2.2.1, H1.2.2.2.1, H1.2.2.2.2⟩ P1 I1 fr13 F3 O3 M3 T3)
  · rw [fr13.n]; omega
  · have : h_s h3 = h_s h1 := congrArg Prod.snd fr13.1
    omega
  · rcases ps_mem hq with hq | rfl
    · exact okp q hq
    · exact ok.1.1.1
