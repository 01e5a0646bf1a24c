/-! ===== the class reads lines ===== -/
def rlP (q k : Nat) : Prop := (q = 2 ∧ 1 ≤ k) ∨ (3 ≤ q ∧ q ≤ 9)
def rlR (q k : Nat) : Prop := q = 2 ∧ (k = 0 ∨ k = 11 ∨ k = 12)
theorem rl_ref : ∀ q ∈ y_ref, ¬ rlR q.1 q.2.1 := by unfold rlR; decide
def lpP (q k : Nat) : Prop := (q = 2 ∧ (k = 5 ∨ k = 6 ∨ k = 7 ∨ k = 8 ∨ k = 14 ∨ k = 15 ∨ k = 16)) ∨ q = 9
theorem rd_lp {q k : Nat} (h : rdP q k) : lpP q k := by unfold rdP at h; unfold lpP; omega
def lwN (h : am_H) (n r : Nat) (c : Option (List Nat)) : Prop := match c with
  | none => h_r h 2 r = none
  | some l => ∃ q, n ≤ q ∧ h_r h 2 r = some q ∧ la_at h q l
def clB (h0 h : am_H) (H : ho_S) : Prop := fa_at h 5 H.1 ∧ lwN h (h_n h0) 11 H.2.1 ∧ lwN h (h_n h0) 12 H.2.2.1 ∧ h_i h 2 10 = nI H.2.2.2 ∧ gf h0 h rlP N0 rlR ∧ 118 ≤ h_n h0
def rm_ (h0 h : am_H) (i : Nat) : Prop := h_n h ≤ h_n h0 + i ∧ h_s h ≤ h_s h0 + i
def clS (h0 h : am_H) (ts : List (Nat × Nat)) (i : Nat) (H : ho_S) : Prop := tkS h ts i ∧ clB h0 h H ∧ rm_ h0 h i ∧ H.2.2.2 ≤ i ∧ f78 h
def clX (h0 h : am_H) (ts : List (Nat × Nat)) (e j : Nat) : Prop := Lay h ∧ gf h0 h rlP N0 rlR ∧ rm_ h0 h 901 ∧ h_i h 2 7 = nI e ∧ h_i h 2 8 = nI (tS ts j)
def lOK (h0 : am_H) (ts : List (Nat × Nat)) (r : lR_) (Q : Option am_V → am_H → Prop) : Prop := (r.1 = 0 → ∀ h', clS h0 h' ts r.2.1 r.2.2 → Q (some (v_i (nI 1))) h') ∧ (¬ r.1 = 0 → ∀ h', clX h0 h' ts r.1 r.2.1 → Q (some (v_i (nI 0))) h')
theorem lwN.g {h h' : am_H} {P J R : Nat → Nat → Prop} {n r : Nat} {c : Option (List Nat)} (A : lwN h n r c) (g : gf h h' P J R) (hn : 118 ≤ n) (h2 : 2 < h_n h) (hr : ¬ R 2 r) (hp : ∀ a k, 118 ≤ a → ¬ P a k) : lwN h' n r c := by
  cases c with
  | none => exact (g.r h2 hr).trans A
  | some l =>
    obtain ⟨q, a1, a2, a3⟩ := A
    exact ⟨q, a1, (g.r h2 hr).trans a2, g.la a3 (fun k => hp q k (by omega))⟩
theorem fa4 {f : fa_S} (ok : fa_ok f) : ∀ c, (f_p f c).length ≤ 4 := fun c => (ok.2 c).1
theorem clB.fr {h0 h h' : am_H} {H : ho_S} (L : Lay h) (ok : fa_ok H.1) (B : clB h0 h H) (fr : am_fr h h' lpP) : clB h0 h' H := by
  obtain ⟨b1, b2, b3, b4, b5, b6⟩ := B
  have n2 := la_n L (show 2 < 118 by decide)
  have ng : ∀ a k, 118 ≤ a → ¬ lpP a k := fun a k ha z => by unfold lpP at z; omega
  exact ⟨fr.fa b1 (fun q k h1 h2 z => by unfold lpP at z; omega), b2.g (fr.g (J := N0) (R := N0)) b6 n2 (fun z => z) ng, b3.g (fr.g (J := N0) (R := N0)) b6 n2 (fun z => z) ng, by rw [fr.i (fun z => by unfold lpP at z; omega)]; exact b4, b5.tr ((fr.g (J := N0) (R := rlR)).le (fun q k z => by unfold lpP at z; unfold rlP; omega) (fun _ _ z => z) (fun _ _ z => z)), b6⟩
theorem rm_.fr {h0 h h' : am_H} {P : Nat → Nat → Prop} {i j : Nat} (r : rm_ h0 h i) (fr : am_fr h h' P) (hj : i ≤ j) : rm_ h0 h' j := by
  have e1 : h_n h' = h_n h := fr.n
  have e2 : h_s h' = h_s h := congrArg Prod.snd fr.1
  unfold rm_ at r ⊢
  omega
theorem clS.st {h0 h : am_H} {ts : List (Nat × Nat)} {i : Nat} {H : ho_S} (S : clS h0 h ts i H) (ok : fa_ok H.1) (hi : i + 1 < ts.length) : clS h0 (stH h ts i) ts (i + 1) H := ⟨S.1.st hi, S.2.1.fr S.1.1 ok (stH_fr.le (fun _ _ z => rd_lp z)), S.2.2.1.fr (stH_fr (ts := ts) (i := i)) (by omega), by have := S.2.2.2.1; omega, S.2.2.2.2.st⟩
theorem clS.no {h0 h : am_H} {ts : List (Nat × Nat)} {i k : Nat} {H : ho_S} (G : gT ts) (S : clS h0 h ts i H) : clX h0 (rfH h ts k i) ts (pF ts k i).1 i := by
  have hi := S.1.2.2.2.2
  have G3 := G.2.2.1
  exact ⟨rfH_fr.lay S.1.1, S.2.1.2.2.2.2.1.tr (((rfH_fr (ts := ts) (k := k) (i := i)).g (J := N0) (R := rlR)).le (fun q k z => by unfold rdP at z; unfold rlP; omega) (fun _ _ z => z) (fun _ _ z => z)), S.2.2.1.fr (rfH_fr (ts := ts) (k := k) (i := i)) (by omega), by unfold rfH; simp (disch := first | assumption | omega | (simp only [ya_pi, ya_pj, ya_pa, ya_pr, yo_pi, yo_pj, yo_pa, yf_pi, yf_pj, yf_pa, yh_pi, yh_pj, yh_pa, yt_pi, yt_pj, yt_pa, la_pi, la_pj, la_pa]; assumption)) only [hi_s, hi_o, hi_k, hr_pi, hj_pi, hn_pi, hi_pas, hi_pao, hr_pa, hj_pa], by unfold rfH; simp (disch := first | assumption | omega | (simp only [ya_pi, ya_pj, ya_pa, ya_pr, yo_pi, yo_pj, yo_pa, yf_pi, yf_pj, yf_pa, yh_pi, yh_pj, yh_pa, yt_pi, yt_pj, yt_pa, la_pi, la_pj, la_pa]; assumption)) only [hi_s, hi_o, hi_k, hr_pi, hj_pi, hn_pi, hi_pas, hi_pao, hr_pa, hj_pa]⟩
theorem c_endLine {d : Nat} {Q : Option am_V → am_H → Prop} {h0 h : am_H} {ts : List (Nat × Nat)} {i : Nat} {H : ho_S} (G : gT ts) (ok : fa_ok H.1) (S : clS h0 h ts i H) (K : lOK h0 ts (zE ts i H) Q) : ex_ (d + 2) 121 0 [some (v_r (some 2))] [] h Q := by
  obtain ⟨⟨L, T, s5, s6, hi⟩, ⟨b1, b2, b3, b4, b5, b6⟩, rm, ln, fl⟩ := S
  have G3 := G.2.2.1
  have n2 := la_n L (show 2 < 118 by decide)
  have fr : am_fr h (p_i h 2 10 (nI (H.2.2.2 + 1))) (fun q k => q = 2 ∧ k = 10) := am_fr_pi ⟨rfl, rfl⟩
  have ng : ∀ a k, 118 ≤ a → ¬ (a = 2 ∧ k = 10) := fun a k ha z => by omega
  have T1 : tkS (p_i h 2 10 (nI (H.2.2.2 + 1))) ts i := ⟨fr.lay L, T.fr fr (by omega) (fun k => ⟨by omega, by omega⟩), by simp (disch := first | assumption | omega | (simp only [ya_pi, ya_pj, ya_pa, ya_pr, yo_pi, yo_pj, yo_pa, yf_pi, yf_pj, yf_pa, yh_pi, yh_pj, yh_pa, yt_pi, yt_pj, yt_pa, la_pi, la_pj, la_pa]; assumption)) only [hi_s, hi_o, hi_k, hr_pi, hj_pi, hn_pi, hi_pas, hi_pao, hr_pa, hj_pa]; exact s5, by simp (disch := first | assumption | omega | (simp only [ya_pi, ya_pj, ya_pa, ya_pr, yo_pi, yo_pj, yo_pa, yf_pi, yf_pj, yf_pa, yh_pi, yh_pj, yh_pa, yt_pi, yt_pj, yt_pa, la_pi, la_pj, la_pa]; assumption)) only [hi_s, hi_o, hi_k, hr_pi, hj_pi, hn_pi, hi_pas, hi_pao, hr_pa, hj_pa]; exact s6, hi⟩
  have B1 : clB h0 (p_i h 2 10 (nI (H.2.2.2 + 1))) (H.1, H.2.1, H.2.2.1, H.2.2.2 + 1) := ⟨fr.fa b1 (fun q k h1 h2 z => by omega), b2.g (fr.g (J := N0) (R := N0)) b6 n2 (fun z => z) ng, b3.g (fr.g (J := N0) (R := N0)) b6 n2 (fun z => z) ng, hi_s, b5.tr ((fr.g (J := N0) (R := rlR)).le (fun q k z => by unfold rlP; omega) (fun _ _ z => z) (fun _ _ z => z)), b6⟩
  have ps := fun Q => c_pass (d := d) (Q := Q) (t := 59) G T1 (by decide) (by decide)
  simp (disch := first | assumption | omega | (simp only [ya_pi, ya_pj, ya_pa, ya_pr, yo_pi, yo_pj, yo_pa, yf_pi, yf_pj, yf_pa, yh_pi, yh_pj, yh_pa, yt_pi, yt_pj, yt_pa, la_pi, la_pj, la_pa]; assumption)) only [b_X8_endLine_0, i_lit, i_m1, i_31, il_t, il_f, iq_t, iq_f, it_t, it_f, im_e, im_l, im_g, im_g2, nI_add, pk_mul, i_sub, i_div, sdm, i_dec, i_cl, iv_t, bI_or2, bI_t0, bI_one, not_true_eq_false, not_false_eq_true, ↓reduceIte, am_tl, am_tn, am_t0, am_n0, and_true, true_and, List.cons_append, List.nil_append, List.append_nil, b4, ps]
  have K2 := K
  unfold lOK zE at K2
  by_cases y : tK ts i = 59
  · rw [if_pos y]
    rw [pE_y y] at K2
    have i1 := G.1 i (by omega)
    simp (disch := first | assumption | omega | (simp only [ya_pi, ya_pj, ya_pa, ya_pr, yo_pi, yo_pj, yo_pa, yf_pi, yf_pj, yf_pa, yh_pi, yh_pj, yh_pa, yt_pi, yt_pj, yt_pa, la_pi, la_pj, la_pa]; assumption)) only [b_X8_endLine_16, i_lit, i_m1, i_31, il_t, il_f, iq_t, iq_f, it_t, it_f, im_e, im_l, im_g, im_g2, nI_add, pk_mul, i_sub, i_div, sdm, i_dec, i_cl, iv_t, bI_or2, bI_t0, bI_one, not_true_eq_false, not_false_eq_true, ↓reduceIte, am_tl, am_tn, am_t0, am_n0, and_true, true_and, List.cons_append, List.nil_append, List.append_nil, or_true, true_or]
    refine K2.1 rfl _ ⟨T1.st i1, B1.fr T1.1 ok (stH_fr.le (fun _ _ z => rd_lp z)), (rm.fr fr (Nat.le_refl _)).fr (stH_fr (ts := ts) (i := i)) (by show i ≤ i + 1; omega), by show H.2.2.2 + 1 ≤ i + 1; omega, (fl.fr fr (by omega) (by omega)).st⟩
  · rw [if_neg y]
    rw [pE_n y] at K2
    simp (disch := first | assumption | omega | (simp only [ya_pi, ya_pj, ya_pa, ya_pr, yo_pi, yo_pj, yo_pa, yf_pi, yf_pj, yf_pa, yh_pi, yh_pj, yh_pa, yt_pi, yt_pj, yt_pa, la_pi, la_pj, la_pa]; assumption)) only [b_X8_endLine_16, i_lit, i_m1, i_31, il_t, il_f, iq_t, iq_f, it_t, it_f, im_e, im_l, im_g, im_g2, nI_add, pk_mul, i_sub, i_div, sdm, i_dec, i_cl, iv_t, bI_or2, bI_t0, bI_one, not_true_eq_false, not_false_eq_true, ↓reduceIte, am_tl, am_tn, am_t0, am_n0, and_true, true_and, List.cons_append, List.nil_append, List.append_nil, or_true, true_or]
    refine K2.2 (pF_ne (by decide)) _ ⟨rfH_fr.lay T1.1, B1.2.2.2.2.1.tr (((rfH_fr (ts := ts) (k := 2) (i := i)).g (J := N0) (R := rlR)).le (fun q k z => by unfold rdP at z; unfold rlP; omega) (fun _ _ z => z) (fun _ _ z => z)), (rm.fr fr (Nat.le_refl _)).fr (rfH_fr (ts := ts) (k := 2) (i := i)) (by omega), by unfold rfH; simp (disch := first | assumption | omega | (simp only [ya_pi, ya_pj, ya_pa, ya_pr, yo_pi, yo_pj, yo_pa, yf_pi, yf_pj, yf_pa, yh_pi, yh_pj, yh_pa, yt_pi, yt_pj, yt_pa, la_pi, la_pj, la_pa]; assumption)) only [hi_s, hi_o, hi_k, hr_pi, hj_pi, hn_pi, hi_pas, hi_pao, hr_pa, hj_pa], by unfold rfH; simp (disch := first | assumption | omega | (simp only [ya_pi, ya_pj, ya_pa, ya_pr, yo_pi, yo_pj, yo_pa, yf_pi, yf_pj, yf_pa, yh_pi, yh_pj, yh_pa, yt_pi, yt_pj, yt_pa, la_pi, la_pj, la_pa]; assumption)) only [hi_s, hi_o, hi_k, hr_pi, hj_pi, hn_pi, hi_pas, hi_pao, hr_pa, hj_pa]; rfl⟩
/-! classes -/
theorem f_setp_0 {f : fa_S} {c : Nat} (h : f_p f c = []) : f_setp f c [] = f := by
  have : (fun k => if k = c then [] else f_p f k) = f.2.2.1 := by
    funext k
    by_cases z : k = c
    · rw [if_pos z, z]; exact h.symm
    · rw [if_neg z]
  show (f.1, f.2.1, (fun k => if k = c then [] else f_p f k), f.2.2.2) = f
  rw [this]
theorem f_setp_c {f : fa_S} {c : Nat} {l : List Nat} : f_p (f_setp f c l) c = l := if_pos rfl
theorem f_setp_2 {f : fa_S} {c : Nat} {l l' : List Nat} : f_setp (f_setp f c l) c l' = f_setp f c l' := by
  have : (fun k => if k = c then l' else f_p (f_setp f c l) k) = (fun k => if k = c then l' else f_p f k) := by
    funext k
    by_cases z : k = c
    · rw [if_pos z, if_pos z]
    · rw [if_neg z, if_neg z]
      exact if_neg z
  show (f.1, f.2.1, (fun k => if k = c then l' else f_p (f_setp f c l) k), f.2.2.2) = _
  rw [this]; rfl
theorem ok_setp {f : fa_S} {l : List Nat} (ok : fa_ok f) (hn : f_n f < 10) (g : pG (f_n f) l) : fa_ok (f_setp f (f_n f) l) := ⟨ok.1, fun q => by
  show (if q = f_n f then l else f_p f q).length ≤ 4 ∧ (∀ p ∈ (if q = f_n f then l else f_p f q), p < q) ∧ (if q = f_n f then l else f_p f q).Nodup ∧ (10 ≤ q → (if q = f_n f then l else f_p f q) = [])
  by_cases z : q = f_n f
  · rw [if_pos z]
    exact ⟨g.1, by rw [z]; exact g.2.1, g.2.2, fun h => by omega⟩
  · rw [if_neg z]
    exact ok.2 q⟩
theorem c_rcStep {d : Nat} {Q : Option am_V → am_H → Prop} {h0 h1 : am_H} {ts : List (Nat × Nat)} {j x m' : Nat} {l : List Nat} {H : ho_S} {R : Nat × Nat × List Nat} {l3 : Option am_V} (G : gT ts) (ok : fa_ok H.1) (hn : f_n H.1 ≤ 10) (z : ¬ 10 ≤ f_n H.1) (A : clS h0 h1 ts x (f_setp H.1 (f_n H.1) l, H.2)) (pg : pG (f_n H.1) l) (y : 1000 ≤ tK ts x) (x1 : x + 1 < ts.length)
    (E : (if f_n H.1 ≤ tK ts x - 1000 ∨ (tK ts x - 1000) ∈ l then (3, x, l) else if 4 ≤ l.length then (4, x, l) else zc ts (f_n H.1) m' (x + 1) (l ++ [tK ts x - 1000])) = R)
    (Kbad : ∀ e' x' l', (e', x', l') = R → ¬ e' = 0 → ∀ h', clX h0 h' ts e' x' → Q (some (v_i (nI 0))) h') (j9 : ¬ 900 ≤ j)
    (nx : ∀ h2 l4, clS h0 h2 ts (x + 1) (f_setp H.1 (f_n H.1) (l ++ [tK ts x - 1000]), H.2) → pG (f_n H.1) (l ++ [tK ts x - 1000]) → zc ts (f_n H.1) m' (x + 1) (l ++ [tK ts x - 1000]) = R → ex_ (d + 3) 122 26 [some (v_r (some 2)), some (v_i (nI (f_n H.1))), some (v_i (nI (j + 1))), l4] [] h2 Q) :
    ex_ (d + 3) 122 33 [some (v_r (some 2)), some (v_i (nI (f_n H.1))), some (v_i (nI j)), l3] [] h1 Q := by
  have okp := ok_setp ok (by omega) pg
  have L2 := A.1.1
  have s6 := A.1.2.2.2.1
  have hxl := A.1.2.2.2.2
  have t4 := G.2.1 x
  have F := A.2.1.1
  have pp := fun Q => c_parentPlace (d := d) (Q := Q) (c := f_n H.1) (p := tK ts x - 1000) (l3 := none) okp F (by omega) (by omega)
  rw [f_setp_c] at pp
  have pc := fun Q => c_parentCount (d := d + 2) (Q := Q) (c := f_n H.1) F (by omega)
  rw [f_setp_c] at pc
  have ref := fun k Q => c_refuse (d := d + 2) (Q := Q) (k := k) A.1
  have ne : ∀ k, (pF ts k x).1 = k := fun k => if_neg (by omega)
  have lb := pg.1
  have i6 : nI (tK ts x) - 1000 = nI (tK ts x - 1000) := i_sub y
  have isn := fun Q => c_isNumber (d := d + 2) (Q := Q) A.1
  rw [if_pos y] at isn
  have X3 := A.no (k := 3) G
  rw [ne 3] at X3
  have X4 := A.no (k := 4) G
  rw [ne 4] at X4
  have app := fun Q => @c_appendParent (d + 1) Q h1 5 (f_setp H.1 (f_n H.1) l) okp F (f_n H.1) (tK ts x - 1000) (by omega)
  rw [f_setp_c, f_setp_2] at app
  generalize hv : tK ts x - 1000 = v at E nx pp i6 app
  have hv2 : v < 1000 := by omega
  simp (disch := first | assumption | omega | (simp only [ya_pi, ya_pj, ya_pa, ya_pr, yo_pi, yo_pj, yo_pa, yf_pi, yf_pj, yf_pa, yh_pi, yh_pj, yh_pa, yt_pi, yt_pj, yt_pa, la_pi, la_pj, la_pa]; assumption)) only [b_X8_readClass_33, b_X8_readClass_37, b_X8_readClass_40, i_lit, i_m1, i_31, il_t, il_f, iq_t, iq_f, it_t, it_f, im_e, im_l, im_g, im_g2, nI_add, pk_mul, i_sub, i_div, sdm, i_dec, i_cl, iv_t, bI_or2, bI_t0, bI_one, not_true_eq_false, not_false_eq_true, ↓reduceIte, am_tl, am_tn, am_t0, am_n0, and_true, true_and, List.cons_append, List.nil_append, List.append_nil, isn, s6, hv]
  by_cases w : f_n H.1 ≤ v
  · rw [if_pos (Or.inl w)] at E
    simp (disch := first | assumption | omega | (simp only [ya_pi, ya_pj, ya_pa, ya_pr, yo_pi, yo_pj, yo_pa, yf_pi, yf_pj, yf_pa, yh_pi, yh_pj, yh_pa, yt_pi, yt_pj, yt_pa, la_pi, la_pj, la_pa]; assumption)) only [b_X8_readClass_67, b_X8_readClass_72, i_lit, i_m1, i_31, il_t, il_f, iq_t, iq_f, it_t, it_f, im_e, im_l, im_g, im_g2, nI_add, pk_mul, i_sub, i_div, sdm, i_dec, i_cl, iv_t, bI_or2, bI_t0, bI_one, not_true_eq_false, not_false_eq_true, ↓reduceIte, am_tl, am_tn, am_t0, am_n0, and_true, true_and, List.cons_append, List.nil_append, List.append_nil, ref 3, or_true, true_or]
    exact Kbad _ _ _ E (by decide) _ X3
  · by_cases u : v ∈ l
    · rw [if_pos (Or.inr u)] at E
      have this : ¬ oI (pl l v) = mI := by
        rw [pl_oI (by omega), pl_none]
        exact fun k => k u
      have this2 : ¬ oI (pl l v) = (-1 : Int32) := this
      simp (disch := first | assumption | omega | (simp only [ya_pi, ya_pj, ya_pa, ya_pr, yo_pi, yo_pj, yo_pa, yf_pi, yf_pj, yf_pa, yh_pi, yh_pj, yh_pa, yt_pi, yt_pj, yt_pa, la_pi, la_pj, la_pa]; assumption)) only [b_X8_readClass_54, b_X8_readClass_63, b_X8_readClass_67, b_X8_readClass_72, i_lit, i_m1, i_31, il_t, il_f, iq_t, iq_f, it_t, it_f, im_e, im_l, im_g, im_g2, nI_add, pk_mul, i_sub, i_div, sdm, i_dec, i_cl, iv_t, bI_or2, bI_t0, bI_one, not_true_eq_false, not_false_eq_true, ↓reduceIte, am_tl, am_tn, am_t0, am_n0, and_true, true_and, List.cons_append, List.nil_append, List.append_nil, pp, this, this2, ref 3, or_true, true_or]
      exact Kbad _ _ _ E (by decide) _ X3
    · rw [if_neg (fun k => k.elim w u)] at E
      have e1 : oI (pl l v) = (-1 : Int32) := by rw [pl_none.2 u]; rfl
      have e2 : oI (pl l v) = mI := e1
      by_cases t : 4 ≤ l.length
      · rw [if_pos t] at E
        simp (disch := first | assumption | omega | (simp only [ya_pi, ya_pj, ya_pa, ya_pr, yo_pi, yo_pj, yo_pa, yf_pi, yf_pj, yf_pa, yh_pi, yh_pj, yh_pa, yt_pi, yt_pj, yt_pa, la_pi, la_pj, la_pa]; assumption)) only [b_X8_readClass_54, b_X8_readClass_63, b_X8_readClass_73, b_X8_readClass_81, b_X8_readClass_85, b_X8_readClass_90, i_lit, i_m1, i_31, il_t, il_f, iq_t, iq_f, it_t, it_f, im_e, im_l, im_g, im_g2, nI_add, pk_mul, i_sub, i_div, sdm, i_dec, i_cl, iv_t, bI_or2, bI_t0, bI_one, not_true_eq_false, not_false_eq_true, ↓reduceIte, am_tl, am_tn, am_t0, am_n0, and_true, true_and, List.cons_append, List.nil_append, List.append_nil, pp, e2, pc, ref 4, or_true, true_or]
        exact Kbad _ _ _ E (by decide) _ X4
      · rw [if_neg t] at E
        simp (disch := first | assumption | omega | (simp only [ya_pi, ya_pj, ya_pa, ya_pr, yo_pi, yo_pj, yo_pa, yf_pi, yf_pj, yf_pa, yh_pi, yh_pj, yh_pa, yt_pi, yt_pj, yt_pa, la_pi, la_pj, la_pa]; assumption)) only [b_X8_readClass_54, b_X8_readClass_63, b_X8_readClass_73, b_X8_readClass_81, b_X8_readClass_91, i_lit, i_m1, i_31, il_t, il_f, iq_t, iq_f, it_t, it_f, im_e, im_l, im_g, im_g2, nI_add, pk_mul, i_sub, i_div, sdm, i_dec, i_cl, iv_t, bI_or2, bI_t0, bI_one, not_true_eq_false, not_false_eq_true, ↓reduceIte, am_tl, am_tn, am_t0, am_n0, and_true, true_and, List.cons_append, List.nil_append, List.append_nil, pp, e2, pc]
        refine app _ (by omega) (fun h2 fr2 F2 => ?_)
        obtain ⟨⟨-, T, s5, -, -⟩, ⟨b1, b2, b3, b4, b5, b6⟩, rm, ln, fl⟩ := A
        have n2 := la_n L2 (show 2 < 118 by decide)
        have ng : ∀ a k, 118 ≤ a → ¬ fa_P 5 a k := fun a k ha z => by unfold fa_P at z; omega
        have ng2 : ∀ k, ¬ fa_P 5 2 k := fun k z => by unfold fa_P at z; omega
        have A2 : clS h0 h2 ts x (f_setp H.1 (f_n H.1) (l ++ [v]), H.2) := ⟨⟨fr2.lay L2, T.fr fr2 (ng2 4) (fun k => ⟨fun z => by unfold fa_P at z; omega, fun z => by unfold fa_P at z; omega⟩), by rw [fr2.i (ng2 5)]; exact s5, by rw [fr2.i (ng2 6)]; exact s6, hxl⟩, ⟨F2, b2.g (fr2.g (J := N0) (R := N0)) b6 n2 (fun z => z) ng, b3.g (fr2.g (J := N0) (R := N0)) b6 n2 (fun z => z) ng, by rw [fr2.i (ng2 10)]; exact b4, b5.tr ((fr2.g (J := N0) (R := rlR)).le (fun q k z => by unfold fa_P at z; unfold rlP; omega) (fun _ _ z => z) (fun _ _ z => z)), b6⟩, rm.fr fr2 (Nat.le_refl _), ln, fl.fr fr2 (ng2 7) (ng2 8)⟩
        have L3 := A2.1.1
        have pg2 : pG (f_n H.1) (l ++ [v]) := ⟨by rw [List.length_append]; show l.length + 1 ≤ 4; omega, fun p hp => by
          rcases List.mem_append.1 hp with h | h
          · exact pg.2.1 p h
          · rw [List.mem_singleton.1 h]; omega, List.nodup_append.2 ⟨pg.2.2, by simp, fun a ha b hb => by
          rw [List.mem_singleton.1 hb]
          intro e
          exact u (e ▸ ha)⟩⟩
        simp (disch := first | assumption | omega | (simp only [ya_pi, ya_pj, ya_pa, ya_pr, yo_pi, yo_pj, yo_pa, yf_pi, yf_pj, yf_pa, yh_pi, yh_pj, yh_pa, yt_pi, yt_pj, yt_pa, la_pi, la_pj, la_pa]; assumption)) only [b_X8_readClass_100, b_X8_readClass_104, i_lit, i_m1, i_31, il_t, il_f, iq_t, iq_f, it_t, it_f, im_e, im_l, im_g, im_g2, nI_add, pk_mul, i_sub, i_div, sdm, i_dec, i_cl, iv_t, bI_or2, bI_t0, bI_one, not_true_eq_false, not_false_eq_true, ↓reduceIte, am_tl, am_tn, am_t0, am_n0, and_true, true_and, List.cons_append, List.nil_append, List.append_nil, c_step8 A2.1 x1]
        exact nx _ _ (A2.st (ok_setp ok (by omega) pg2) x1) pg2 E
theorem c_readClass8 {d : Nat} {Q : Option am_V → am_H → Prop} {h0 h : am_H} {ts : List (Nat × Nat)} {i : Nat} {H : ho_S} (G : gT ts) (okh : okH H) (S : clS h0 h ts i H) (hc : tK ts i = 202) (K : lOK h0 ts (zC ts i H) Q) : ex_ (d + 3) 122 0 [some (v_r (some 2)), none, none, none] [] h Q := by
  have L := S.1.1
  have gd := okh.1
  have ok := gd.1
  have a0 := S.2.1.1.2.1
  have hn := ok.1
  have G3 := G.2.2.1
  have i1 := G.1 i (by omega)
  unfold zC at K
  by_cases z : 10 ≤ f_n H.1
  · rw [if_pos z] at K
    have ref := fun Q => c_refuse (d := d + 2) (Q := Q) (k := 4) S.1
    simp (disch := first | assumption | omega | (simp only [ya_pi, ya_pj, ya_pa, ya_pr, yo_pi, yo_pj, yo_pa, yf_pi, yf_pj, yf_pa, yh_pi, yh_pj, yh_pa, yt_pi, yt_pj, yt_pa, la_pi, la_pj, la_pa]; assumption)) only [b_X8_readClass_0, b_X8_readClass_14, b_X8_readClass_19, i_lit, i_m1, i_31, il_t, il_f, iq_t, iq_f, it_t, it_f, im_e, im_l, im_g, im_g2, nI_add, pk_mul, i_sub, i_div, sdm, i_dec, i_cl, iv_t, bI_or2, bI_t0, bI_one, not_true_eq_false, not_false_eq_true, ↓reduceIte, am_tl, am_tn, am_t0, am_n0, and_true, true_and, List.cons_append, List.nil_append, List.append_nil, a0, ref, or_true, true_or]
    have X := S.no (k := 4) G
    have e : (pF ts 4 i).1 = 4 := if_neg (by omega)
    rw [e] at X
    exact K.2 (fun u => by cases u) _ X
  · rw [if_neg z] at K
    have S1 := S.st ok i1
    have L1 := S1.1.1
    simp (disch := first | assumption | omega | (simp only [ya_pi, ya_pj, ya_pa, ya_pr, yo_pi, yo_pj, yo_pa, yf_pi, yf_pj, yf_pa, yh_pi, yh_pj, yh_pa, yt_pi, yt_pj, yt_pa, la_pi, la_pj, la_pa]; assumption)) only [b_X8_readClass_0, b_X8_readClass_20, b_X8_readClass_24, i_lit, i_m1, i_31, il_t, il_f, iq_t, iq_f, it_t, it_f, im_e, im_l, im_g, im_g2, nI_add, pk_mul, i_sub, i_div, sdm, i_dec, i_cl, iv_t, bI_or2, bI_t0, bI_one, not_true_eq_false, not_false_eq_true, ↓reduceIte, am_tl, am_tn, am_t0, am_n0, and_true, true_and, List.cons_append, List.nil_append, List.append_nil, a0, c_step8 S.1 i1]
    generalize hR : zc ts (f_n H.1) 902 (i + 1) [] = R at K
    have Kbad : ∀ e' x' l', (e', x', l') = R → ¬ e' = 0 → ∀ h', clX h0 h' ts e' x' → Q (some (v_i (nI 0))) h' := by
      intro e' x' l' e z
      rw [← e, if_neg z] at K
      exact K.2 z
    have Kgood : ∀ x' l', (0, x', l') = R → ∀ h', clS h0 h' ts x' (f_inc (f_setp H.1 (f_n H.1) l'), H.2) → Q (some (v_i (nI 1))) h' := by
      intro x' l' e
      rw [← e, if_pos rfl] at K
      exact K.1 rfl
    clear K
    have hp0 : f_p H.1 (f_n H.1) = [] := gd.2.2.2.1 _ (Nat.le_refl _)
    have key := lp_wf (d := d + 3) (k := 122) (pc := 26) (Q := Q) (fun s : Nat × Nat × List Nat × Option am_V => 901 - s.1) (fun s => [some (v_r (some 2)), some (v_i (nI (f_n H.1))), some (v_i (nI s.1)), s.2.2.2]) (fun s h1 => clS h0 h1 ts s.2.1 (f_setp H.1 (f_n H.1) s.2.2.1, H.2) ∧ pG (f_n H.1) s.2.2.1 ∧ s.1 ≤ 900 ∧ s.1 ≤ s.2.1 ∧ zc ts (f_n H.1) (902 - s.1) s.2.1 s.2.2.1 = R) ?_ (s := (0, i + 1, [], none)) (h := stH h ts i) ⟨by
        show clS h0 (stH h ts i) ts (i + 1) (f_setp H.1 (f_n H.1) [], H.2)
        rw [f_setp_0 hp0]
        exact S1, ⟨Nat.zero_le _, fun p hp => (by cases hp), List.nodup_nil⟩, Nat.zero_le _, Nat.zero_le _, hR⟩
    · exact key
    · clear hR
      rintro ⟨j, x, l, l3⟩ h1 ⟨A, pg, hj, hx, E⟩ nx
      have A : clS h0 h1 ts x (f_setp H.1 (f_n H.1) l, H.2) := A
      have pg : pG (f_n H.1) l := pg
      have hj : j ≤ 900 := hj
      have hx : j ≤ x := hx
      have E : zc ts (f_n H.1) (902 - j) x l = R := E
      show ex_ (d + 3) 122 26 [some (v_r (some 2)), some (v_i (nI (f_n H.1))), some (v_i (nI j)), l3] [] h1 Q
      obtain ⟨m', hm⟩ : ∃ m', 902 - j = m' + 1 := ⟨901 - j, by omega⟩
      have em : 902 - (j + 1) = m' ∧ True := ⟨by omega, trivial⟩
      rw [hm] at E
      clear hm
      unfold zc at E
      have okp := ok_setp ok (by omega) pg
      have L2 := A.1.1
      have s6 := A.1.2.2.2.1
      have hxl := A.1.2.2.2.2
      have t4 := G.2.1 x
      -- the end
      have fin : (0, x, l) = R → ex_ (d + 3) 122 110 [some (v_r (some 2)), some (v_i (nI (f_n H.1))), some (v_i (nI j)), l3] [] h1 Q := fun e => by
        simp (disch := first | assumption | omega | (simp only [ya_pi, ya_pj, ya_pa, ya_pr, yo_pi, yo_pj, yo_pa, yf_pi, yf_pj, yf_pa, yh_pi, yh_pj, yh_pa, yt_pi, yt_pj, yt_pa, la_pi, la_pj, la_pa]; assumption)) only [b_X8_readClass_110, i_lit, i_m1, i_31, il_t, il_f, iq_t, iq_f, it_t, it_f, im_e, im_l, im_g, im_g2, nI_add, pk_mul, i_sub, i_div, sdm, i_dec, i_cl, iv_t, bI_or2, bI_t0, bI_one, not_true_eq_false, not_false_eq_true, ↓reduceIte, am_tl, am_tn, am_t0, am_n0, and_true, true_and, List.cons_append, List.nil_append, List.append_nil]
        refine Kgood x l e _ ?_
        obtain ⟨⟨-, T, s5, -, -⟩, ⟨b1, b2, b3, b4, b5, b6⟩, rm, ln, fl⟩ := A
        have fr : am_fr h1 (p_i h1 5 0 (nI (f_n H.1 + 1))) (fun q k => q = 5 ∧ k = 0) := am_fr_pi ⟨rfl, rfl⟩
        have n2 := la_n L2 (show 2 < 118 by decide)
        have ng : ∀ a k, 118 ≤ a → ¬ (a = 5 ∧ k = 0) := fun a k ha z => by omega
        obtain ⟨F0, F1, F2, F3, F4, F5⟩ := b1
        refine ⟨⟨fr.lay L2, T.fr fr (by omega) (fun k => ⟨by omega, by omega⟩), by simp (disch := first | assumption | omega | (simp only [ya_pi, ya_pj, ya_pa, ya_pr, yo_pi, yo_pj, yo_pa, yf_pi, yf_pj, yf_pa, yh_pi, yh_pj, yh_pa, yt_pi, yt_pj, yt_pa, la_pi, la_pj, la_pa]; assumption)) only [hi_s, hi_o, hi_k, hr_pi, hj_pi, hn_pi, hi_pas, hi_pao, hr_pa, hj_pa]; exact s5, by simp (disch := first | assumption | omega | (simp only [ya_pi, ya_pj, ya_pa, ya_pr, yo_pi, yo_pj, yo_pa, yf_pi, yf_pj, yf_pa, yh_pi, yh_pj, yh_pa, yt_pi, yt_pj, yt_pa, la_pi, la_pj, la_pa]; assumption)) only [hi_s, hi_o, hi_k, hr_pi, hj_pi, hn_pi, hi_pas, hi_pao, hr_pa, hj_pa]; exact s6, hxl⟩, ⟨⟨fr.facts F0, hi_s, ?_, fun c hc => ?_, fun c hc k hk => ?_, fun c m hc hm => ?_⟩, b2.g (fr.g (J := N0) (R := N0)) b6 n2 (fun z => z) ng, b3.g (fr.g (J := N0) (R := N0)) b6 n2 (fun z => z) ng, by simp (disch := first | assumption | omega | (simp only [ya_pi, ya_pj, ya_pa, ya_pr, yo_pi, yo_pj, yo_pa, yf_pi, yf_pj, yf_pa, yh_pi, yh_pj, yh_pa, yt_pi, yt_pj, yt_pa, la_pi, la_pj, la_pa]; assumption)) only [hi_s, hi_o, hi_k, hr_pi, hj_pi, hn_pi, hi_pas, hi_pao, hr_pa, hj_pa]; exact b4, b5.tr ((fr.g (J := N0) (R := rlR)).le (fun q k z => by unfold rlP; omega) (fun _ _ z => z) (fun _ _ z => z)), b6⟩, rm.fr fr (Nat.le_refl _), ln, fl.fr fr (by omega) (by omega)⟩
        · simp (disch := first | assumption | omega | (simp only [ya_pi, ya_pj, ya_pa, ya_pr, yo_pi, yo_pj, yo_pa, yf_pi, yf_pj, yf_pa, yh_pi, yh_pj, yh_pa, yt_pi, yt_pj, yt_pa, la_pi, la_pj, la_pa]; assumption)) only [hi_s, hi_o, hi_k, hr_pi, hj_pi, hn_pi, hi_pas, hi_pao, hr_pa, hj_pa]; exact F2
        · simp (disch := first | assumption | omega | (simp only [ya_pi, ya_pj, ya_pa, ya_pr, yo_pi, yo_pj, yo_pa, yf_pi, yf_pj, yf_pa, yh_pi, yh_pj, yh_pa, yt_pi, yt_pj, yt_pa, la_pi, la_pj, la_pa]; assumption)) only [hi_s, hi_o, hi_k, hr_pi, hj_pi, hn_pi, hi_pas, hi_pao, hr_pa, hj_pa]; exact F3 c hc
        · simp (disch := first | assumption | omega | (simp only [ya_pi, ya_pj, ya_pa, ya_pr, yo_pi, yo_pj, yo_pa, yf_pi, yf_pj, yf_pa, yh_pi, yh_pj, yh_pa, yt_pi, yt_pj, yt_pa, la_pi, la_pj, la_pa]; assumption)) only [hi_s, hi_o, hi_k, hr_pi, hj_pi, hn_pi, hi_pas, hi_pao, hr_pa, hj_pa]; exact F4 c hc k hk
        · simp (disch := first | assumption | omega | (simp only [ya_pi, ya_pj, ya_pa, ya_pr, yo_pi, yo_pj, yo_pa, yf_pi, yf_pj, yf_pa, yh_pi, yh_pj, yh_pa, yt_pi, yt_pj, yt_pa, la_pi, la_pj, la_pa]; assumption)) only [hi_s, hi_o, hi_k, hr_pi, hj_pi, hn_pi, hi_pas, hi_pao, hr_pa, hj_pa]; exact F5 c m hc hm
      rw [b_X8_readClass_26 _ _ _ _ _]
      by_cases j9 : 900 ≤ j
      · have nn : ¬ 1000 ≤ tK ts x := fun w => by have := G.1 x (by omega); omega
        rw [if_neg nn] at E
        simp (disch := first | assumption | omega | (simp only [ya_pi, ya_pj, ya_pa, ya_pr, yo_pi, yo_pj, yo_pa, yf_pi, yf_pj, yf_pa, yh_pi, yh_pj, yh_pa, yt_pi, yt_pj, yt_pa, la_pi, la_pj, la_pa]; assumption)) only [i_lit, i_m1, i_31, il_t, il_f, iq_t, iq_f, it_t, it_f, im_e, im_l, im_g, im_g2, nI_add, pk_mul, i_sub, i_div, sdm, i_dec, i_cl, iv_t, bI_or2, bI_t0, bI_one, not_true_eq_false, not_false_eq_true, ↓reduceIte, am_tl, am_tn, am_t0, am_n0, and_true, true_and, List.cons_append, List.nil_append, List.append_nil]
        exact fin E
      · by_cases y : 1000 ≤ tK ts x
        · rw [if_pos y] at E
          simp (disch := first | assumption | omega | (simp only [ya_pi, ya_pj, ya_pa, ya_pr, yo_pi, yo_pj, yo_pa, yf_pi, yf_pj, yf_pa, yh_pi, yh_pj, yh_pa, yt_pi, yt_pj, yt_pa, la_pi, la_pj, la_pa]; assumption)) only [i_lit, i_m1, i_31, il_t, il_f, iq_t, iq_f, it_t, it_f, im_e, im_l, im_g, im_g2, nI_add, pk_mul, i_sub, i_div, sdm, i_dec, i_cl, iv_t, bI_or2, bI_t0, bI_one, not_true_eq_false, not_false_eq_true, ↓reduceIte, am_tl, am_tn, am_t0, am_n0, and_true, true_and, List.cons_append, List.nil_append, List.append_nil]
          have x1 := G.1 x (by omega)
          exact c_rcStep G ok hn z A pg y x1 E Kbad j9 (fun h2 l4 A2 pg2 E2 => by
            refine nx (j + 1, x + 1, l ++ [tK ts x - 1000], l4) h2 (by show 901 - (j + 1) < 901 - j; omega) ⟨A2, pg2, by show j + 1 ≤ 900; omega, by show j + 1 ≤ x + 1; omega, ?_⟩
            show zc ts (f_n H.1) (902 - (j + 1)) (x + 1) (l ++ [tK ts x - 1000]) = _
            rw [em.1]
            exact E2)
        · rw [if_neg y] at E
          simp (disch := first | assumption | omega | (simp only [ya_pi, ya_pj, ya_pa, ya_pr, yo_pi, yo_pj, yo_pa, yf_pi, yf_pj, yf_pa, yh_pi, yh_pj, yh_pa, yt_pi, yt_pj, yt_pa, la_pi, la_pj, la_pa]; assumption)) only [b_X8_readClass_33, b_X8_readClass_37, i_lit, i_m1, i_31, il_t, il_f, iq_t, iq_f, it_t, it_f, im_e, im_l, im_g, im_g2, nI_add, pk_mul, i_sub, i_div, sdm, i_dec, i_cl, iv_t, bI_or2, bI_t0, bI_one, not_true_eq_false, not_false_eq_true, ↓reduceIte, am_tl, am_tn, am_t0, am_n0, and_true, true_and, List.cons_append, List.nil_append, List.append_nil, c_isNumber A.1, if_neg y]
          exact fin E
