/-! ===== what a call goes through, what it says ===== -/
theorem ev_ty {sy : Bool} {w : Nat → Int32} : ∀ {c : List Nat} {τ τ' : List Bool} {st : List Int32}, tcs sy c τ = some τ' → tys τ st → tys τ' (ev w c st) := by
  intro c
  induction c with
  | nil => intro τ τ' st h ht; cases h; exact ht
  | cons x c ih =>
    intro τ τ' st h ht
    rw [tcs] at h
    cases e : tc sy x τ with
    | none => rw [e] at h; cases h
    | some τ1 =>
      rw [e] at h
      exact ih h (sp_ty e ht)
def evx (w : Nat → Int32) (c : List Nat) : Int32 := (ev w c []).headD 0
theorem evx_eq {sy ty : Bool} {w : Nat → Int32} {c : List Nat} (h : tcs sy c [] = some [ty]) : ev w c [] = [evx w c] ∧ (ty = true → evx w c = nI 0 ∨ evx w c = nI 1) := by
  have := ev_ty (w := w) h (st := []) trivial
  unfold evx
  match ev w c [], this with
  | [x], h => exact ⟨rfl, h.1⟩
/-- laws that can stand in a house -/
def lk (sy : Bool) (o : Option (List Nat)) : Prop := ∀ c, o = some c → tcs sy c [] = some [!sy] ∧ c.length ≤ 900
def wd (m o c md nx dp : Int32) (k : Nat) : Int32 := if k = 0 then m else if k = 1 then o else if k = 2 then c else if k = 3 then md else if k = 4 then nx else dp
def snb (seen : Option (List Nat)) (m o c md : Int32) : Bool := match seen with
  | none => true
  | some l => evx (wd m o c md (nI 0) (nI 0)) l == nI 1
def trc (P E : Nat → Bool) : Nat → Nat → List Nat
  | 0, _ => []
  | n + 1, k => if P k = true then k :: (if E k = true then [] else trc P E n (k + 1)) else trc P E n (k + 1)
def vPk (f : fa_S) (seen : Option (List Nat)) (c m : Nat) (md : Int32) (k : Nat) : Bool := !(f_d f ((fT f c).2.getD k 0) m == nI 0) && snb seen (nI m) (nI ((fT f c).2.getD k 0)) (nI c) md
def vEk (f : fa_S) (c m : Nat) (k : Nat) : Bool := f_d f ((fT f c).2.getD k 0) m == nI 1
def trl (f : fa_S) (seen : Option (List Nat)) (c m : Nat) (md : Int32) : List Nat := trc (vPk f seen c m md) (vEk f c m) (fT f c).2.length 0
theorem trc_lt {P E : Nat → Bool} : ∀ {n k x : Nat}, x ∈ trc P E n k → k ≤ x ∧ x < k + n := by
  intro n
  induction n with
  | zero => intro k x h; cases h
  | succ n ih =>
    intro k x h
    rw [trc] at h
    split at h
    · rcases List.mem_cons.1 h with z | z
      · omega
      · split at z
        · cases z
        · have := ih z
          omega
    · have := ih h
      omega
theorem trc_len {P E : Nat → Bool} : ∀ {n k : Nat}, (trc P E n k).length ≤ n := by
  intro n
  induction n with
  | zero => intro k; exact Nat.le_refl _
  | succ n ih =>
    intro k
    rw [trc]
    split
    · rw [List.length_cons]
      split
      · rw [List.length_nil]; omega
      · have := ih (k := k + 1)
        omega
    · have := ih (k := k + 1)
      omega
def hsn (h : am_H) (r : Nat) (o : Option (List Nat)) : Prop := match o with
  | none => h_r h 10 r = none
  | some l => ∃ q, h_r h 10 r = some q ∧ 118 ≤ q ∧ la_at h q l
theorem hsn.fr {h h' : am_H} {P : Nat → Nat → Prop} {r : Nat} {o : Option (List Nat)} (H : hsn h r o) (fr : am_fr h h' P) (hp : ∀ a k, 118 ≤ a → ¬ P a k) : hsn h' r o := by
  cases o with
  | none => unfold hsn; rw [fr.r]; exact H
  | some l =>
    obtain ⟨q, e, hq, A0, A1, A2⟩ := H
    exact ⟨q, by rw [fr.r]; exact e, hq, fr.c A0, A1, fun k hk => by rw [fr.i (hp q k hq)]; exact A2 k hk⟩
def vF (a k : Nat) : Prop := a = 51 ∨ a = 52 ∨ a = 55
def vt (h : am_H) (ks : List Nat) (c m : Nat) (md : Int32) : Prop := h_i h 51 3 = nI ks.length ∧ ro h 52 0 ks ∧ h_i h 51 10 = nI c ∧ h_i h 51 8 = nI m ∧ h_i h 51 11 = md
theorem vF.S {a k : Nat} (z : vF a k) : cS a k := by unfold vF at z; unfold cS; omega
theorem vP.F {a k : Nat} (z : vP a k) : vF a k := by unfold vP at z; unfold vF; omega
theorem c_trace {d : Nat} {Q : Option am_V → am_H → Prop} {h : am_H} {f : fa_S} {seen : Option (List Nat)} {c m : Nat} {md : Int32} (gd : fa_gd f) (C : cQ h f) (H : hsn h 2 seen) (K : lk false seen) (hc : c < f_n f) (hm : m < 8) {l4 l5 : Option am_V} (k : ∀ h', am_fr h h' vF → vt h' (trl f seen c m md) c m md → Q none h') : ex_ (d + 3) 155 0 [some (v_r (some 51)), some (v_i (nI c)), some (v_i (nI m)), some (v_i md), l4, l5] [] h Q := by
  have ok := gd.1
  have hn := ok.1
  have L0 := C.1
  have ho := fT_ok ok c hc
  have c11 : c < 11 := by omega
  rw [b_X10_trace_0 _ _ _ _ _ _ L0]
  have fr0 : am_fr h (p_i (p_i (p_i (p_i h 51 3 (nI 0)) 51 10 (nI c)) 51 8 (nI m)) 51 11 md) vF := (((am_fr_pi (Or.inl rfl)).pi (Or.inl rfl)).pi (Or.inl rfl)).pi (Or.inl rfl)
  have v0 : vt (p_i (p_i (p_i (p_i h 51 3 (nI 0)) 51 10 (nI c)) 51 8 (nI m)) 51 11 md) [] c m md := ⟨by simp (disch := first | assumption | omega | (simp only [ya_pi, ya_pj, ya_pa, ya_pr, yo_pi, yo_pj, yo_pa, yf_pi, yf_pj, yf_pa, yh_pi, yh_pj, yh_pa, yt_pi, yt_pj, yt_pa, la_pi, la_pj, la_pa]; assumption)) only [hi_s, hi_o, hi_k, hr_pi, hj_pi, hn_pi, hi_pas, hi_pao, hr_pa, hj_pa]; rfl, ro_nil, by simp (disch := first | assumption | omega | (simp only [ya_pi, ya_pj, ya_pa, ya_pr, yo_pi, yo_pj, yo_pa, yf_pi, yf_pj, yf_pa, yh_pi, yh_pj, yh_pa, yt_pi, yt_pj, yt_pa, la_pi, la_pj, la_pa]; assumption)) only [hi_s, hi_o, hi_k, hr_pi, hj_pi, hn_pi, hi_pas, hi_pao, hr_pa, hj_pa], by simp (disch := first | assumption | omega | (simp only [ya_pi, ya_pj, ya_pa, ya_pr, yo_pi, yo_pj, yo_pa, yf_pi, yf_pj, yf_pa, yh_pi, yh_pj, yh_pa, yt_pi, yt_pj, yt_pa, la_pi, la_pj, la_pa]; assumption)) only [hi_s, hi_o, hi_k, hr_pi, hj_pi, hn_pi, hi_pas, hi_pao, hr_pa, hj_pa], by simp (disch := first | assumption | omega | (simp only [ya_pi, ya_pj, ya_pa, ya_pr, yo_pi, yo_pj, yo_pa, yf_pi, yf_pj, yf_pa, yh_pi, yh_pj, yh_pa, yt_pi, yt_pj, yt_pa, la_pi, la_pj, la_pa]; assumption)) only [hi_s, hi_o, hi_k, hr_pi, hj_pi, hn_pi, hi_pas, hi_pao, hr_pa, hj_pa]⟩
  refine lp_up (fT f c).2.length (fun i (s : List Nat × Option am_V) => [some (v_r (some 51)), some (v_i (nI c)), some (v_i (nI m)), some (v_i md), some (v_i (nI i)), s.2]) (fun i s h' => am_fr h h' vF ∧ vt h' s.1 c m md ∧ s.1.length ≤ i ∧ trl f seen c m md = s.1 ++ trc (vPk f seen c m md) (vEk f c m) ((fT f c).2.length - i) i) ?_ ?_ (Nat.zero_le _) ⟨fr0, v0, Nat.le_refl _, rfl⟩ (s := ([], l5))
  · rintro i ⟨ks, l5⟩ h1 hi ⟨fr1, v1, hk, eq⟩ nx
    dsimp only at v1 hk eq ⊢
    have C1 : cQ h1 f := C.fr ok (fr1.le (fun a k z => z.S))
    have L1 := C1.1
    have H1 : hsn h1 2 seen := H.fr fr1 (fun a k ha => by unfold vF; omega)
    obtain ⟨e3, r52, e10, e8, e11⟩ := v1
    have x10 := ho.2.2.2.1 _ (gd_mem hi)
    rw [show (fT f c).2.length - i = ((fT f c).2.length - (i + 1)) + 1 from by omega, trc] at eq
    obtain ⟨v, hv, ev⟩ := gd.2.1 ((fT f c).2.getD i 0) m
    have m0 := C1.2.2.2 c hc
    have fr2 : am_fr h (p_i h1 51 9 (nI ((fT f c).2.getD i 0))) vF := fr1.pi (Or.inl rfl)
    have F2 : fa_at (p_i h1 51 9 (nI ((fT f c).2.getD i 0))) 11 f := (am_fr_pi (P := fun a _ => a = 51) rfl).fa C1.2.1 (fun q k _ _ => by omega)
    have L2 : Lay (p_i h1 51 9 (nI ((fT f c).2.getD i 0))) := L1
    have H2 : hsn (p_i h1 51 9 (nI ((fT f c).2.getD i 0))) 2 seen := H.fr fr2 (fun a k ha => by unfold vF; omega)
    have v2 : vt (p_i h1 51 9 (nI ((fT f c).2.getD i 0))) ks c m md := ⟨by simp (disch := first | assumption | omega | (simp only [ya_pi, ya_pj, ya_pa, ya_pr, yo_pi, yo_pj, yo_pa, yf_pi, yf_pj, yf_pa, yh_pi, yh_pj, yh_pa, yt_pi, yt_pj, yt_pa, la_pi, la_pj, la_pa]; assumption)) only [hi_s, hi_o, hi_k, hr_pi, hj_pi, hn_pi, hi_pas, hi_pao, hr_pa, hj_pa, e3], fun j hj => by rw [hi_o (by omega)]; exact r52 j hj, by simp (disch := first | assumption | omega | (simp only [ya_pi, ya_pj, ya_pa, ya_pr, yo_pi, yo_pj, yo_pa, yf_pi, yf_pj, yf_pa, yh_pi, yh_pj, yh_pa, yt_pi, yt_pj, yt_pa, la_pi, la_pj, la_pa]; assumption)) only [hi_s, hi_o, hi_k, hr_pi, hj_pi, hn_pi, hi_pas, hi_pao, hr_pa, hj_pa, e10], by simp (disch := first | assumption | omega | (simp only [ya_pi, ya_pj, ya_pa, ya_pr, yo_pi, yo_pj, yo_pa, yf_pi, yf_pj, yf_pa, yh_pi, yh_pj, yh_pa, yt_pi, yt_pj, yt_pa, la_pi, la_pj, la_pa]; assumption)) only [hi_s, hi_o, hi_k, hr_pi, hj_pi, hn_pi, hi_pas, hi_pao, hr_pa, hj_pa, e8], by simp (disch := first | assumption | omega | (simp only [ya_pi, ya_pj, ya_pa, ya_pr, yo_pi, yo_pj, yo_pa, yf_pi, yf_pj, yf_pa, yh_pi, yh_pj, yh_pa, yt_pi, yt_pj, yt_pa, la_pi, la_pj, la_pa]; assumption)) only [hi_s, hi_o, hi_k, hr_pi, hj_pi, hn_pi, hi_pas, hi_pao, hr_pa, hj_pa, e11]⟩
    have e9 : h_i (p_i h1 51 9 (nI ((fT f c).2.getD i 0))) 51 9 = nI ((fT f c).2.getD i 0) := hi_s
    have hV : vPk f seen c m md i = (!(f_d f ((fT f c).2.getD i 0) m == nI 0) && snb seen (nI m) (nI ((fT f c).2.getD i 0)) (nI c) md) := rfl
    have hE : vEk f c m i = (f_d f ((fT f c).2.getD i 0) m == nI 1) := rfl
    have cat := fun {d} {Q} => c_at (d := d) (Q := Q) C1.2.2.1 m0 c11 hi (by omega)
    have cdf := fun {d} {Q} => c_definitionAt (d := d) (Q := Q) F2 x10 hm
    generalize (fT f c).2.getD i 0 = x at ev fr2 F2 L2 H2 v2 e9 hV hE x10 cat cdf
    rw [ev] at hV hE cdf
    generalize hh2 : p_i h1 51 9 (nI x) = h2 at fr2 F2 L2 H2 v2 e9 cdf
    have A := C1.2.2.1
    rw [b_X10_trace_23 _ _ _ _ _ _ L1]
    -- the end of a step
    have add : vPk f seen c m md i = true → ∀ h3, am_fr h h3 vF → vt h3 ks c m md → ex_ (d + 3) 155 108 [some (v_r (some 51)), some (v_i (nI c)), some (v_i (nI m)), some (v_i md), some (v_i (nI i)), some (v_i (nI v))] [] h3 Q := by
      intro hP h3 fr3 v3
      have L3 : Lay h3 := fr3.lay L0
      obtain ⟨g3, g52, g10, g8, g11⟩ := v3
      rw [if_pos hP] at eq
      have frn : am_fr h (p_i (p_i h3 52 ks.length (nI i)) 51 3 (nI (ks.length + 1))) vF := (fr3.pi (Or.inr (Or.inl rfl))).pi (Or.inl rfl)
      have vn : vt (p_i (p_i h3 52 ks.length (nI i)) 51 3 (nI (ks.length + 1))) (ks ++ [i]) c m md := ⟨by rw [hi_s, List.length_append]; rfl, fun j hj => by
        have := ro_app (q := i) g52
        rw [Nat.zero_add] at this
        rw [hi_o (by omega)]
        exact this j hj, by simp (disch := first | assumption | omega | (simp only [ya_pi, ya_pj, ya_pa, ya_pr, yo_pi, yo_pj, yo_pa, yf_pi, yf_pj, yf_pa, yh_pi, yh_pj, yh_pa, yt_pi, yt_pj, yt_pa, la_pi, la_pj, la_pa]; assumption)) only [hi_s, hi_o, hi_k, hr_pi, hj_pi, hn_pi, hi_pas, hi_pao, hr_pa, hj_pa, g10], by simp (disch := first | assumption | omega | (simp only [ya_pi, ya_pj, ya_pa, ya_pr, yo_pi, yo_pj, yo_pa, yf_pi, yf_pj, yf_pa, yh_pi, yh_pj, yh_pa, yt_pi, yt_pj, yt_pa, la_pi, la_pj, la_pa]; assumption)) only [hi_s, hi_o, hi_k, hr_pi, hj_pi, hn_pi, hi_pas, hi_pao, hr_pa, hj_pa, g8], by simp (disch := first | assumption | omega | (simp only [ya_pi, ya_pj, ya_pa, ya_pr, yo_pi, yo_pj, yo_pa, yf_pi, yf_pj, yf_pa, yh_pi, yh_pj, yh_pa, yt_pi, yt_pj, yt_pa, la_pi, la_pj, la_pa]; assumption)) only [hi_s, hi_o, hi_k, hr_pi, hj_pi, hn_pi, hi_pas, hi_pao, hr_pa, hj_pa, g11]⟩
      have len10 := ho.2.2.2.2
      by_cases y : v = 1
      · have hE1 : vEk f c m i = true := by rw [hE, y]; rfl
        rw [if_pos hE1] at eq
        rw [eq] at k
        simp (disch := first | assumption | omega | (simp only [ya_pi, ya_pj, ya_pa, ya_pr, yo_pi, yo_pj, yo_pa, yf_pi, yf_pj, yf_pa, yh_pi, yh_pj, yh_pa, yt_pi, yt_pj, yt_pa, la_pi, la_pj, la_pa]; assumption)) only [b_X10_trace_0, b_X10_trace_33, b_X10_trace_142, b_X10_trace_36, b_X10_trace_48, b_X10_trace_59, b_X10_trace_77, b_X10_trace_136, b_X10_trace_84, b_X10_trace_108, b_X10_trace_94, b_X10_trace_135, b_X10_trace_105, i_lit, i_m1, i_31, il_t, il_f, iq_t, iq_f, it_t, it_f, im_e, im_l, im_g, im_g2, nI_add, pk_mul, i_sub, i_div, sdm, i_dec, i_cl, iv_t, bI_or2, bI_t0, bI_one, not_true_eq_false, not_false_eq_true, ↓reduceIte, am_tl, am_tn, am_t0, am_n0, and_true, true_and, List.cons_append, List.nil_append, List.append_nil, or_true, true_or, or_false, false_or, eq_self, ior0, iand0, im_e2, oI, hi_s, hi_o, hi_k, hr_pi, hj_pi, hn_pi, hi_pas, hi_pao, hr_pa, hj_pa, g3]
        exact k _ frn vn
      · have hE1 : vEk f c m i = false := by
          rw [hE]
          exact beq_eq_false_iff_ne.2 (fun w => y ((nI_eq (by omega) (by omega)).1 w))
        rw [hE1] at eq
        simp (disch := first | assumption | omega | (simp only [ya_pi, ya_pj, ya_pa, ya_pr, yo_pi, yo_pj, yo_pa, yf_pi, yf_pj, yf_pa, yh_pi, yh_pj, yh_pa, yt_pi, yt_pj, yt_pa, la_pi, la_pj, la_pa]; assumption)) only [b_X10_trace_0, b_X10_trace_33, b_X10_trace_142, b_X10_trace_36, b_X10_trace_48, b_X10_trace_59, b_X10_trace_77, b_X10_trace_136, b_X10_trace_84, b_X10_trace_108, b_X10_trace_94, b_X10_trace_135, b_X10_trace_105, i_lit, i_m1, i_31, il_t, il_f, iq_t, iq_f, it_t, it_f, im_e, im_l, im_g, im_g2, nI_add, pk_mul, i_sub, i_div, sdm, i_dec, i_cl, iv_t, bI_or2, bI_t0, bI_one, not_true_eq_false, not_false_eq_true, ↓reduceIte, am_tl, am_tn, am_t0, am_n0, and_true, true_and, List.cons_append, List.nil_append, List.append_nil, or_true, true_or, or_false, false_or, eq_self, ior0, iand0, im_e2, oI, hi_s, hi_o, hi_k, hr_pi, hj_pi, hn_pi, hi_pas, hi_pao, hr_pa, hj_pa, g3]
        refine nx (ks ++ [i], _) _ ⟨frn, vn, by rw [List.length_append, List.length_singleton]; omega, ?_⟩
        dsimp only
        rw [eq, List.append_assoc]
        rfl
    have len10 := ho.2.2.2.2
    by_cases z : v = 0
    · have hP : vPk f seen c m md i = false := by rw [hV, z]; rfl
      rw [hP] at eq
      simp (disch := first | assumption | omega | (simp only [ya_pi, ya_pj, ya_pa, ya_pr, yo_pi, yo_pj, yo_pa, yf_pi, yf_pj, yf_pa, yh_pi, yh_pj, yh_pa, yt_pi, yt_pj, yt_pa, la_pi, la_pj, la_pa]; assumption)) only [b_X10_trace_0, b_X10_trace_33, b_X10_trace_142, b_X10_trace_36, b_X10_trace_48, b_X10_trace_59, b_X10_trace_77, b_X10_trace_136, b_X10_trace_84, b_X10_trace_108, b_X10_trace_94, b_X10_trace_135, b_X10_trace_105, i_lit, i_m1, i_31, il_t, il_f, iq_t, iq_f, it_t, it_f, im_e, im_l, im_g, im_g2, nI_add, pk_mul, i_sub, i_div, sdm, i_dec, i_cl, iv_t, bI_or2, bI_t0, bI_one, not_true_eq_false, not_false_eq_true, ↓reduceIte, am_tl, am_tn, am_t0, am_n0, and_true, true_and, List.cons_append, List.nil_append, List.append_nil, or_true, true_or, or_false, false_or, eq_self, ior0, iand0, im_e2, oI, hi_s, hi_o, hi_k, hr_pi, hj_pi, hn_pi, hi_pas, hi_pao, hr_pa, hj_pa, c_sizeOf A m0 c11, e3, cat, hh2, e9, cdf]
      exact nx (ks, _) h2 ⟨fr2, v2, by dsimp only; omega, eq⟩
    · have nz : (nI v == nI 0) = false := beq_eq_false_iff_ne.2 (fun w => z ((nI_eq (by omega) (by omega)).1 w))
      rw [nz, Bool.not_false, Bool.true_and] at hV
      cases hs : seen with
      | none =>
        rw [hs] at H2 hV
        have hP : vPk f seen c m md i = true := by rw [hs]; exact hV
        have r2 : h_r h2 10 2 = none := H2
        have r2' : (h_r h2 10 2 = none) = True := eq_true r2
        simp (disch := first | assumption | omega | (simp only [ya_pi, ya_pj, ya_pa, ya_pr, yo_pi, yo_pj, yo_pa, yf_pi, yf_pj, yf_pa, yh_pi, yh_pj, yh_pa, yt_pi, yt_pj, yt_pa, la_pi, la_pj, la_pa]; assumption)) only [b_X10_trace_0, b_X10_trace_33, b_X10_trace_142, b_X10_trace_36, b_X10_trace_48, b_X10_trace_59, b_X10_trace_77, b_X10_trace_136, b_X10_trace_84, b_X10_trace_94, b_X10_trace_135, b_X10_trace_105, i_lit, i_m1, i_31, il_t, il_f, iq_t, iq_f, it_t, it_f, im_e, im_l, im_g, im_g2, nI_add, pk_mul, i_sub, i_div, sdm, i_dec, i_cl, iv_t, bI_or2, bI_t0, bI_one, not_true_eq_false, not_false_eq_true, ↓reduceIte, am_tl, am_tn, am_t0, am_n0, and_true, true_and, List.cons_append, List.nil_append, List.append_nil, or_true, true_or, or_false, false_or, eq_self, ior0, iand0, im_e2, oI, hi_s, hi_o, hi_k, hr_pi, hj_pi, hn_pi, hi_pas, hi_pao, hr_pa, hj_pa, c_sizeOf A m0 c11, e3, cat, hh2, e9, cdf, r2']
        exact add hP h2 fr2 v2
      | some l =>
        rw [hs] at H2 hV
        obtain ⟨q, r2, hq, la⟩ := H2
        have r2' : (h_r h2 10 2 = none) = False := eq_false (fun w => by rw [r2] at w; cases w)
        have kl := K l hs
        have ex := evx_eq (w := wd (nI m) (nI x) (nI c) md (nI 0) (nI 0)) kl.1
        have vw2 : vw h2 false (wd (nI m) (nI x) (nI c) md (nI 0) (nI 0)) := ⟨v2.2.2.2.1, e9, v2.2.2.1, v2.2.2.2.2, fun w => by cases w⟩
        simp (disch := first | assumption | omega | (simp only [ya_pi, ya_pj, ya_pa, ya_pr, yo_pi, yo_pj, yo_pa, yf_pi, yf_pj, yf_pa, yh_pi, yh_pj, yh_pa, yt_pi, yt_pj, yt_pa, la_pi, la_pj, la_pa]; assumption)) only [b_X10_trace_0, b_X10_trace_33, b_X10_trace_142, b_X10_trace_36, b_X10_trace_48, b_X10_trace_59, b_X10_trace_77, b_X10_trace_136, b_X10_trace_84, b_X10_trace_94, b_X10_trace_135, b_X10_trace_105, i_lit, i_m1, i_31, il_t, il_f, iq_t, iq_f, it_t, it_f, im_e, im_l, im_g, im_g2, nI_add, pk_mul, i_sub, i_div, sdm, i_dec, i_cl, iv_t, bI_or2, bI_t0, bI_one, not_true_eq_false, not_false_eq_true, ↓reduceIte, am_tl, am_tn, am_t0, am_n0, and_true, true_and, List.cons_append, List.nil_append, List.append_nil, or_true, true_or, or_false, false_or, eq_self, ior0, iand0, im_e2, oI, hi_s, hi_o, hi_k, hr_pi, hj_pi, hn_pi, hi_pas, hi_pao, hr_pa, hj_pa, c_sizeOf A m0 c11, e3, cat, hh2, e9, cdf, r2', r2]
        refine c_run L2 la (by omega) vw2 kl.1 ex.1 (fun h3 fr3 => ?_)
        have fr3' : am_fr h h3 vF := fr2.tr (fr3.le (fun a k z => z.F))
        have v3 : vt h3 ks c m md := ⟨by rw [fr3.i (by unfold vP; omega)]; exact v2.1, fr3.ro v2.2.1 (fun j _ => by unfold vP; omega), by rw [fr3.i (by unfold vP; omega)]; exact v2.2.2.1, by rw [fr3.i (by unfold vP; omega)]; exact v2.2.2.2.1, by rw [fr3.i (by unfold vP; omega)]; exact v2.2.2.2.2⟩
        rcases ex.2 rfl with w | w
        · have hP : vPk f seen c m md i = false := by
            rw [hs, hV, snb, w]
            rfl
          rw [hP] at eq
          simp (disch := first | assumption | omega | (simp only [ya_pi, ya_pj, ya_pa, ya_pr, yo_pi, yo_pj, yo_pa, yf_pi, yf_pj, yf_pa, yh_pi, yh_pj, yh_pa, yt_pi, yt_pj, yt_pa, la_pi, la_pj, la_pa]; assumption)) only [b_X10_trace_0, b_X10_trace_33, b_X10_trace_142, b_X10_trace_36, b_X10_trace_48, b_X10_trace_59, b_X10_trace_77, b_X10_trace_136, b_X10_trace_84, b_X10_trace_94, b_X10_trace_135, b_X10_trace_105, i_lit, i_m1, i_31, il_t, il_f, iq_t, iq_f, it_t, it_f, im_e, im_l, im_g, im_g2, nI_add, pk_mul, i_sub, i_div, sdm, i_dec, i_cl, iv_t, bI_or2, bI_t0, bI_one, not_true_eq_false, not_false_eq_true, ↓reduceIte, am_tl, am_tn, am_t0, am_n0, and_true, true_and, List.cons_append, List.nil_append, List.append_nil, or_true, true_or, or_false, false_or, eq_self, ior0, iand0, im_e2, oI, w]
          exact nx (ks, _) h3 ⟨fr3', v3, by dsimp only; omega, eq⟩
        · have hP : vPk f seen c m md i = true := by
            rw [hs, hV, snb, w]
            rfl
          simp (disch := first | assumption | omega | (simp only [ya_pi, ya_pj, ya_pa, ya_pr, yo_pi, yo_pj, yo_pa, yf_pi, yf_pj, yf_pa, yh_pi, yh_pj, yh_pa, yt_pi, yt_pj, yt_pa, la_pi, la_pj, la_pa]; assumption)) only [b_X10_trace_0, b_X10_trace_33, b_X10_trace_142, b_X10_trace_36, b_X10_trace_48, b_X10_trace_59, b_X10_trace_77, b_X10_trace_136, b_X10_trace_84, b_X10_trace_94, b_X10_trace_135, b_X10_trace_105, i_lit, i_m1, i_31, il_t, il_f, iq_t, iq_f, it_t, it_f, im_e, im_l, im_g, im_g2, nI_add, pk_mul, i_sub, i_div, sdm, i_dec, i_cl, iv_t, bI_or2, bI_t0, bI_one, not_true_eq_false, not_false_eq_true, ↓reduceIte, am_tl, am_tn, am_t0, am_n0, and_true, true_and, List.cons_append, List.nil_append, List.append_nil, or_true, true_or, or_false, false_or, eq_self, ior0, iand0, im_e2, oI, w]
          exact add hP h3 fr3' v3
  · rintro ⟨ks, l5⟩ h1 ⟨fr1, v1, hk, eq⟩
    dsimp only at v1 hk eq ⊢
    have C1 : cQ h1 f := C.fr ok (fr1.le (fun a k z => z.S))
    have L1 := C1.1
    rw [Nat.sub_self, trc, List.append_nil] at eq
    rw [eq] at k
    rw [b_X10_trace_23 _ _ _ _ _ _ L1]
    simp (disch := first | assumption | omega | (simp only [ya_pi, ya_pj, ya_pa, ya_pr, yo_pi, yo_pj, yo_pa, yf_pi, yf_pj, yf_pa, yh_pi, yh_pj, yh_pa, yt_pi, yt_pj, yt_pa, la_pi, la_pj, la_pa]; assumption)) only [b_X10_trace_0, b_X10_trace_33, b_X10_trace_142, b_X10_trace_36, b_X10_trace_48, b_X10_trace_59, b_X10_trace_77, b_X10_trace_136, b_X10_trace_84, b_X10_trace_108, b_X10_trace_94, b_X10_trace_135, b_X10_trace_105, i_lit, i_m1, i_31, il_t, il_f, iq_t, iq_f, it_t, it_f, im_e, im_l, im_g, im_g2, nI_add, pk_mul, i_sub, i_div, sdm, i_dec, i_cl, iv_t, bI_or2, bI_t0, bI_one, not_true_eq_false, not_false_eq_true, ↓reduceIte, am_tl, am_tn, am_t0, am_n0, and_true, true_and, List.cons_append, List.nil_append, List.append_nil, or_true, true_or, or_false, false_or, eq_self, ior0, iand0, im_e2, oI, c_sizeOf C1.2.2.1 (C1.2.2.2 c hc) c11]
    exact k h1 fr1 v1
