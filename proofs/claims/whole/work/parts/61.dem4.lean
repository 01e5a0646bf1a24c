/-! ===== who stands in an order ===== -/
theorem mf_mem {n : Nat} : ∀ m (R : Nat → List Nat) (l : List Nat), mf_len R n < m → mf n R = some l → ∀ x, x ∈ l ↔ ∃ k, k ≤ n ∧ x ∈ R k := by
  intro m
  induction m with
  | zero => intro R l h; omega
  | succ m ih =>
    intro R l hm h x
    cases hp : mf_pick n R 0 with
    | none =>
      rw [mf_none hp] at h
      split at h
      · rename_i he
        cases h
        rw [mf_emp_iff] at he
        refine ⟨fun z => (by cases z), fun ⟨k, hk, hx⟩ => ?_⟩
        rw [he k hk] at hx
        cases hx
      · cases h
    | some y =>
      obtain ⟨hf, j, hj, hh⟩ := mf_pick_mem (n + 1) 0 (by omega) hp
      have hlt := mf_len_lt hh n hj
      rw [mf_some hp] at h
      cases h2 : mf n (mf_drop y R) with
      | none => rw [h2] at h; cases h
      | some l' =>
        rw [h2] at h
        cases h
        rw [List.mem_cons, ih _ l' (by omega) h2 x]
        constructor
        · rintro (rfl | ⟨k, hk, hx⟩)
          · exact ⟨j, hj, List.mem_of_head? hh⟩
          · exact ⟨k, hk, mf_dmem hx⟩
        · rintro ⟨k, hk, hx⟩
          by_cases z : (R k).head? = some y
          · cases e : R k with
            | nil => rw [e] at hx; cases hx
            | cons a t =>
              rw [e] at z hx
              cases z
              rcases List.mem_cons.1 hx with r | r
              · exact Or.inl r
              · right
                refine ⟨k, hk, ?_⟩
                unfold mf_drop
                rw [e, if_pos (by rfl)]
                exact r
          · right
            refine ⟨k, hk, ?_⟩
            unfold mf_drop
            rw [if_neg z]
            exact hx
theorem od_at {p : Nat → List Nat} {c : Nat} : ∀ n, c < n → od p n c = od1 (od p c) c (p c) := by
  intro n
  induction n with
  | zero => intro h; omega
  | succ n ih =>
    intro h
    rw [od, od_up]
    by_cases z : c = n
    · subst z
      rw [if_pos rfl]
    · rw [if_neg z, ih (by omega)]
theorem od_st {p : Nat → List Nat} {q c n : Nat} (h : q < c) (hn : q < n) : od p c q = od p n q := by rw [od_at c h, od_at n hn]
theorem od1_ext {T T' : od_T} {c : Nat} {ps : List Nat} (h : ∀ p ∈ ps, T p = T' p) : od1 T c ps = od1 T' c ps := by
  have e1 : ps.any (fun p => (T p).2.isEmpty) = ps.any (fun p => (T' p).2.isEmpty) := by
    rw [Bool.eq_iff_iff, List.any_eq_true, List.any_eq_true]
    exact ⟨fun ⟨p, hp, e⟩ => ⟨p, hp, by rw [← h p hp]; exact e⟩, fun ⟨p, hp, e⟩ => ⟨p, hp, by rw [h p hp]; exact e⟩⟩
  have e2 : od_R T ps = od_R T' ps := by
    funext k
    unfold od_R
    by_cases z : k < ps.length
    · rw [if_pos z, if_pos z, h _ (gd_mem z)]
    · rw [if_neg z, if_neg z]
  rw [od1, od1, e1, e2]
theorem od_fix {p : Nat → List Nat} (hp : p_ok p) {c n : Nat} (h : c < n) : od p n c = od1 (od p n) c (p c) := by
  rw [od_at n h]
  exact od1_ext (fun q hq => od_st ((hp c).2.1 q hq) (Nat.lt_trans ((hp c).2.1 q hq) h))
theorem od1_mem {T : od_T} {c : Nat} {ps : List Nat} : (od1 T c ps).2 = [] ∨ ((∀ q ∈ ps, ¬ (T q).2 = []) ∧ ∃ l, (od1 T c ps) = (0, c :: l) ∧ ∀ x, x ∈ l ↔ (∃ q ∈ ps, x ∈ (T q).2) ∨ x ∈ ps) := by
  unfold od1
  split
  · exact Or.inl rfl
  · rename_i h
    have hne : ∀ q ∈ ps, ¬ (T q).2 = [] := fun q hq e => h (List.any_eq_true.2 ⟨q, hq, by rw [e]; rfl⟩)
    cases hm : mf ps.length (od_R T ps) with
    | none => exact Or.inl rfl
    | some l =>
      refine Or.inr ⟨hne, l, rfl, fun x => ?_⟩
      rw [mf_mem _ _ l (Nat.lt_succ_self _) hm x]
      constructor
      · rintro ⟨k, hk, hx⟩
        unfold od_R at hx
        split at hx
        · rename_i z
          exact Or.inl ⟨_, gd_mem z, hx⟩
        · split at hx
          · exact Or.inr hx
          · cases hx
      · rintro (⟨q, hq, hx⟩ | hx)
        · obtain ⟨t, ht, et⟩ := gd_ex hq
          exact ⟨t, by omega, by rw [od_R, if_pos ht, et]; exact hx⟩
        · exact ⟨ps.length, Nat.le_refl _, by rw [od_R, if_neg (by omega), if_pos rfl]; exact hx⟩
theorem p_okl {p : Nat → List Nat} (hp : p_ok p) : p_lt p := fun c => (hp c).2.1
theorem od_mem {p : Nat → List Nat} (hp : p_ok p) {n : Nat} : ∀ m c, c < m → c < n → (od p n c).2 = [] ∨ ∀ x, x ∈ (od p n c).2 ↔ up p c x = true := by
  intro m
  induction m with
  | zero => intro c h; omega
  | succ m ih =>
    intro c hcm hc
    rw [od_fix hp hc]
    rcases od1_mem (T := od p n) (c := c) (ps := p c) with h | ⟨hne, l, e, hl⟩
    · exact Or.inl h
    · right
      intro x
      rw [e, List.mem_cons, hl x, up_iff (p_okl hp)]
      refine or_congr Iff.rfl ?_
      constructor
      · rintro (⟨q, hq, hx⟩ | hx)
        · have hqc := (hp c).2.1 q hq
          rcases ih q (by omega) (by omega) with z | z
          · exact absurd z (hne q hq)
          · exact ⟨q, hq, (z x).1 hx⟩
        · exact ⟨x, hx, up_self (p_okl hp)⟩
      · rintro ⟨q, hq, hx⟩
        have hqc := (hp c).2.1 q hq
        rcases ih q (by omega) (by omega) with z | z
        · exact absurd z (hne q hq)
        · exact Or.inl ⟨q, hq, (z x).2 hx⟩
theorem fT_mem {f : fa_S} (ok : fa_ok f) {c : Nat} (hc : c < f_n f) : (fT f c).2 = [] ∨ ∀ x, x ∈ (fT f c).2 ↔ up (f_p f) c x = true := od_mem (fa_pok ok) (c + 1) c (by omega) hc
theorem fT_up {f : fa_S} (ok : fa_ok f) {c x : Nat} (hc : c < f_n f) (hx : x ∈ (fT f c).2) : up (f_p f) c x = true := by
  rcases fT_mem ok hc with z | z
  · rw [z] at hx
    cases hx
  · exact (z x).1 hx
theorem pc_mem {l : List Nat} {a b : Nat} (h : pc l a b) : a ∈ l ∧ b ∈ l := by
  obtain ⟨i, j, h1, h2, rfl, rfl⟩ := h
  exact ⟨gd_mem (by omega), gd_mem h2⟩
theorem pc_irr {l : List Nat} (nd : l.Nodup) {a : Nat} : ¬ pc l a a := by
  rintro ⟨i, j, h1, h2, h3, h4⟩
  exact nd_gd.1 nd i j h1 h2 (h3.trans h4.symm)
theorem dm_up {f : fa_S} (ok : fa_ok f) {c a b : Nat} (hc : c < f_n f) (h : dmb (fT f) c (f_p f c) a b = true) : up (f_p f) c a = true ∧ up (f_p f) c b = true := by
  have hp := fa_plt ok
  rw [dmb_iff] at h
  have hq : ∀ q ∈ f_p f c, up (f_p f) c q = true := fun q hq => (up_iff hp).2 (Or.inr ⟨q, hq, up_self hp⟩)
  rcases h with ⟨rfl, h⟩ | h | ⟨q, hq1, h⟩
  · exact ⟨up_self hp, hq b h⟩
  · have := pc_mem h
    exact ⟨hq a this.1, hq b this.2⟩
  · have hm := pc_mem h
    have hqc := hp c q hq1
    exact ⟨(up_iff hp).2 (Or.inr ⟨q, hq1, fT_up ok (by omega) hm.1⟩), (up_iff hp).2 (Or.inr ⟨q, hq1, fT_up ok (by omega) hm.2⟩)⟩
theorem up_lt {f : fa_S} (ok : fa_ok f) {c x : Nat} (h : up (f_p f) c x = true) : x ≤ c := up_le (fa_plt ok) (c + 1) c x (by omega) h
theorem dm_irr {f : fa_S} (ok : fa_ok f) {c a : Nat} (hc : c < f_n f) : dmb (fT f) c (f_p f c) a a = false := by
  cases e : dmb (fT f) c (f_p f c) a a with
  | false => rfl
  | true =>
    rw [dmb_iff] at e
    rcases e with ⟨rfl, h⟩ | h | ⟨q, hq1, h⟩
    · have := fa_plt ok _ _ h
      omega
    · exact absurd h (pc_irr (ok.2 c).2.2.1)
    · have hqc := fa_plt ok c q hq1
      exact absurd h (pc_irr (fT_ok ok q (by omega)).2.2.1)
theorem dm_hi {f : fa_S} (ok : fa_ok f) {c : Nat} (hc : c < f_n f) {a b : Nat} (h : 10 ≤ a ∨ 10 ≤ b) : dmb (fT f) c (f_p f c) a b = false := by
  cases e : dmb (fT f) c (f_p f c) a b with
  | false => rfl
  | true =>
    have h1 := dm_up ok hc e
    have h2 := up_lt ok h1.1
    have h3 := up_lt ok h1.2
    have hn := ok.1
    omega
/-! ===== demands, demand ===== -/
def cS (a k : Nat) : Prop := (27 ≤ a ∧ a ≤ 55) ∨ (81 ≤ a ∧ a ≤ 82) ∨ (16 ≤ a ∧ a ≤ 17 ∧ k = 10) ∨ (a = 18 ∧ 110 ≤ k) ∨ (19 ≤ a ∧ a ≤ 24)
def cQ (h : am_H) (f : fa_S) : Prop := Lay h ∧ fa_at h 11 f ∧ or_at h 15 (fT f) (f_n f)
theorem or_at.fr {h h' : am_H} {P : Nat → Nat → Prop} {o n : Nat} {T : od_T} (F : or_at h o T n) (ok : od_ok T n) (fr : am_fr h h' P) (h1 : ∀ a k, o + 1 ≤ a → a ≤ o + 2 → k < n → ¬ P a k) (h3 : ∀ k, k < 11 * n → ¬ P (o + 3) k) : or_at h' o T n := by
  refine ⟨fr.orders F.1, fun c hc => ?_⟩
  have := ok c hc
  exact (F.2 c hc).fr fr (by omega) (h1 _ _ (by omega) (by omega) hc) (h1 _ _ (by omega) (by omega) hc) (fun k _ => h3 _ (by omega))
theorem cQ.fr {h h' : am_H} {f : fa_S} (ok : fa_ok f) (C : cQ h f) (fr : am_fr h h' cS) : cQ h' f := by
  have hn := ok.1
  exact ⟨fr.lay C.1, fr.fa C.2.1 (fun q k _ _ => by unfold cS; omega), C.2.2.fr (fT_ok ok) fr (fun a k _ _ _ => by unfold cS; omega) (fun k _ => by unfold cS; omega)⟩
theorem dPm.S {a k : Nat} (z : dPm a k) : cS a k := by unfold dPm at z; unfold cS; omega
theorem c_demandsCode_n {d : Nat} {Q : Option am_V → am_H → Prop} {h : am_H} {f : fa_S} (ok : fa_ok f) (C : cQ h f) {c : Int32} (hc : ¬ fa_has (f_n f) c) : ex_ (d + 1) 190 0 [some (v_r (some 0)), some (v_i c)] [] h Q ↔ Q (some (v_i (-2))) h := by
  have L0 := C.1
  simp (disch := first | assumption | omega | (simp only [ya_pi, ya_pj, ya_pa, ya_pr, yo_pi, yo_pj, yo_pa, yf_pi, yf_pj, yf_pa, yh_pi, yh_pj, yh_pa, yt_pi, yt_pj, yt_pa, la_pi, la_pj, la_pa]; assumption)) only [b_X11_demandsCode_0, b_X11_demandsCode_11, b_X11_demandsCode_17, b_X11_demandsCode_14, b_X11_demandsCode_25, b_X11_demandsCode_33, b_X11_demandsCode_29, i_lit, i_m1, i_31, il_t, il_f, iq_t, iq_f, it_t, it_f, im_e, im_l, im_g, im_g2, nI_add, pk_mul, i_sub, i_div, sdm, i_dec, i_cl, iv_t, bI_or2, bI_t0, bI_one, not_true_eq_false, not_false_eq_true, ↓reduceIte, am_tl, am_tn, am_t0, am_n0, and_true, true_and, List.cons_append, List.nil_append, List.append_nil, or_true, true_or, or_false, false_or, eq_self, ior0, iand0, im_e2, oI, c_hasClass_n ok C.2.1 hc]
theorem c_demandsCode_y {d : Nat} {Q : Option am_V → am_H → Prop} {h : am_H} {f : fa_S} (ok : fa_ok f) (C : cQ h f) {c : Nat} (hc : c < f_n f) : ex_ (d + 1) 190 0 [some (v_r (some 0)), some (v_i (nI c))] [] h Q ↔ Q (some (v_i (if (fT f c).1 = 2 then mI else nI 0))) h := by
  have L0 := C.1
  have hn := ok.1
  have o1 := (fT_ok ok c hc).1
  by_cases z : (fT f c).1 = 2
  · simp (disch := first | assumption | omega | (simp only [ya_pi, ya_pj, ya_pa, ya_pr, yo_pi, yo_pj, yo_pa, yf_pi, yf_pj, yf_pa, yh_pi, yh_pj, yh_pa, yt_pi, yt_pj, yt_pa, la_pi, la_pj, la_pa]; assumption)) only [b_X11_demandsCode_0, b_X11_demandsCode_11, b_X11_demandsCode_17, b_X11_demandsCode_14, b_X11_demandsCode_25, b_X11_demandsCode_33, b_X11_demandsCode_29, i_lit, i_m1, i_31, il_t, il_f, iq_t, iq_f, it_t, it_f, im_e, im_l, im_g, im_g2, nI_add, pk_mul, i_sub, i_div, sdm, i_dec, i_cl, iv_t, bI_or2, bI_t0, bI_one, not_true_eq_false, not_false_eq_true, ↓reduceIte, am_tl, am_tn, am_t0, am_n0, and_true, true_and, List.cons_append, List.nil_append, List.append_nil, or_true, true_or, or_false, false_or, eq_self, ior0, iand0, im_e2, oI, c_hasClass_y ok C.2.1 hc, c_stateOf C.2.2.1 (C.2.2.2 c hc) (show c < 11 by omega), z]
  · simp (disch := first | assumption | omega | (simp only [ya_pi, ya_pj, ya_pa, ya_pr, yo_pi, yo_pj, yo_pa, yf_pi, yf_pj, yf_pa, yh_pi, yh_pj, yh_pa, yt_pi, yt_pj, yt_pa, la_pi, la_pj, la_pa]; assumption)) only [b_X11_demandsCode_0, b_X11_demandsCode_11, b_X11_demandsCode_17, b_X11_demandsCode_14, b_X11_demandsCode_25, b_X11_demandsCode_33, b_X11_demandsCode_29, i_lit, i_m1, i_31, il_t, il_f, iq_t, iq_f, it_t, it_f, im_e, im_l, im_g, im_g2, nI_add, pk_mul, i_sub, i_div, sdm, i_dec, i_cl, iv_t, bI_or2, bI_t0, bI_one, not_true_eq_false, not_false_eq_true, ↓reduceIte, am_tl, am_tn, am_t0, am_n0, and_true, true_and, List.cons_append, List.nil_append, List.append_nil, or_true, true_or, or_false, false_or, eq_self, ior0, iand0, im_e2, oI, c_hasClass_y ok C.2.1 hc, c_stateOf C.2.2.1 (C.2.2.2 c hc) (show c < 11 by omega), z]
noncomputable abbrev fD (f : fa_S) (c : Nat) : Nat → Nat → Bool := dmb (fT f) c (f_p f c)
noncomputable def a_demands (f : fa_S) (c : Int32) : Int32 := if fa_has (f_n f) c then (if (fT f c.toNatClampNeg).1 = 2 then mI else nI (sm (fun a => ct (fD f c.toNatClampNeg a) 10) 10)) else -2
theorem c_size {d : Nat} {Q : Option am_V → am_H → Prop} {h : am_H} {D : Nat → Nat → Bool} (L0 : Lay h) (R : dr h D) (hD : ∀ a b, 10 ≤ b → D a b = false) {l1 l2 l3 l4 l5 : Option am_V} : ex_ (d + 1) 15 0 [some (v_r (some 41)), l1, l2, l3, l4, l5] [] h Q ↔ Q (some (v_i (nI (sm (fun a => ct (D a) 10) 10)))) h := by
  have A1 : y_arr h 42 20 10 := la_y L0 rfl
  apply ex_iff
  rw [b_X0_size_0 _ _ _ _ _ _ L0]
  refine lp_up 10 (fun i (l5 : Option am_V) => [some (v_r (some 41)), some (v_i (nI (sm (fun a => ct (D a) 10) i))), some (v_r (some 42)), some (v_i (nI 10)), some (v_i (nI i)), l5]) (fun i _ h' => h' = h) ?_ ?_ (Nat.zero_le _) rfl
  · rintro i l5 h' hi rfl nx
    have e := R.1 i hi
    rw [b_X0_size_13 _ _ _ _ _ _ _]
    simp (disch := first | assumption | omega | (simp only [ya_pi, ya_pj, ya_pa, ya_pr, yo_pi, yo_pj, yo_pa, yf_pi, yf_pj, yf_pa, yh_pi, yh_pj, yh_pa, yt_pi, yt_pj, yt_pa, la_pi, la_pj, la_pa]; assumption)) only [b_X0_size_0, b_X0_size_39, b_X0_size_19, b_X0_size_22, b_X0_size_31, i_lit, i_m1, i_31, il_t, il_f, iq_t, iq_f, it_t, it_f, im_e, im_l, im_g, im_g2, nI_add, pk_mul, i_sub, i_div, sdm, i_dec, i_cl, iv_t, bI_or2, bI_t0, bI_one, not_true_eq_false, not_false_eq_true, ↓reduceIte, am_tl, am_tn, am_t0, am_n0, and_true, true_and, List.cons_append, List.nil_append, List.append_nil, or_true, true_or, or_false, false_or, eq_self, ior0, iand0, im_e2, oI, e, c_bitCount (hD i)]
    exact nx _ h' rfl
  · rintro l5 h' rfl
    rw [b_X0_size_13 _ _ _ _ _ _ _]
    simp (disch := first | assumption | omega | (simp only [ya_pi, ya_pj, ya_pa, ya_pr, yo_pi, yo_pj, yo_pa, yf_pi, yf_pj, yf_pa, yh_pi, yh_pj, yh_pa, yt_pi, yt_pj, yt_pa, la_pi, la_pj, la_pa]; assumption)) only [b_X0_size_0, b_X0_size_39, b_X0_size_19, b_X0_size_22, b_X0_size_31, i_lit, i_m1, i_31, il_t, il_f, iq_t, iq_f, it_t, it_f, im_e, im_l, im_g, im_g2, nI_add, pk_mul, i_sub, i_div, sdm, i_dec, i_cl, iv_t, bI_or2, bI_t0, bI_one, not_true_eq_false, not_false_eq_true, ↓reduceIte, am_tl, am_tn, am_t0, am_n0, and_true, true_and, List.cons_append, List.nil_append, List.append_nil, or_true, true_or, or_false, false_or, eq_self, ior0, iand0, im_e2, oI]
theorem c_demands {d : Nat} {Q : Option am_V → am_H → Prop} {h : am_H} {f : fa_S} (ok : fa_ok f) (C : cQ h f) {c : Int32} {l2 : Option am_V} (k : ∀ h', am_fr h h' cS → Q (some (v_i (a_demands f c))) h') : ex_ (d + 4) 191 0 [some (v_r (some 0)), some (v_i c), l2] [] h Q := by
  have L0 := C.1
  have hn := ok.1
  unfold a_demands at k
  rcases fa_cs hn c with ⟨a, ha, rfl⟩ | hc
  · have hh : fa_has (f_n f) (nI a) := (fa_has_iff hn).2 ⟨a, ha, rfl⟩
    rw [if_pos hh, nI_clamp (by omega)] at k
    by_cases z : (fT f a).1 = 2
    · rw [if_pos z] at k
      simp (disch := first | assumption | omega | (simp only [ya_pi, ya_pj, ya_pa, ya_pr, yo_pi, yo_pj, yo_pa, yf_pi, yf_pj, yf_pa, yh_pi, yh_pj, yh_pa, yt_pi, yt_pj, yt_pa, la_pi, la_pj, la_pa]; assumption)) only [b_X11_demands_0, b_X11_demands_5, b_X11_demands_12, b_X11_demands_10, b_X11_demands_20, b_X11_demands_27, i_lit, i_m1, i_31, il_t, il_f, iq_t, iq_f, it_t, it_f, im_e, im_l, im_g, im_g2, nI_add, pk_mul, i_sub, i_div, sdm, i_dec, i_cl, iv_t, bI_or2, bI_t0, bI_one, not_true_eq_false, not_false_eq_true, ↓reduceIte, am_tl, am_tn, am_t0, am_n0, and_true, true_and, List.cons_append, List.nil_append, List.append_nil, or_true, true_or, or_false, false_or, eq_self, ior0, iand0, im_e2, oI, c_demandsCode_y ok C ha, z]
      exact k h am_fr.rf
    · rw [if_neg z] at k
      simp (disch := first | assumption | omega | (simp only [ya_pi, ya_pj, ya_pa, ya_pr, yo_pi, yo_pj, yo_pa, yf_pi, yf_pj, yf_pa, yh_pi, yh_pj, yh_pa, yt_pi, yt_pj, yt_pa, la_pi, la_pj, la_pa]; assumption)) only [b_X11_demands_0, b_X11_demands_5, b_X11_demands_12, b_X11_demands_10, b_X11_demands_20, b_X11_demands_27, i_lit, i_m1, i_31, il_t, il_f, iq_t, iq_f, it_t, it_f, im_e, im_l, im_g, im_g2, nI_add, pk_mul, i_sub, i_div, sdm, i_dec, i_cl, iv_t, bI_or2, bI_t0, bI_one, not_true_eq_false, not_false_eq_true, ↓reduceIte, am_tl, am_tn, am_t0, am_n0, and_true, true_and, List.cons_append, List.nil_append, List.append_nil, or_true, true_or, or_false, false_or, eq_self, ior0, iand0, im_e2, oI, c_demandsCode_y ok C ha, z]
      refine c_gather L0 ok C.2.1 C.2.2 (fT_ok ok) ha (fun h1 fr1 R1 e1 => ?_)
      have L1 : Lay h1 := fr1.lay L0
      simp (disch := first | assumption | omega | (simp only [ya_pi, ya_pj, ya_pa, ya_pr, yo_pi, yo_pj, yo_pa, yf_pi, yf_pj, yf_pa, yh_pi, yh_pj, yh_pa, yt_pi, yt_pj, yt_pa, la_pi, la_pj, la_pa]; assumption)) only [b_X11_demands_0, b_X11_demands_5, b_X11_demands_12, b_X11_demands_10, b_X11_demands_20, b_X11_demands_27, i_lit, i_m1, i_31, il_t, il_f, iq_t, iq_f, it_t, it_f, im_e, im_l, im_g, im_g2, nI_add, pk_mul, i_sub, i_div, sdm, i_dec, i_cl, iv_t, bI_or2, bI_t0, bI_one, not_true_eq_false, not_false_eq_true, ↓reduceIte, am_tl, am_tn, am_t0, am_n0, and_true, true_and, List.cons_append, List.nil_append, List.append_nil, or_true, true_or, or_false, false_or, eq_self, ior0, iand0, im_e2, oI, c_size L1 R1 (fun a b hb => dm_hi ok ha (Or.inr hb))]
      exact k h1 (fr1.le (fun a k z => z.S))
  · rw [if_neg hc] at k
    simp (disch := first | assumption | omega | (simp only [ya_pi, ya_pj, ya_pa, ya_pr, yo_pi, yo_pj, yo_pa, yf_pi, yf_pj, yf_pa, yh_pi, yh_pj, yh_pa, yt_pi, yt_pj, yt_pa, la_pi, la_pj, la_pa]; assumption)) only [b_X11_demands_0, b_X11_demands_5, b_X11_demands_12, b_X11_demands_10, b_X11_demands_20, b_X11_demands_27, i_lit, i_m1, i_31, il_t, il_f, iq_t, iq_f, it_t, it_f, im_e, im_l, im_g, im_g2, nI_add, pk_mul, i_sub, i_div, sdm, i_dec, i_cl, iv_t, bI_or2, bI_t0, bI_one, not_true_eq_false, not_false_eq_true, ↓reduceIte, am_tl, am_tn, am_t0, am_n0, and_true, true_and, List.cons_append, List.nil_append, List.append_nil, or_true, true_or, or_false, false_or, eq_self, ior0, iand0, im_e2, oI, c_demandsCode_n ok C hc]
    exact k h am_fr.rf
theorem ct_11 {P : Nat → Bool} (h : P 10 = false) : ct P 11 = ct P 10 := ct_n h
theorem p0_rfa {h : am_H} {f : fa_S} (ok : fa_ok f) (F : rfa h f) {k : Nat} {v : Int32} : rfa (p_i h 93 k v) f := (am_fr_pi (P := fun a _ => a = 93) rfl).rfa ok F (fun k _ => by omega)
theorem c_rDemands {d : Nat} {Q : Option am_V → am_H → Prop} {h : am_H} {f : fa_S} (ok : fa_ok f) (F : rfa h f) {c : Int32} {l2 l3 l4 : Option am_V} (k : ∀ h', am_fr h h' rS → Q (some (v_i (a_demands f c))) h') : ex_ (d + 5) 313 0 [some (v_r (some 93)), some (v_i c), l2, l3, l4] [] h Q := by
  have L0 := F.1
  have hn := ok.1
  have F0 : rfa (p_i h 93 0 (nI 0)) f := p0_rfa ok F
  have fr0 : am_fr h (p_i h 93 0 (nI 0)) rS := am_fr_pi (by unfold rS; omega)
  unfold a_demands at k
  rcases fa_cs hn c with ⟨a, ha, rfl⟩ | hc
  · have hh : fa_has (f_n f) (nI a) := (fa_has_iff hn).2 ⟨a, ha, rfl⟩
    rw [if_pos hh, nI_clamp (by omega)] at k
    simp (disch := first | assumption | omega | (simp only [ya_pi, ya_pj, ya_pa, ya_pr, yo_pi, yo_pj, yo_pa, yf_pi, yf_pj, yf_pa, yh_pi, yh_pj, yh_pa, yt_pi, yt_pj, yt_pa, la_pi, la_pj, la_pa]; assumption)) only [b_X12_demands_0, b_X12_demands_10, b_X12_demands_17, b_X12_demands_15, b_X12_demands_48, b_X12_demands_29, b_X12_demands_40, i_lit, i_m1, i_31, il_t, il_f, iq_t, iq_f, it_t, it_f, im_e, im_l, im_g, im_g2, nI_add, pk_mul, i_sub, i_div, sdm, i_dec, i_cl, iv_t, bI_or2, bI_t0, bI_one, not_true_eq_false, not_false_eq_true, ↓reduceIte, am_tl, am_tn, am_t0, am_n0, and_true, true_and, List.cons_append, List.nil_append, List.append_nil, or_true, true_or, or_false, false_or, eq_self, ior0, iand0, im_e2, oI]
    refine c_noDemands_y ok F0 ha (fun z h1 fr1 => ?_) (fun z h1 fr1 A1 q1 => ?_)
    · rw [if_pos z] at k
      simp (disch := first | assumption | omega | (simp only [ya_pi, ya_pj, ya_pa, ya_pr, yo_pi, yo_pj, yo_pa, yf_pi, yf_pj, yf_pa, yh_pi, yh_pj, yh_pa, yt_pi, yt_pj, yt_pa, la_pi, la_pj, la_pa]; assumption)) only [b_X12_demands_0, b_X12_demands_10, b_X12_demands_17, b_X12_demands_15, b_X12_demands_48, b_X12_demands_29, b_X12_demands_40, i_lit, i_m1, i_31, il_t, il_f, iq_t, iq_f, it_t, it_f, im_e, im_l, im_g, im_g2, nI_add, pk_mul, i_sub, i_div, sdm, i_dec, i_cl, iv_t, bI_or2, bI_t0, bI_one, not_true_eq_false, not_false_eq_true, ↓reduceIte, am_tl, am_tn, am_t0, am_n0, and_true, true_and, List.cons_append, List.nil_append, List.append_nil, or_true, true_or, or_false, false_or, eq_self, ior0, iand0, im_e2, oI]
      exact k h1 (fr0.tr fr1)
    · rw [if_neg z] at k
      simp (disch := first | assumption | omega | (simp only [ya_pi, ya_pj, ya_pa, ya_pr, yo_pi, yo_pj, yo_pa, yf_pi, yf_pj, yf_pa, yh_pi, yh_pj, yh_pa, yt_pi, yt_pj, yt_pa, la_pi, la_pj, la_pa]; assumption)) only [b_X12_demands_0, b_X12_demands_10, b_X12_demands_17, b_X12_demands_15, b_X12_demands_48, b_X12_demands_29, b_X12_demands_40, i_lit, i_m1, i_31, il_t, il_f, iq_t, iq_f, it_t, it_f, im_e, im_l, im_g, im_g2, nI_add, pk_mul, i_sub, i_div, sdm, i_dec, i_cl, iv_t, bI_or2, bI_t0, bI_one, not_true_eq_false, not_false_eq_true, ↓reduceIte, am_tl, am_tn, am_t0, am_n0, and_true, true_and, List.cons_append, List.nil_append, List.append_nil, or_true, true_or, or_false, false_or, eq_self, ior0, iand0, im_e2, oI]
      have L1 : Lay h1 := fr1.lay F0.1
      refine lp_up 10 (fun i (_ : Unit) => [some (v_r (some 93)), some (v_i (nI a)), some (v_i (nI 0)), some (v_i (nI (sm (fun b => ct (fD f a b) 10) i))), some (v_i (nI i))]) (fun i _ h' => h' = h1) ?_ ?_ (Nat.zero_le _) rfl (s := ())
      · rintro i - h' hi rfl nx
        have e := q1 i hi
        rw [b_X12_demands_22 _ _ _ _ _ _]
        simp (disch := first | assumption | omega | (simp only [ya_pi, ya_pj, ya_pa, ya_pr, yo_pi, yo_pj, yo_pa, yf_pi, yf_pj, yf_pa, yh_pi, yh_pj, yh_pa, yt_pi, yt_pj, yt_pa, la_pi, la_pj, la_pa]; assumption)) only [b_X12_demands_0, b_X12_demands_10, b_X12_demands_17, b_X12_demands_15, b_X12_demands_48, b_X12_demands_29, b_X12_demands_40, i_lit, i_m1, i_31, il_t, il_f, iq_t, iq_f, it_t, it_f, im_e, im_l, im_g, im_g2, nI_add, pk_mul, i_sub, i_div, sdm, i_dec, i_cl, iv_t, bI_or2, bI_t0, bI_one, not_true_eq_false, not_false_eq_true, ↓reduceIte, am_tl, am_tn, am_t0, am_n0, and_true, true_and, List.cons_append, List.nil_append, List.append_nil, or_true, true_or, or_false, false_or, eq_self, ior0, iand0, im_e2, oI, e, c_rBits, ct_11 (dm_hi ok ha (a := i) (b := 10) (Or.inr (Nat.le_refl _)))]
        exact nx () h' rfl
      · rintro - h' rfl
        rw [b_X12_demands_22 _ _ _ _ _ _]
        simp (disch := first | assumption | omega | (simp only [ya_pi, ya_pj, ya_pa, ya_pr, yo_pi, yo_pj, yo_pa, yf_pi, yf_pj, yf_pa, yh_pi, yh_pj, yh_pa, yt_pi, yt_pj, yt_pa, la_pi, la_pj, la_pa]; assumption)) only [b_X12_demands_0, b_X12_demands_10, b_X12_demands_17, b_X12_demands_15, b_X12_demands_48, b_X12_demands_29, b_X12_demands_40, i_lit, i_m1, i_31, il_t, il_f, iq_t, iq_f, it_t, it_f, im_e, im_l, im_g, im_g2, nI_add, pk_mul, i_sub, i_div, sdm, i_dec, i_cl, iv_t, bI_or2, bI_t0, bI_one, not_true_eq_false, not_false_eq_true, ↓reduceIte, am_tl, am_tn, am_t0, am_n0, and_true, true_and, List.cons_append, List.nil_append, List.append_nil, or_true, true_or, or_false, false_or, eq_self, ior0, iand0, im_e2, oI]
        exact k h' (fr0.tr fr1)
  · rw [if_neg hc] at k
    simp (disch := first | assumption | omega | (simp only [ya_pi, ya_pj, ya_pa, ya_pr, yo_pi, yo_pj, yo_pa, yf_pi, yf_pj, yf_pa, yh_pi, yh_pj, yh_pa, yt_pi, yt_pj, yt_pa, la_pi, la_pj, la_pa]; assumption)) only [b_X12_demands_0, b_X12_demands_10, b_X12_demands_17, b_X12_demands_15, b_X12_demands_48, b_X12_demands_29, b_X12_demands_40, i_lit, i_m1, i_31, il_t, il_f, iq_t, iq_f, it_t, it_f, im_e, im_l, im_g, im_g2, nI_add, pk_mul, i_sub, i_div, sdm, i_dec, i_cl, iv_t, bI_or2, bI_t0, bI_one, not_true_eq_false, not_false_eq_true, ↓reduceIte, am_tl, am_tn, am_t0, am_n0, and_true, true_and, List.cons_append, List.nil_append, List.append_nil, or_true, true_or, or_false, false_or, eq_self, ior0, iand0, im_e2, oI, c_noDemands_n ok F0 hc]
    rw [if_neg (by decide)]
    exact k _ fr0
