/-! ===== lots: sums ===== -/
theorem ix_xor (a b : Nat) : nI a ^^^ nI b = nI (a ^^^ b) := by
  apply Int32.toBitVec_inj.1
  show BitVec.ofNat 32 a ^^^ BitVec.ofNat 32 b = BitVec.ofNat 32 (a ^^^ b)
  apply BitVec.eq_of_getLsbD_eq
  intro i hi
  simp [hi]
def xs2 : Nat → Nat → Nat → Nat
  | 0, s, _ => s
  | m + 1, s, r => xs2 m (s ^^^ 2 ^ (r % 10)) (r / 10)
theorem xs2_lt : ∀ m {s r : Nat}, s < 1024 → xs2 m s r < 1024 := by
  intro m
  induction m with
  | zero => intro s r h; exact h
  | succ m ih =>
    intro s r h
    refine ih ?_
    have : (2 : Nat) ^ (r % 10) < 2 ^ 10 := Nat.pow_lt_pow_right (by omega) (Nat.mod_lt _ (by omega))
    exact Nat.xor_lt_two_pow (n := 10) h this
theorem sm_ad {g g' : Nat → Nat} : ∀ n, sm (fun k => g k + g' k) n = sm g n + sm g' n := by
  intro n
  induction n with
  | zero => rfl
  | succ n ih => rw [sm, sm, sm, ih]; omega
theorem sm_0 : ∀ n, sm (fun _ => 0) n = 0 := by
  intro n
  induction n with
  | zero => rfl
  | succ n ih => rw [sm, ih]
theorem sm_mul {g : Nat → Nat} {c : Nat} : ∀ n, sm (fun k => g k * c) n = sm g n * c := by
  intro n
  induction n with
  | zero => rw [sm, sm, Nat.zero_mul]
  | succ n ih => rw [sm, sm, ih, Nat.add_mul]
theorem sm_one {g : Nat → Nat} {x : Nat} : ∀ n, sm (fun k => if k = x then g k else 0) n = if x < n then g x else 0 := by
  intro n
  induction n with
  | zero => rw [sm, if_neg (Nat.not_lt_zero _)]
  | succ n ih =>
    rw [sm, ih]
    by_cases z : n = x
    · rw [if_pos z, if_neg (by omega), if_pos (by omega), z, Nat.zero_add]
    · rw [if_neg z, Nat.add_zero]
      by_cases y : x < n
      · rw [if_pos y, if_pos (by omega)]
      · rw [if_neg y, if_neg (by omega)]
theorem sm_tal {G X : Nat → Nat} {M : Nat} : ∀ N, (∀ d, d < N → X d < M) → sm (fun s => G s * ct (fun d => X d == s) N) M = sm (fun d => G (X d)) N := by
  intro N
  induction N with
  | zero =>
    intro _
    rw [sm_cong (g' := fun _ => 0) M (fun k _ => by rw [ct, Nat.mul_zero]), sm_0]
    rfl
  | succ N ih =>
    intro h
    rw [sm, ← ih (fun d hd => h d (by omega))]
    have e : ∀ s, s < M → G s * ct (fun d => X d == s) (N + 1) = G s * ct (fun d => X d == s) N + (if s = X N then G s else 0) := by
      intro s _
      by_cases z : X N = s
      · rw [ct_y (p := fun d => X d == s) (beq_iff_eq.2 z), if_pos z.symm, Nat.mul_add, Nat.mul_one]
      · rw [ct_n (p := fun d => X d == s) (beq_eq_false_iff_ne.2 z), if_neg (fun w => z w.symm), Nat.add_zero]
    rw [sm_cong M e, sm_ad, sm_one, if_pos (h N (by omega))]
theorem sm_app {g : Nat → Nat} {a : Nat} : ∀ b, sm g (a + b) = sm g a + sm (fun k => g (a + k)) b := by
  intro b
  induction b with
  | zero => rw [Nat.add_zero, sm, Nat.add_zero]
  | succ b ih => rw [← Nat.add_assoc, sm, sm, ih, Nat.add_assoc]
theorem sm_10 {F : Nat → Nat → Nat} : ∀ N, sm (fun d => F (d % 10) (d / 10)) (10 * N) = sm (fun q => sm (fun x => F x q) 10) N := by
  intro N
  induction N with
  | zero => rfl
  | succ N ih =>
    rw [Nat.mul_add, Nat.mul_one, sm_app, sm, ih]
    congr 1
    refine sm_cong 10 (fun k hk => ?_)
    rw [show (10 * N + k) % 10 = k from by omega, show (10 * N + k) / 10 = N from by omega]
theorem sm_comm {F : Nat → Nat → Nat} {M : Nat} : ∀ N, sm (fun q => sm (fun x => F x q) M) N = sm (fun x => sm (fun q => F x q) N) M := by
  intro N
  induction N with
  | zero =>
    show 0 = sm (fun _ => 0) M
    rw [sm_0]
  | succ N ih =>
    rw [sm, ih, ← sm_ad]
    rfl
theorem tb_xor {s x : Nat} : (fun k => (s ^^^ 2 ^ x).testBit k) = tog (fun k => s.testBit k) x := by
  funext k
  unfold tog
  rw [Nat.testBit_xor, Nat.testBit_two_pow]
  congr 1
  exact decide_eq_decide.2 ⟨Eq.symm, Eq.symm⟩
theorem lS_xs {g : (Nat → Bool) → Nat} : ∀ n {s : Nat}, sm (fun d => g (fun k => (xs2 n s d).testBit k)) (10 ^ n) = lS g n (fun k => s.testBit k) := by
  intro n
  induction n with
  | zero => intro s; show 0 + g _ = g _; rw [Nat.zero_add]; rfl
  | succ n ih =>
    intro s
    rw [lS, Nat.pow_succ, Nat.mul_comm]
    have := sm_10 (F := fun x q => g (fun k => (xs2 n (s ^^^ 2 ^ x) q).testBit k)) (10 ^ n)
    rw [sm_comm] at this
    refine this.trans (sm_cong 10 (fun x _ => ?_))
    rw [ih, tb_xor]
theorem lS_le {g : (Nat → Bool) → Nat} {c : Nat} (h : ∀ B, g B ≤ c) : ∀ n {B : Nat → Bool}, lS g n B ≤ c * 10 ^ n := by
  intro n
  induction n with
  | zero => intro B; rw [lS, Nat.pow_zero, Nat.mul_one]; exact h B
  | succ n ih =>
    intro B
    rw [lS, Nat.pow_succ, ← Nat.mul_assoc]
    exact sm_le (fun x _ => ih)
theorem lcnt_le {f : fa_S} (ok : fa_ok f) {B : Nat → Bool} : lcnt f B ≤ 10 := Nat.le_trans (ct_le _ _) ok.1
theorem pw3 {n : Nat} (h : n ≤ 3) : 10 ^ n ≤ 1000 ∧ 1 ≤ 10 ^ n := by
  rcases (show n = 0 ∨ n = 1 ∨ n = 2 ∨ n = 3 by omega) with rfl | rfl | rfl | rfl <;> decide
theorem lO_le {f : fa_S} (ok : fa_ok f) {n : Nat} (hn : n ≤ 3) : lO f n ≤ 10000 := by
  have := lS_le (c := 10) (fun B => lcnt_le ok (B := B)) n (B := fun _ => false)
  have := (pw3 hn).1
  unfold lO
  omega
theorem lA_le {f : fa_S} {n : Nat} (hn : n ≤ 3) : lA f n ≤ 1000 := by
  have h := lS_le (g := fun B => if lcnt f B = f_n f then 1 else 0) (c := 1) (fun B => by split <;> omega) n (B := fun _ => false)
  have := (pw3 hn).1
  unfold lA
  omega
theorem tb0 : (fun k => (0 : Nat).testBit k) = fun _ => false := by
  funext k
  exact Nat.zero_testBit k
/-! parents turned -/
theorem sw2_2 {l : List Nat} : sw2 (sw2 l) = l := by
  unfold sw2
  by_cases z : 1 < l.length
  · rw [if_pos z, if_pos (by rw [sw_len]; exact z)]
    apply gdx (by rw [sw_len, sw_len])
    intro k _
    rw [gd_sw (by rw [sw_len]; omega), gd_sw (by omega), gd_sw (by omega), gd_sw (by omega)]
    by_cases h1 : k = 0 + 1
    · rw [if_pos h1, h1]; rfl
    · rw [if_neg h1]
      by_cases h2 : k = 0
      · rw [if_pos h2, h2]; rfl
      · rw [if_neg h2, if_neg h1, if_neg h2]
  · rw [if_neg z, if_neg z]
theorem swB_ok {f : fa_S} (ok : fa_ok f) {B : Nat → Bool} : p_ok (swB f B) := fun c => by
  unfold swB
  split
  · exact ⟨by rw [sw2_len]; exact (ok.2 c).1, fun q hq => (ok.2 c).2.1 q (sw2_mem hq), sw2_nd (ok.2 c).2.2.1⟩
  · exact ⟨(ok.2 c).1, (ok.2 c).2.1, (ok.2 c).2.2.1⟩
theorem y_O70 {h : am_H} (L : Lay h) : y_Orders h 70 := by
  refine ⟨fun k t hk => ?_, fun q hq => ?_⟩
  · match k, hk with
    | 0, hk => cases hk; exact la_c L rfl
    | 1, hk => cases hk; exact la_c L rfl
    | 2, hk => cases hk; exact la_c L rfl
    | 3, hk => cases hk; exact la_c L rfl
    | 4, hk => cases hk; exact la_c L rfl
    | 5, hk => cases hk; exact la_c L rfl
    | 6, hk => cases hk; exact la_c L rfl
    | 7, hk => cases hk; exact la_c L rfl
    | 8, hk => cases hk; exact la_c L rfl
    | 9, hk => cases hk; exact la_c L rfl
  · have qs : ∀ q ∈ y_Orders_r, (70 + q.1, q.2.1, 70 + q.2.2) ∈ y_ref := by decide
    exact la_r L (qs q hq)
theorem lw_0 (l : List Nat) : lw l (fun _ => false) l.length = l := by rw [lw_all l _ (Nat.le_refl _), List.take_length]
theorem c_orderedIf {d : Nat} {Q : Option am_V → am_H → Prop} {h : am_H} {f : fa_S} {s : Nat} (L : Lay h) (ok : fa_ok f) (F : fa_at h 11 f) (hs : s < 1024) {l3 l4 l5 : Option am_V} (k : ∀ h', am_fr h h' (or_A 70) → Q (some (v_i (nI (lcnt f (fun k => s.testBit k))))) h') : ex_ (d + 4) 55 0 [some (v_r (some 69)), some (v_r (some 11)), some (v_i (nI s)), l3, l4, l5] [] h Q := by
  have n10 := ok.1
  simp (disch := first | assumption | omega | (simp only [ya_pi, ya_pj, ya_pa, ya_pr, yo_pi, yo_pj, yo_pa, yf_pi, yf_pj, yf_pa, yh_pi, yh_pj, yh_pa, yt_pi, yt_pj, yt_pa, la_pi, la_pj, la_pa]; assumption)) only [b_X3_orderedIf_0, i_lit, i_m1, i_31, il_t, il_f, iq_t, iq_f, it_t, it_f, im_e, im_l, im_g, im_g2, nI_add, pk_mul, i_sub, i_div, sdm, i_dec, i_cl, iv_t, bI_or2, bI_t0, bI_one, not_true_eq_false, not_false_eq_true, ↓reduceIte, am_tl, am_tn, am_t0, am_n0, and_true, true_and, List.cons_append, List.nil_append, List.append_nil]
  unfold lcnt at k
  generalize hB : (fun k => s.testBit k) = B at k
  have hBk : ∀ c, s.testBit c = B c := fun c => by rw [← hB]
  have pk := swB_ok ok (B := B)
  refine lp_up (f_n f) (fun i (l5 : Option am_V) => [some (v_r (some 69)), some (v_r (some 11)), some (v_i (nI s)), some (v_i (nI (ct (fun c => (od (swB f B) (f_n f) c).1 == 0) i))), some (v_i (nI i)), l5]) (fun i _ h' => am_fr h h' (or_A 70) ∧ or_at h' 70 (od (swB f B) i) i) ?_ ?_ (Nat.zero_le _) ⟨am_fr.rf, y_O70 L, fun c hc => absurd hc (Nat.not_lt_zero _)⟩ (s := l5)
  · rintro i m5 h1 hi ⟨fr1, O1⟩ nxt
    have L1 := fr1.lay L
    have F1 : fa_at h1 11 f := fr1.fa F (fun a k h1 h2 z => by unfold or_A at z; omega)
    have Y11 := F1.1
    have e0 := F1.2.1
    have okT := (od_okk pk i (by omega)).1
    have odh : ∀ h2, am_fr h1 h2 (or_K 70 i) → or_row h2 70 i (od1 (od (swB f B) i) i (swB f B i)) → or_at h2 70 (od (swB f B) (i + 1)) (i + 1) := fun h2 fr2 r2 => O1.up okT fr2 r2
    have ei : (od (swB f B) (f_n f) i).1 = (od1 (od (swB f B) i) i (swB f B i)).1 := by rw [od_at _ hi]
    have o2 : (od1 (od (swB f B) i) i (swB f B i)).1 ≤ 2 := by
      have := ((od_okk pk (f_n f) n10).1 i hi).1
      omega
    rw [b_X3_orderedIf_5 _ _ _ _ _ _ _ Y11]
    have fin : ∀ h2, am_fr h1 h2 (or_K 70 i) → or_row h2 70 i (od1 (od (swB f B) i) i (swB f B i)) → ex_ (d + 4) 55 33 [some (v_r (some 69)), some (v_r (some 11)), some (v_i (nI s)), some (v_i (nI (ct (fun c => (od (swB f B) (f_n f) c).1 == 0) i))), some (v_i (nI i)), m5] [v_i (nI (od1 (od (swB f B) i) i (swB f B i)).1)] h2 Q := by
      intro h2 fr2 r2
      have nx := fun l5 => nxt l5 h2 ⟨fr1.tr (fr2.le (fun a k z => z.A)), odh h2 fr2 r2⟩
      by_cases z : (od1 (od (swB f B) i) i (swB f B i)).1 = 0
      · rw [ct_y (p := fun c => (od (swB f B) (f_n f) c).1 == 0) (beq_iff_eq.2 (ei.trans z))] at nx
        simp (disch := first | assumption | omega | (simp only [ya_pi, ya_pj, ya_pa, ya_pr, yo_pi, yo_pj, yo_pa, yf_pi, yf_pj, yf_pa, yh_pi, yh_pj, yh_pa, yt_pi, yt_pj, yt_pa, la_pi, la_pj, la_pa]; assumption)) only [b_X3_orderedIf_33, b_X3_orderedIf_54, i_lit, i_m1, i_31, il_t, il_f, iq_t, iq_f, it_t, it_f, im_e, im_l, im_g, im_g2, nI_add, pk_mul, i_sub, i_div, sdm, i_dec, i_cl, iv_t, bI_or2, bI_t0, bI_one, not_true_eq_false, not_false_eq_true, ↓reduceIte, am_tl, am_tn, am_t0, am_n0, and_true, true_and, List.cons_append, List.nil_append, List.append_nil, z]
        exact nx _
      · rw [ct_n (p := fun c => (od (swB f B) (f_n f) c).1 == 0) (beq_eq_false_iff_ne.2 (fun w => z (ei.symm.trans w)))] at nx
        simp (disch := first | assumption | omega | (simp only [ya_pi, ya_pj, ya_pa, ya_pr, yo_pi, yo_pj, yo_pa, yf_pi, yf_pj, yf_pa, yh_pi, yh_pj, yh_pa, yt_pi, yt_pj, yt_pa, la_pi, la_pj, la_pa]; assumption)) only [b_X3_orderedIf_33, b_X3_orderedIf_57, i_lit, i_m1, i_31, il_t, il_f, iq_t, iq_f, it_t, it_f, im_e, im_l, im_g, im_g2, nI_add, pk_mul, i_sub, i_div, sdm, i_dec, i_cl, iv_t, bI_or2, bI_t0, bI_one, not_true_eq_false, not_false_eq_true, ↓reduceIte, am_tl, am_tn, am_t0, am_n0, and_true, true_and, List.cons_append, List.nil_append, List.append_nil]
        exact nx _
    have fin' : ∀ h2, am_fr h1 h2 (or_K 70 i) → or_row h2 70 i (od1 (od (swB f B) i) i (swB f B i)) → ex_ (d + 4) 55 47 [some (v_r (some 69)), some (v_r (some 11)), some (v_i (nI s)), some (v_i (nI (ct (fun c => (od (swB f B) (f_n f) c).1 == 0) i))), some (v_i (nI i)), m5] [v_i (nI (od1 (od (swB f B) i) i (swB f B i)).1)] h2 Q := by
      intro h2 fr2 r2
      have := fin h2 fr2 r2
      rw [b_X3_orderedIf_33] at this
      rw [b_X3_orderedIf_47]
      exact this
    cases w : B i with
    | true =>
      have eB : swB f B i = sw2 (f_p f i) := by unfold swB; rw [if_pos w]
      have hw : (s.testBit i = true) := (hBk i).trans w
      rw [eB] at fin
      simp (disch := first | assumption | omega | (simp only [ya_pi, ya_pj, ya_pa, ya_pr, yo_pi, yo_pj, yo_pa, yf_pi, yf_pj, yf_pa, yh_pi, yh_pj, yh_pa, yt_pi, yt_pj, yt_pa, la_pi, la_pj, la_pa]; assumption)) only [b_X3_orderedIf_14, b_X3_orderedIf_23, i_lit, i_m1, i_31, il_t, il_f, iq_t, iq_f, it_t, it_f, im_e, im_l, im_g, im_g2, nI_add, pk_mul, i_sub, i_div, sdm, i_dec, i_cl, iv_t, bI_or2, bI_t0, bI_one, not_true_eq_false, not_false_eq_true, ↓reduceIte, am_tl, am_tn, am_t0, am_n0, and_true, true_and, List.cons_append, List.nil_append, List.append_nil, e0, i_31, mI_bit, hw]
      refine c_settleSwapped ok F1 O1 okT (by omega) (by omega) (fun h2 fr2 r2 => ?_)
      exact fin h2 fr2 r2
    | false =>
      have eB : swB f B i = f_p f i := by unfold swB; rw [if_neg (by rw [w]; decide)]
      have hw : (s.testBit i = true) = False := by rw [hBk i, w]; exact eq_false (by decide)
      rw [eB] at fin'
      have pp := lw_0 (f_p f i)
      simp (disch := first | assumption | omega | (simp only [ya_pi, ya_pj, ya_pa, ya_pr, yo_pi, yo_pj, yo_pa, yf_pi, yf_pj, yf_pa, yh_pi, yh_pj, yh_pa, yt_pi, yt_pj, yt_pa, la_pi, la_pj, la_pa]; assumption)) only [b_X3_orderedIf_14, b_X3_orderedIf_36, i_lit, i_m1, i_31, il_t, il_f, iq_t, iq_f, it_t, it_f, im_e, im_l, im_g, im_g2, nI_add, pk_mul, i_sub, i_div, sdm, i_dec, i_cl, iv_t, bI_or2, bI_t0, bI_one, not_true_eq_false, not_false_eq_true, ↓reduceIte, am_tl, am_tn, am_t0, am_n0, and_true, true_and, List.cons_append, List.nil_append, List.append_nil, e0, i_31, mI_bit, hw]
      rw [show nI 0 = nI (bs (fun _ => false)) from by rw [bs_0]]
      refine c_settleWithout (P := fun _ => false) ok F1 O1 okT (by omega) (by omega) (by rw [pp]; exact (ok.2 i).2.1) (by rw [pp]; exact (ok.2 i).2.2.1) (by rw [pp]; exact (ok.2 i).1) (fun h2 fr2 r2 => ?_)
      rw [pp] at r2 ⊢
      exact fin' h2 fr2 r2
  · rintro m5 h1 ⟨fr1, O1⟩
    have F1 : fa_at h1 11 f := fr1.fa F (fun a k h1 h2 z => by unfold or_A at z; omega)
    have Y11 := F1.1
    have e0 := F1.2.1
    rw [b_X3_orderedIf_5 _ _ _ _ _ _ _ Y11]
    simp (disch := first | assumption | omega | (simp only [ya_pi, ya_pj, ya_pa, ya_pr, yo_pi, yo_pj, yo_pa, yf_pi, yf_pj, yf_pa, yh_pi, yh_pj, yh_pa, yt_pi, yt_pj, yt_pa, la_pi, la_pj, la_pa]; assumption)) only [b_X3_orderedIf_63, i_lit, i_m1, i_31, il_t, il_f, iq_t, iq_f, it_t, it_f, im_e, im_l, im_g, im_g2, nI_add, pk_mul, i_sub, i_div, sdm, i_dec, i_cl, iv_t, bI_or2, bI_t0, bI_one, not_true_eq_false, not_false_eq_true, ↓reduceIte, am_tl, am_tn, am_t0, am_n0, and_true, true_and, List.cons_append, List.nil_append, List.append_nil, e0]
    exact k h1 fr1
