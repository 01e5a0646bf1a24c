/-! ===== old, breaks, same ===== -/
theorem sm_upd {g : Nat → Nat} {x v : Nat} (hx : g x = 0) : ∀ n, x < n → sm (fun a => if a = x then v else g a) n = sm g n + v := by
  intro n
  induction n with
  | zero => intro h; omega
  | succ n ih =>
    intro h
    rw [sm, sm]
    by_cases z : x = n
    · subst z
      rw [if_pos rfl, hx, sm_cong (g' := g) x (fun k hk => if_neg (by omega))]
      omega
    · rw [ih (by omega), if_neg (by omega)]
      omega
theorem sm_zero : ∀ n, sm (fun _ => 0) n = 0 := by
  intro n
  induction n with
  | zero => rfl
  | succ n ih => rw [sm, ih]
theorem sm_list {n : Nat} {g : Nat → Nat} : ∀ (m : Nat) (l : List Nat), l.length = m → l.Nodup → (∀ x ∈ l, x < n) → sm (fun a => if a ∈ l then g a else 0) n = sm (fun i => g (l.getD i 0)) l.length := by
  intro m
  induction m with
  | zero =>
    intro l h _ _
    rw [List.length_eq_zero_iff.1 h]
    simp only [List.not_mem_nil, if_false]
    exact sm_zero n
  | succ m ih =>
    intro l h nd lt
    obtain ⟨l', x, rfl⟩ : ∃ l' x, l = l' ++ [x] := by
      have hne : l ≠ [] := fun z => by rw [z] at h; cases h
      exact ⟨l.dropLast, l.getLast hne, (List.dropLast_concat_getLast hne).symm⟩
    rw [List.length_append, List.length_singleton] at h
    rw [List.nodup_append] at nd
    have hx : ¬ x ∈ l' := fun z => nd.2.2 x z x (List.mem_singleton.2 rfl) rfl
    have i1 := ih l' (by omega) nd.1 (fun y hy => lt y (List.mem_append_left _ hy))
    have e1 : sm (fun a => if a ∈ l' ++ [x] then g a else 0) n = sm (fun a => if a = x then g x else (if a ∈ l' then g a else 0)) n := by
      refine sm_cong n (fun a _ => ?_)
      by_cases z : a = x
      · rw [if_pos z, if_pos (List.mem_append_right _ (List.mem_singleton.2 z)), z]
      · rw [if_neg z]
        by_cases y : a ∈ l'
        · rw [if_pos y, if_pos (List.mem_append_left _ y)]
        · rw [if_neg y, if_neg (fun w => by
            rcases List.mem_append.1 w with q | q
            · exact y q
            · exact z (List.mem_singleton.1 q))]
    rw [e1, sm_upd (g := fun a => if a ∈ l' then g a else 0) (if_neg hx) n (lt x (List.mem_append_right _ (List.mem_singleton.2 rfl))), i1, List.length_append, List.length_singleton, sm]
    have gdl : ∀ i, i < l'.length → (l' ++ [x]).getD i 0 = l'.getD i 0 := fun i hi => by
      rw [List.getD_eq_getElem?_getD, List.getElem?_append_left hi, List.getD_eq_getElem?_getD]
    rw [sm_cong (g' := fun i => g ((l' ++ [x]).getD i 0)) l'.length (fun i hi => by rw [gdl i hi])]
    congr 2
    rw [List.getD_eq_getElem?_getD, List.getElem?_append_right (Nat.le_refl _), Nat.sub_self]
    rfl
theorem sm_addf {A B : Nat → Nat} : ∀ n, sm (fun j => A j + B j) n = sm A n + sm B n := by
  intro n
  induction n with
  | zero => rfl
  | succ n ih =>
    simp only [sm]
    omega
theorem sm_swap {F : Nat → Nat → Nat} {n : Nat} : ∀ m, sm (fun i => sm (fun j => F i j) n) m = sm (fun j => sm (fun i => F i j) m) n := by
  intro m
  induction m with
  | zero => exact (sm_zero n).symm
  | succ m ih =>
    rw [sm, ih, ← sm_addf]
    rfl
theorem sm_tail {g : Nat → Nat} {i : Nat} : ∀ n, i + 1 ≤ n → sm (fun j => if i < j then g j else 0) n = sm (fun t => g (i + 1 + t)) (n - (i + 1)) := by
  intro n
  induction n with
  | zero => intro h; omega
  | succ n ih =>
    intro h
    by_cases z : i = n
    · subst z
      rw [Nat.sub_self]
      show sm (fun j => if i < j then g j else 0) i + (if i < i then g i else 0) = 0
      rw [if_neg (by omega), sm_cong (g' := fun _ => 0) i (fun k hk => if_neg (by omega)), sm_zero]
    · rw [sm, ih (by omega), if_pos (by omega), show n + 1 - (i + 1) = (n - (i + 1)) + 1 from by omega, sm]
      congr 2
      omega
theorem ct_sm {P : Nat → Bool} : ∀ n, ct P n = sm (fun k => if P k = true then 1 else 0) n := by
  intro n
  induction n with
  | zero => rfl
  | succ n ih => rw [ct, sm, ih]
theorem sm_add {g : Nat → Nat} {m : Nat} : ∀ k, sm g (m + k) = sm g m + sm (fun i => g (m + i)) k := by
  intro k
  induction k with
  | zero => rfl
  | succ k ih =>
    rw [← Nat.add_assoc, sm, ih, sm]
    omega
theorem sm_100 {g : Nat → Nat} : ∀ n, sm g (10 * n) = sm (fun a => sm (fun b => g (10 * a + b)) 10) n := by
  intro n
  induction n with
  | zero => rfl
  | succ n ih =>
    rw [Nat.mul_add, Nat.mul_one, sm_add, ih]
    rfl
theorem pl_nd {l : List Nat} (nd : l.Nodup) {j : Nat} (hj : j < l.length) : pl l (l.getD j 0) = some j := by
  cases e : pl l (l.getD j 0) with
  | none => exact absurd (gd_mem hj) (pl_none.1 e)
  | some k =>
    obtain ⟨hk, ek⟩ := pl_some e
    rcases Nat.lt_trichotomy k j with z | z | z
    · exact absurd ek (nd_gd.1 nd k j z hj)
    · rw [z]
    · exact absurd ek.symm (nd_gd.1 nd j k z hk)
theorem nd_len2 {l l' : List Nat} (h : l.Nodup) (h' : l'.Nodup) (lt : ∀ x ∈ l, x < 10) (e : ∀ x, x ∈ l ↔ x ∈ l') : l.length = l'.length := by
  have one : ∀ n, sm (fun _ => 1) n = n := by
    intro n
    induction n with
    | zero => rfl
    | succ n ih => rw [sm, ih]
  have h1 := sm_list (n := 10) (g := fun _ => 1) l.length l rfl h lt
  have h2 := sm_list (n := 10) (g := fun _ => 1) l'.length l' rfl h' (fun x hx => lt x ((e x).2 hx))
  rw [one] at h1 h2
  rw [← h1, ← h2]
  refine sm_cong 10 (fun a _ => ?_)
  by_cases z : a ∈ l
  · rw [if_pos z, if_pos ((e a).1 z)]
  · rw [if_neg z, if_neg (fun y => z ((e a).2 y))]
/-- how many demands an order breaks, as the class counts -/
def bkS (D : Nat → Nat → Bool) (l : List Nat) : Nat := sm (fun i => ct (fun t => D (l.getD (i + 1 + t) 0) (l.getD i 0)) (l.length - (i + 1))) l.length
def bkP (D : Nat → Nat → Bool) (l : List Nat) (k : Nat) : Bool := D (k / 10) (k % 10) && decide (oI (pl l (k % 10)) < oI (pl l (k / 10)))
theorem bk_eq {D : Nat → Nat → Bool} {l : List Nat} (nd : l.Nodup) (lt : ∀ x ∈ l, x < 10) (hD : ∀ a b, D a b = true → a ∈ l ∧ b ∈ l) : ct (bkP D l) 100 = bkS D l := by
  have lenl := nd_len nd lt
  have e0 : ct (bkP D l) 100 = sm (fun a => sm (fun b => if bkP D l (10 * a + b) = true then 1 else 0) 10) 10 := by
    rw [ct_sm, show (100 : Nat) = 10 * 10 from rfl, sm_100]
  have e1 : sm (fun a => sm (fun b => if bkP D l (10 * a + b) = true then 1 else 0) 10) 10 = sm (fun j => sm (fun i => if i < j ∧ D (l.getD j 0) (l.getD i 0) = true then 1 else 0) l.length) l.length := by
    have s1 : ∀ a, a < 10 → sm (fun b => if bkP D l (10 * a + b) = true then 1 else 0) 10 = (if a ∈ l then sm (fun i => if bkP D l (10 * a + l.getD i 0) = true then 1 else 0) l.length else 0) := by
      intro a ha
      by_cases z : a ∈ l
      · rw [if_pos z, ← sm_list (g := fun b => if bkP D l (10 * a + b) = true then 1 else 0) l.length l rfl nd lt]
        refine sm_cong 10 (fun b hb => ?_)
        by_cases y : b ∈ l
        · rw [if_pos y]
        · rw [if_neg y, if_neg (fun w => y (hD a b (by
            rw [bkP, Bool.and_eq_true, show (10 * a + b) / 10 = a from by omega, show (10 * a + b) % 10 = b from by omega] at w
            exact w.1)).2)]
      · rw [if_neg z, sm_cong (g' := fun _ => 0) 10 (fun b hb => if_neg (fun w => z (hD a b (by
            rw [bkP, Bool.and_eq_true, show (10 * a + b) / 10 = a from by omega, show (10 * a + b) % 10 = b from by omega] at w
            exact w.1)).1)), sm_zero]
    rw [sm_cong (g' := fun a => if a ∈ l then sm (fun i => if bkP D l (10 * a + l.getD i 0) = true then 1 else 0) l.length else 0) 10 s1]
    rw [sm_list (g := fun a => sm (fun i => if bkP D l (10 * a + l.getD i 0) = true then 1 else 0) l.length) l.length l rfl nd lt]
    refine sm_cong _ (fun j hj => sm_cong _ (fun i hi => ?_))
    have xi := lt _ (gd_mem hi)
    have q1 : (10 * l.getD j 0 + l.getD i 0) / 10 = l.getD j 0 := by omega
    have q2 : (10 * l.getD j 0 + l.getD i 0) % 10 = l.getD i 0 := by omega
    have q3 : bkP D l (10 * l.getD j 0 + l.getD i 0) = true ↔ i < j ∧ D (l.getD j 0) (l.getD i 0) = true := by
      rw [bkP, q1, q2, pl_nd nd hj, pl_nd nd hi, Bool.and_eq_true, decide_eq_true_eq]
      show _ ∧ nI i < nI j ↔ _
      rw [nI_ltI (by omega) (by omega)]
      exact and_comm
    by_cases w : i < j ∧ D (l.getD j 0) (l.getD i 0) = true
    · rw [if_pos w, if_pos (q3.2 w)]
    · rw [if_neg w, if_neg (fun y => w (q3.1 y))]
  rw [e0, e1, sm_swap, bkS]
  refine sm_cong _ (fun i hi => ?_)
  rw [ct_sm, ← sm_tail (g := fun j => if D (l.getD j 0) (l.getD i 0) = true then 1 else 0) l.length (by omega)]
  refine sm_cong _ (fun j hj => ?_)
  by_cases z : i < j
  · rw [if_pos z]
    by_cases y : D (l.getD j 0) (l.getD i 0) = true
    · rw [if_pos y, if_pos ⟨z, y⟩]
    · rw [if_neg y, if_neg (fun w => y w.2)]
  · rw [if_neg z, if_neg (fun w => z w.1)]
def kok (x : Int32) : Prop := ∃ k, 1 ≤ k ∧ k ≤ 3 ∧ x = nI k
theorem kok_iff {x : Int32} : kok x ↔ ¬ x < nI 1 ∧ ¬ nI 3 < x := by
  constructor
  · rintro ⟨k, h1, h2, rfl⟩
    exact ⟨nI_nlt h1 (by omega), nI_nlt h2 (by omega)⟩
  · rintro ⟨h1, h2⟩
    have h0 : ¬ x < 0 := fun z => h1 (by
      rw [Int32.lt_iff_toInt_lt] at z ⊢
      have e1 : (nI 1).toInt = 1 := rfl
      have e2 : (0 : Int32).toInt = 0 := rfl
      omega)
    obtain ⟨k, hk, rfl⟩ := nI_of h0
    refine ⟨k, ?_, ?_, rfl⟩
    · rcases Nat.lt_or_ge k 1 with z | z
      · exact absurd (nI_lt z (by omega)) h1
      · exact z
    · rcases Nat.lt_or_ge 3 k with z | z
      · exact absurd (nI_lt z (by omega)) h2
      · exact z
theorem c_isOldKind_y {d : Nat} {Q : Option am_V → am_H → Prop} {h : am_H} {k : Nat} (h1 : 1 ≤ k) (h3 : k ≤ 3) : ex_ d 196 0 [some (v_i (nI k))] [] h Q ↔ Q (some (v_i (nI 1))) h := by
  simp (disch := first | assumption | omega | (simp only [ya_pi, ya_pj, ya_pa, ya_pr, yo_pi, yo_pj, yo_pa, yf_pi, yf_pj, yf_pa, yh_pi, yh_pj, yh_pa, yt_pi, yt_pj, yt_pa, la_pi, la_pj, la_pa]; assumption)) only [b_X11_isOldKind_0, b_X11_isOldKind_14, b_X11_isOldKind_5, b_X11_isOldKind_10, i_lit, i_m1, i_31, il_t, il_f, iq_t, iq_f, it_t, it_f, im_e, im_l, im_g, im_g2, nI_add, pk_mul, i_sub, i_div, sdm, i_dec, i_cl, iv_t, bI_or2, bI_t0, bI_one, not_true_eq_false, not_false_eq_true, ↓reduceIte, am_tl, am_tn, am_t0, am_n0, and_true, true_and, List.cons_append, List.nil_append, List.append_nil, or_true, true_or, or_false, false_or, eq_self, ior0, iand0, im_e2, oI]
theorem c_isOldKind_n {d : Nat} {Q : Option am_V → am_H → Prop} {h : am_H} {x : Int32} (hx : ¬ kok x) : ex_ d 196 0 [some (v_i x)] [] h Q ↔ Q (some (v_i (nI 0))) h := by
  rw [kok_iff] at hx
  by_cases z : x < nI 1
  · have zz : (x < nI 1) = True := eq_true z
    simp (disch := first | assumption | omega | (simp only [ya_pi, ya_pj, ya_pa, ya_pr, yo_pi, yo_pj, yo_pa, yf_pi, yf_pj, yf_pa, yh_pi, yh_pj, yh_pa, yt_pi, yt_pj, yt_pa, la_pi, la_pj, la_pa]; assumption)) only [b_X11_isOldKind_0, b_X11_isOldKind_14, b_X11_isOldKind_5, b_X11_isOldKind_10, i_lit, i_m1, i_31, il_t, il_f, iq_t, iq_f, it_t, it_f, im_e, im_l, im_g, im_g2, nI_add, pk_mul, i_sub, i_div, sdm, i_dec, i_cl, iv_t, bI_or2, bI_t0, bI_one, not_true_eq_false, not_false_eq_true, ↓reduceIte, am_tl, am_tn, am_t0, am_n0, and_true, true_and, List.cons_append, List.nil_append, List.append_nil, or_true, true_or, or_false, false_or, eq_self, ior0, iand0, im_e2, oI, zz]
  · have zz : (x < nI 1) = False := eq_false z
    have z3 : (nI 3 < x) = True := eq_true (by
      by_cases y : nI 3 < x
      · exact y
      · exact absurd ⟨z, y⟩ hx)
    simp (disch := first | assumption | omega | (simp only [ya_pi, ya_pj, ya_pa, ya_pr, yo_pi, yo_pj, yo_pa, yf_pi, yf_pj, yf_pa, yh_pi, yh_pj, yh_pa, yt_pi, yt_pj, yt_pa, la_pi, la_pj, la_pa]; assumption)) only [b_X11_isOldKind_0, b_X11_isOldKind_14, b_X11_isOldKind_5, b_X11_isOldKind_10, i_lit, i_m1, i_31, il_t, il_f, iq_t, iq_f, it_t, it_f, im_e, im_l, im_g, im_g2, nI_add, pk_mul, i_sub, i_div, sdm, i_dec, i_cl, iv_t, bI_or2, bI_t0, bI_one, not_true_eq_false, not_false_eq_true, ↓reduceIte, am_tl, am_tn, am_t0, am_n0, and_true, true_and, List.cons_append, List.nil_append, List.append_nil, or_true, true_or, or_false, false_or, eq_self, ior0, iand0, im_e2, oI, zz, z3]
theorem c_isKind_y {d : Nat} {Q : Option am_V → am_H → Prop} {h : am_H} {k : Nat} (h1 : 1 ≤ k) (h3 : k ≤ 3) : ex_ (d + 1) 326 0 [some (v_i (nI k))] [] h Q ↔ Q (some (v_i (nI 1))) h := by
  simp (disch := first | assumption | omega | (simp only [ya_pi, ya_pj, ya_pa, ya_pr, yo_pi, yo_pj, yo_pa, yf_pi, yf_pj, yf_pa, yh_pi, yh_pj, yh_pa, yt_pi, yt_pj, yt_pa, la_pi, la_pj, la_pa]; assumption)) only [b_X12_isKind_0, b_X12_isKind_9, i_lit, i_m1, i_31, il_t, il_f, iq_t, iq_f, it_t, it_f, im_e, im_l, im_g, im_g2, nI_add, pk_mul, i_sub, i_div, sdm, i_dec, i_cl, iv_t, bI_or2, bI_t0, bI_one, not_true_eq_false, not_false_eq_true, ↓reduceIte, am_tl, am_tn, am_t0, am_n0, and_true, true_and, List.cons_append, List.nil_append, List.append_nil, or_true, true_or, or_false, false_or, eq_self, ior0, iand0, im_e2, oI, l_lit, lc_lt, lc_le, lc_gt, lc_ge, lc_eq, ll_t, ll_f, lt_t, lt_f, lq_t, lq_f, l_div, lN_add, lN_mul, lN_sub, lN_i, nI_l, c_within]
theorem i64_lt {x : Int32} {n : Nat} (hn : n < 2147483648) : (x.toInt64 < lN n) = (x < nI n) := by
  apply propext
  rw [Int64.lt_iff_toInt_lt, Int32.lt_iff_toInt_lt, Int32.toInt_toInt64, lI (by omega), nI_toInt hn]
theorem i64_gt {x : Int32} {n : Nat} (hn : n < 2147483648) : (lN n < x.toInt64) = (nI n < x) := by
  apply propext
  rw [Int64.lt_iff_toInt_lt, Int32.lt_iff_toInt_lt, Int32.toInt_toInt64, lI (by omega), nI_toInt hn]
theorem c_isKind_n {d : Nat} {Q : Option am_V → am_H → Prop} {h : am_H} {x : Int32} (hx : ¬ kok x) : ex_ (d + 1) 326 0 [some (v_i x)] [] h Q ↔ Q (some (v_i (nI 0))) h := by
  have w : (x < nI 1 ∨ nI 3 < x) = True := eq_true (by
    by_cases z : x < nI 1
    · exact Or.inl z
    · by_cases y : nI 3 < x
      · exact Or.inr y
      · exact absurd (kok_iff.2 ⟨z, y⟩) hx)
  simp (disch := first | assumption | omega | (simp only [ya_pi, ya_pj, ya_pa, ya_pr, yo_pi, yo_pj, yo_pa, yf_pi, yf_pj, yf_pa, yh_pi, yh_pj, yh_pa, yt_pi, yt_pj, yt_pa, la_pi, la_pj, la_pa]; assumption)) only [b_X12_isKind_0, b_X12_isKind_9, i_lit, i_m1, i_31, il_t, il_f, iq_t, iq_f, it_t, it_f, im_e, im_l, im_g, im_g2, nI_add, pk_mul, i_sub, i_div, sdm, i_dec, i_cl, iv_t, bI_or2, bI_t0, bI_one, not_true_eq_false, not_false_eq_true, ↓reduceIte, am_tl, am_tn, am_t0, am_n0, and_true, true_and, List.cons_append, List.nil_append, List.append_nil, or_true, true_or, or_false, false_or, eq_self, ior0, iand0, im_e2, oI, l_lit, c_within, i64_lt, i64_gt, w]
noncomputable def a_old (f : fa_S) (c x i : Int32) : Int32 := @ite _ (fa_has (f_n f) c ∧ kok x) (Classical.propDecidable _) (if i < 0 then -3 else oI (oS (f_p f) x.toNatClampNeg c.toNatClampNeg)[i.toNatClampNeg]?) (-2)
noncomputable def a_breaks (f : fa_S) (c x : Int32) : Int32 := @ite _ (fa_has (f_n f) c ∧ kok x) (Classical.propDecidable _) (if (fT f c.toNatClampNeg).1 = 2 then mI else nI (bkS (fD f c.toNatClampNeg) (oS (f_p f) x.toNatClampNeg c.toNatClampNeg))) (-2)
def smP (f : fa_S) (kd c : Nat) : Bool := (fT f c).1 == 0 && oS (f_p f) kd c == (fT f c).2
noncomputable def a_same (f : fa_S) (x : Int32) : Int32 := @ite _ (kok x) (Classical.propDecidable _) (nI (bs (bl (smP f x.toNatClampNeg) (f_n f)))) (-2)
theorem oF.S {a k : Nat} (z : oF a k) : cS a k := by unfold oF at z; unfold cS; omega
theorem c_old {d : Nat} {Q : Option am_V → am_H → Prop} {h : am_H} {f : fa_S} (ok : fa_ok f) (C : cQ h f) {c x i : Int32} (k : ∀ h', am_fr h h' cS → Q (some (v_i (a_old f c x i))) h') : ex_ (d + 4) 197 0 [some (v_r (some 0)), some (v_i c), some (v_i x), some (v_i i)] [] h Q := by
  have L0 := C.1
  have hn := ok.1
  have hp := fa_plt ok
  unfold a_old at k
  rcases fa_cs hn c with ⟨a, ha, rfl⟩ | hc
  · have hh : fa_has (f_n f) (nI a) := (fa_has_iff hn).2 ⟨a, ha, rfl⟩
    by_cases hx : kok x
    · rw [if_pos ⟨hh, hx⟩] at k
      obtain ⟨kd, k1, k3, rfl⟩ := hx
      rw [nI_clamp (show a < 2147483648 by omega), nI_clamp (show kd < 2147483648 by omega)] at k
      by_cases hi : i < 0
      · rw [if_pos hi] at k
        simp (disch := first | assumption | omega | (simp only [ya_pi, ya_pj, ya_pa, ya_pr, yo_pi, yo_pj, yo_pa, yf_pi, yf_pj, yf_pa, yh_pi, yh_pj, yh_pa, yt_pi, yt_pj, yt_pa, la_pi, la_pj, la_pa]; assumption)) only [b_X11_old_0, b_X11_old_11, b_X11_old_21, b_X11_old_14, b_X11_old_18, b_X11_old_24, b_X11_old_31, b_X11_old_28, b_X11_old_46, b_X11_old_55, i_lit, i_m1, i_31, il_t, il_f, iq_t, iq_f, it_t, it_f, im_e, im_l, im_g, im_g2, nI_add, pk_mul, i_sub, i_div, sdm, i_dec, i_cl, iv_t, bI_or2, bI_t0, bI_one, not_true_eq_false, not_false_eq_true, ↓reduceIte, am_tl, am_tn, am_t0, am_n0, and_true, true_and, List.cons_append, List.nil_append, List.append_nil, or_true, true_or, or_false, false_or, eq_self, ior0, iand0, im_e2, oI, c_hasClass_y ok C.2.1 ha, c_isOldKind_y k1 k3, ge0 hi]
        exact k h am_fr.rf
      · obtain ⟨i, hi2, rfl⟩ := nI_of hi
        rw [if_neg hi, nI_clamp hi2] at k
        simp (disch := first | assumption | omega | (simp only [ya_pi, ya_pj, ya_pa, ya_pr, yo_pi, yo_pj, yo_pa, yf_pi, yf_pj, yf_pa, yh_pi, yh_pj, yh_pa, yt_pi, yt_pj, yt_pa, la_pi, la_pj, la_pa]; assumption)) only [b_X11_old_0, b_X11_old_11, b_X11_old_21, b_X11_old_14, b_X11_old_18, b_X11_old_24, b_X11_old_31, b_X11_old_28, b_X11_old_46, b_X11_old_55, i_lit, i_m1, i_31, il_t, il_f, iq_t, iq_f, it_t, it_f, im_e, im_l, im_g, im_g2, nI_add, pk_mul, i_sub, i_div, sdm, i_dec, i_cl, iv_t, bI_or2, bI_t0, bI_one, not_true_eq_false, not_false_eq_true, ↓reduceIte, am_tl, am_tn, am_t0, am_n0, and_true, true_and, List.cons_append, List.nil_append, List.append_nil, or_true, true_or, or_false, false_or, eq_self, ior0, iand0, im_e2, oI, c_hasClass_y ok C.2.1 ha, c_isOldKind_y k1 k3]
        refine c_build L0 ok C.2.1 ⟨k1, k3⟩ (fun h1 fr1 r1 => ?_)
        have L1 : Lay h1 := fr1.lay L0
        have l10 := oS_len hp (kd := kd) (show a < 10 by omega)
        have m1 := r1 a ha
        by_cases z : i < (oS (f_p f) kd a).length
        · rw [List.getElem?_eq_getElem z] at k
          have e : (oS (f_p f) kd a).getD i 0 = (oS (f_p f) kd a)[i] := by rw [List.getD_eq_getElem?_getD, List.getElem?_eq_getElem z]; rfl
          simp (disch := first | assumption | omega | (simp only [ya_pi, ya_pj, ya_pa, ya_pr, yo_pi, yo_pj, yo_pa, yf_pi, yf_pj, yf_pa, yh_pi, yh_pj, yh_pa, yt_pi, yt_pj, yt_pa, la_pi, la_pj, la_pa]; assumption)) only [b_X11_old_0, b_X11_old_11, b_X11_old_21, b_X11_old_14, b_X11_old_18, b_X11_old_24, b_X11_old_31, b_X11_old_28, b_X11_old_46, b_X11_old_55, i_lit, i_m1, i_31, il_t, il_f, iq_t, iq_f, it_t, it_f, im_e, im_l, im_g, im_g2, nI_add, pk_mul, i_sub, i_div, sdm, i_dec, i_cl, iv_t, bI_or2, bI_t0, bI_one, not_true_eq_false, not_false_eq_true, ↓reduceIte, am_tl, am_tn, am_t0, am_n0, and_true, true_and, List.cons_append, List.nil_append, List.append_nil, or_true, true_or, or_false, false_or, eq_self, ior0, iand0, im_e2, oI, c_oAt L1 m1 (show a < 10 by omega) l10 z, e]
          exact k h1 (fr1.le (fun a k z => z.S))
        · rw [List.getElem?_eq_none (by omega)] at k
          simp (disch := first | assumption | omega | (simp only [ya_pi, ya_pj, ya_pa, ya_pr, yo_pi, yo_pj, yo_pa, yf_pi, yf_pj, yf_pa, yh_pi, yh_pj, yh_pa, yt_pi, yt_pj, yt_pa, la_pi, la_pj, la_pa]; assumption)) only [b_X11_old_0, b_X11_old_11, b_X11_old_21, b_X11_old_14, b_X11_old_18, b_X11_old_24, b_X11_old_31, b_X11_old_28, b_X11_old_46, b_X11_old_55, i_lit, i_m1, i_31, il_t, il_f, iq_t, iq_f, it_t, it_f, im_e, im_l, im_g, im_g2, nI_add, pk_mul, i_sub, i_div, sdm, i_dec, i_cl, iv_t, bI_or2, bI_t0, bI_one, not_true_eq_false, not_false_eq_true, ↓reduceIte, am_tl, am_tn, am_t0, am_n0, and_true, true_and, List.cons_append, List.nil_append, List.append_nil, or_true, true_or, or_false, false_or, eq_self, ior0, iand0, im_e2, oI, c_oAtN L1 m1 (show a < 10 by omega) (show (oS (f_p f) kd a).length ≤ i by omega) hi2]
          exact k h1 (fr1.le (fun a k z => z.S))
    · rw [if_neg (fun z => hx z.2)] at k
      simp (disch := first | assumption | omega | (simp only [ya_pi, ya_pj, ya_pa, ya_pr, yo_pi, yo_pj, yo_pa, yf_pi, yf_pj, yf_pa, yh_pi, yh_pj, yh_pa, yt_pi, yt_pj, yt_pa, la_pi, la_pj, la_pa]; assumption)) only [b_X11_old_0, b_X11_old_11, b_X11_old_21, b_X11_old_14, b_X11_old_18, b_X11_old_24, b_X11_old_31, b_X11_old_28, b_X11_old_46, b_X11_old_55, i_lit, i_m1, i_31, il_t, il_f, iq_t, iq_f, it_t, it_f, im_e, im_l, im_g, im_g2, nI_add, pk_mul, i_sub, i_div, sdm, i_dec, i_cl, iv_t, bI_or2, bI_t0, bI_one, not_true_eq_false, not_false_eq_true, ↓reduceIte, am_tl, am_tn, am_t0, am_n0, and_true, true_and, List.cons_append, List.nil_append, List.append_nil, or_true, true_or, or_false, false_or, eq_self, ior0, iand0, im_e2, oI, c_hasClass_y ok C.2.1 ha, c_isOldKind_n hx]
      exact k h am_fr.rf
  · rw [if_neg (fun z => hc z.1)] at k
    simp (disch := first | assumption | omega | (simp only [ya_pi, ya_pj, ya_pa, ya_pr, yo_pi, yo_pj, yo_pa, yf_pi, yf_pj, yf_pa, yh_pi, yh_pj, yh_pa, yt_pi, yt_pj, yt_pa, la_pi, la_pj, la_pa]; assumption)) only [b_X11_old_0, b_X11_old_11, b_X11_old_21, b_X11_old_14, b_X11_old_18, b_X11_old_24, b_X11_old_31, b_X11_old_28, b_X11_old_46, b_X11_old_55, i_lit, i_m1, i_31, il_t, il_f, iq_t, iq_f, it_t, it_f, im_e, im_l, im_g, im_g2, nI_add, pk_mul, i_sub, i_div, sdm, i_dec, i_cl, iv_t, bI_or2, bI_t0, bI_one, not_true_eq_false, not_false_eq_true, ↓reduceIte, am_tl, am_tn, am_t0, am_n0, and_true, true_and, List.cons_append, List.nil_append, List.append_nil, or_true, true_or, or_false, false_or, eq_self, ior0, iand0, im_e2, oI, c_hasClass_n ok C.2.1 hc]
    exact k h am_fr.rf
theorem c_rOld {d : Nat} {Q : Option am_V → am_H → Prop} {h : am_H} {f : fa_S} (ok : fa_ok f) (F : rfa h f) {c x i : Int32} (k : ∀ h', am_fr h h' rS → Q (some (v_i (a_old f c x i))) h') : ex_ (d + 12) 327 0 [some (v_r (some 93)), some (v_i c), some (v_i x), some (v_i i)] [] h Q := by
  have L0 := F.1
  have hn := ok.1
  have hp := fa_plt ok
  have F0 : rfa (p_i h 93 0 (nI 0)) f := p0_rfa ok F
  have fr0 : am_fr h (p_i h 93 0 (nI 0)) rS := am_fr_pi (by unfold rS; omega)
  unfold a_old at k
  rcases fa_cs hn c with ⟨a, ha, rfl⟩ | hc
  · have hh : fa_has (f_n f) (nI a) := (fa_has_iff hn).2 ⟨a, ha, rfl⟩
    by_cases hx : kok x
    · rw [if_pos ⟨hh, hx⟩] at k
      obtain ⟨kd, k1, k3, rfl⟩ := hx
      rw [nI_clamp (show a < 2147483648 by omega), nI_clamp (show kd < 2147483648 by omega)] at k
      by_cases hi : i < 0
      · rw [if_pos hi] at k
        simp (disch := first | assumption | omega | (simp only [ya_pi, ya_pj, ya_pa, ya_pr, yo_pi, yo_pj, yo_pa, yf_pi, yf_pj, yf_pa, yh_pi, yh_pj, yh_pa, yt_pi, yt_pj, yt_pa, la_pi, la_pj, la_pa]; assumption)) only [b_X12_old_0, b_X12_old_11, b_X12_old_21, b_X12_old_14, b_X12_old_18, b_X12_old_24, b_X12_old_31, b_X12_old_28, b_X12_old_37, b_X12_old_54, b_X12_old_45, i_lit, i_m1, i_31, il_t, il_f, iq_t, iq_f, it_t, it_f, im_e, im_l, im_g, im_g2, nI_add, pk_mul, i_sub, i_div, sdm, i_dec, i_cl, iv_t, bI_or2, bI_t0, bI_one, not_true_eq_false, not_false_eq_true, ↓reduceIte, am_tl, am_tn, am_t0, am_n0, and_true, true_and, List.cons_append, List.nil_append, List.append_nil, or_true, true_or, or_false, false_or, eq_self, ior0, iand0, im_e2, oI, nI_l, c_isClass_y ok F0 ha, c_isKind_y k1 k3, ge0 hi]
        exact k _ fr0
      · obtain ⟨i, hi2, rfl⟩ := nI_of hi
        rw [if_neg hi, nI_clamp hi2] at k
        simp (disch := first | assumption | omega | (simp only [ya_pi, ya_pj, ya_pa, ya_pr, yo_pi, yo_pj, yo_pa, yf_pi, yf_pj, yf_pa, yh_pi, yh_pj, yh_pa, yt_pi, yt_pj, yt_pa, la_pi, la_pj, la_pa]; assumption)) only [b_X12_old_0, b_X12_old_11, b_X12_old_21, b_X12_old_14, b_X12_old_18, b_X12_old_24, b_X12_old_31, b_X12_old_28, b_X12_old_37, b_X12_old_54, b_X12_old_45, i_lit, i_m1, i_31, il_t, il_f, iq_t, iq_f, it_t, it_f, im_e, im_l, im_g, im_g2, nI_add, pk_mul, i_sub, i_div, sdm, i_dec, i_cl, iv_t, bI_or2, bI_t0, bI_one, not_true_eq_false, not_false_eq_true, ↓reduceIte, am_tl, am_tn, am_t0, am_n0, and_true, true_and, List.cons_append, List.nil_append, List.append_nil, or_true, true_or, or_false, false_or, eq_self, ior0, iand0, im_e2, oI, nI_l, c_isClass_y ok F0 ha, c_isKind_y k1 k3]
        refine c_laysOld ok F0 ha ⟨k1, k3⟩ (fun h1 fr1 R1 => ?_)
        have L1 : Lay h1 := fr1.lay F0.1
        have l10 := oS_len hp (kd := kd) (show a < 10 by omega)
        have e31 := R1.1
        by_cases z : i < (oS (f_p f) kd a).length
        · rw [List.getElem?_eq_getElem z] at k
          have e := R1.2 i z
          rw [Nat.zero_add, List.getD_eq_getElem?_getD, List.getElem?_eq_getElem z] at e
          simp (disch := first | assumption | omega | (simp only [ya_pi, ya_pj, ya_pa, ya_pr, yo_pi, yo_pj, yo_pa, yf_pi, yf_pj, yf_pa, yh_pi, yh_pj, yh_pa, yt_pi, yt_pj, yt_pa, la_pi, la_pj, la_pa]; assumption)) only [b_X12_old_0, b_X12_old_11, b_X12_old_21, b_X12_old_14, b_X12_old_18, b_X12_old_24, b_X12_old_31, b_X12_old_28, b_X12_old_37, b_X12_old_54, b_X12_old_45, i_lit, i_m1, i_31, il_t, il_f, iq_t, iq_f, it_t, it_f, im_e, im_l, im_g, im_g2, nI_add, pk_mul, i_sub, i_div, sdm, i_dec, i_cl, iv_t, bI_or2, bI_t0, bI_one, not_true_eq_false, not_false_eq_true, ↓reduceIte, am_tl, am_tn, am_t0, am_n0, and_true, true_and, List.cons_append, List.nil_append, List.append_nil, or_true, true_or, or_false, false_or, eq_self, ior0, iand0, im_e2, oI, e31, e]
          exact k h1 (fr0.tr (fr1.le (fun a k z => z.S)))
        · rw [List.getElem?_eq_none (by omega)] at k
          simp (disch := first | assumption | omega | (simp only [ya_pi, ya_pj, ya_pa, ya_pr, yo_pi, yo_pj, yo_pa, yf_pi, yf_pj, yf_pa, yh_pi, yh_pj, yh_pa, yt_pi, yt_pj, yt_pa, la_pi, la_pj, la_pa]; assumption)) only [b_X12_old_0, b_X12_old_11, b_X12_old_21, b_X12_old_14, b_X12_old_18, b_X12_old_24, b_X12_old_31, b_X12_old_28, b_X12_old_37, b_X12_old_54, b_X12_old_45, i_lit, i_m1, i_31, il_t, il_f, iq_t, iq_f, it_t, it_f, im_e, im_l, im_g, im_g2, nI_add, pk_mul, i_sub, i_div, sdm, i_dec, i_cl, iv_t, bI_or2, bI_t0, bI_one, not_true_eq_false, not_false_eq_true, ↓reduceIte, am_tl, am_tn, am_t0, am_n0, and_true, true_and, List.cons_append, List.nil_append, List.append_nil, or_true, true_or, or_false, false_or, eq_self, ior0, iand0, im_e2, oI, e31]
          exact k h1 (fr0.tr (fr1.le (fun a k z => z.S)))
    · rw [if_neg (fun z => hx z.2)] at k
      simp (disch := first | assumption | omega | (simp only [ya_pi, ya_pj, ya_pa, ya_pr, yo_pi, yo_pj, yo_pa, yf_pi, yf_pj, yf_pa, yh_pi, yh_pj, yh_pa, yt_pi, yt_pj, yt_pa, la_pi, la_pj, la_pa]; assumption)) only [b_X12_old_0, b_X12_old_11, b_X12_old_21, b_X12_old_14, b_X12_old_18, b_X12_old_24, b_X12_old_31, b_X12_old_28, b_X12_old_37, b_X12_old_54, b_X12_old_45, i_lit, i_m1, i_31, il_t, il_f, iq_t, iq_f, it_t, it_f, im_e, im_l, im_g, im_g2, nI_add, pk_mul, i_sub, i_div, sdm, i_dec, i_cl, iv_t, bI_or2, bI_t0, bI_one, not_true_eq_false, not_false_eq_true, ↓reduceIte, am_tl, am_tn, am_t0, am_n0, and_true, true_and, List.cons_append, List.nil_append, List.append_nil, or_true, true_or, or_false, false_or, eq_self, ior0, iand0, im_e2, oI, nI_l, c_isClass_y ok F0 ha, c_isKind_n hx]
      exact k _ fr0
  · rw [if_neg (fun z => hc z.1)] at k
    simp (disch := first | assumption | omega | (simp only [ya_pi, ya_pj, ya_pa, ya_pr, yo_pi, yo_pj, yo_pa, yf_pi, yf_pj, yf_pa, yh_pi, yh_pj, yh_pa, yt_pi, yt_pj, yt_pa, la_pi, la_pj, la_pa]; assumption)) only [b_X12_old_0, b_X12_old_11, b_X12_old_21, b_X12_old_14, b_X12_old_18, b_X12_old_24, b_X12_old_31, b_X12_old_28, b_X12_old_37, b_X12_old_54, b_X12_old_45, i_lit, i_m1, i_31, il_t, il_f, iq_t, iq_f, it_t, it_f, im_e, im_l, im_g, im_g2, nI_add, pk_mul, i_sub, i_div, sdm, i_dec, i_cl, iv_t, bI_or2, bI_t0, bI_one, not_true_eq_false, not_false_eq_true, ↓reduceIte, am_tl, am_tn, am_t0, am_n0, and_true, true_and, List.cons_append, List.nil_append, List.append_nil, or_true, true_or, or_false, false_or, eq_self, ior0, iand0, im_e2, oI, c_isClass_32 ok F0 hc]
    exact k _ fr0
theorem c_breaks {d : Nat} {Q : Option am_V → am_H → Prop} {h : am_H} {f : fa_S} (ok : fa_ok f) (C : cQ h f) {c x : Int32} {l3 l4 l5 : Option am_V} (k : ∀ h', am_fr h h' cS → Q (some (v_i (a_breaks f c x))) h') : ex_ (d + 4) 198 0 [some (v_r (some 0)), some (v_i c), some (v_i x), l3, l4, l5] [] h Q := by
  have L0 := C.1
  have hn := ok.1
  have hp := fa_plt ok
  unfold a_breaks at k
  rcases fa_cs hn c with ⟨a, ha, rfl⟩ | hc
  · have hh : fa_has (f_n f) (nI a) := (fa_has_iff hn).2 ⟨a, ha, rfl⟩
    by_cases hx : kok x
    · rw [if_pos ⟨hh, hx⟩] at k
      obtain ⟨kd, k1, k3, rfl⟩ := hx
      rw [nI_clamp (show a < 2147483648 by omega), nI_clamp (show kd < 2147483648 by omega)] at k
      have o1 := (fT_ok ok a ha).1
      by_cases z : (fT f a).1 = 2
      · rw [if_pos z] at k
        simp (disch := first | assumption | omega | (simp only [ya_pi, ya_pj, ya_pa, ya_pr, yo_pi, yo_pj, yo_pa, yf_pi, yf_pj, yf_pa, yh_pi, yh_pj, yh_pa, yt_pi, yt_pj, yt_pa, la_pi, la_pj, la_pa]; assumption)) only [b_X11_breaks_0, b_X11_breaks_11, b_X11_breaks_21, b_X11_breaks_14, b_X11_breaks_18, b_X11_breaks_24, b_X11_breaks_32, b_X11_breaks_38, b_X11_breaks_36, b_X11_breaks_53, b_X11_breaks_61, b_X11_breaks_76, b_X11_breaks_143, b_X11_breaks_79, b_X11_breaks_95, b_X11_breaks_137, b_X11_breaks_98, b_X11_breaks_112, b_X11_breaks_122, b_X11_breaks_125, b_X11_breaks_131, b_X11_breaks_128, i_lit, i_m1, i_31, il_t, il_f, iq_t, iq_f, it_t, it_f, im_e, im_l, im_g, im_g2, nI_add, pk_mul, i_sub, i_div, sdm, i_dec, i_cl, iv_t, bI_or2, bI_t0, bI_one, not_true_eq_false, not_false_eq_true, ↓reduceIte, am_tl, am_tn, am_t0, am_n0, and_true, true_and, List.cons_append, List.nil_append, List.append_nil, or_true, true_or, or_false, false_or, eq_self, ior0, iand0, im_e2, oI, c_hasClass_y ok C.2.1 ha, c_isOldKind_y k1 k3, c_stateOf C.2.2.1 (C.2.2.2 a ha) (show a < 11 by omega), z]
        exact k h am_fr.rf
      · rw [if_neg z] at k
        simp (disch := first | assumption | omega | (simp only [ya_pi, ya_pj, ya_pa, ya_pr, yo_pi, yo_pj, yo_pa, yf_pi, yf_pj, yf_pa, yh_pi, yh_pj, yh_pa, yt_pi, yt_pj, yt_pa, la_pi, la_pj, la_pa]; assumption)) only [b_X11_breaks_0, b_X11_breaks_11, b_X11_breaks_21, b_X11_breaks_14, b_X11_breaks_18, b_X11_breaks_24, b_X11_breaks_32, b_X11_breaks_38, b_X11_breaks_36, b_X11_breaks_53, b_X11_breaks_61, b_X11_breaks_76, b_X11_breaks_143, b_X11_breaks_79, b_X11_breaks_95, b_X11_breaks_137, b_X11_breaks_98, b_X11_breaks_112, b_X11_breaks_122, b_X11_breaks_125, b_X11_breaks_131, b_X11_breaks_128, i_lit, i_m1, i_31, il_t, il_f, iq_t, iq_f, it_t, it_f, im_e, im_l, im_g, im_g2, nI_add, pk_mul, i_sub, i_div, sdm, i_dec, i_cl, iv_t, bI_or2, bI_t0, bI_one, not_true_eq_false, not_false_eq_true, ↓reduceIte, am_tl, am_tn, am_t0, am_n0, and_true, true_and, List.cons_append, List.nil_append, List.append_nil, or_true, true_or, or_false, false_or, eq_self, ior0, iand0, im_e2, oI, c_hasClass_y ok C.2.1 ha, c_isOldKind_y k1 k3, c_stateOf C.2.2.1 (C.2.2.2 a ha) (show a < 11 by omega), z]
        refine c_build L0 ok C.2.1 ⟨k1, k3⟩ (fun h1 fr1 r1 => ?_)
        have C1 : cQ h1 f := C.fr ok (fr1.le (fun a k z => z.S))
        have L1 := C1.1
        simp (disch := first | assumption | omega | (simp only [ya_pi, ya_pj, ya_pa, ya_pr, yo_pi, yo_pj, yo_pa, yf_pi, yf_pj, yf_pa, yh_pi, yh_pj, yh_pa, yt_pi, yt_pj, yt_pa, la_pi, la_pj, la_pa]; assumption)) only [b_X11_breaks_0, b_X11_breaks_11, b_X11_breaks_21, b_X11_breaks_14, b_X11_breaks_18, b_X11_breaks_24, b_X11_breaks_32, b_X11_breaks_38, b_X11_breaks_36, b_X11_breaks_53, b_X11_breaks_61, b_X11_breaks_76, b_X11_breaks_143, b_X11_breaks_79, b_X11_breaks_95, b_X11_breaks_137, b_X11_breaks_98, b_X11_breaks_112, b_X11_breaks_122, b_X11_breaks_125, b_X11_breaks_131, b_X11_breaks_128, i_lit, i_m1, i_31, il_t, il_f, iq_t, iq_f, it_t, it_f, im_e, im_l, im_g, im_g2, nI_add, pk_mul, i_sub, i_div, sdm, i_dec, i_cl, iv_t, bI_or2, bI_t0, bI_one, not_true_eq_false, not_false_eq_true, ↓reduceIte, am_tl, am_tn, am_t0, am_n0, and_true, true_and, List.cons_append, List.nil_append, List.append_nil, or_true, true_or, or_false, false_or, eq_self, ior0, iand0, im_e2, oI]
        refine c_gather L1 ok C1.2.1 C1.2.2 (fT_ok ok) ha (fun h2 fr2 R2 e2 => ?_)
        have L2 : Lay h2 := fr2.lay L1
        have l10 := oS_len hp (kd := kd) (show a < 10 by omega)
        have xl := fun y hy => oS_lt hp (kd := kd) (c := a) (x := y) (show a < 10 by omega) hy
        have m2 : ol h2 a (oS (f_p f) kd a) := (r1 a ha).fr l10 fr2 (by unfold dPm; omega) (fun k _ => by unfold dPm; omega)
        have fin := k h2 ((fr1.le (fun a k z => z.S)).tr (fr2.le (fun a k z => z.S)))
        clear k r1
        unfold bkS at fin
        generalize oS (f_p f) kd a = l at l10 xl m2 fin
        simp (disch := first | assumption | omega | (simp only [ya_pi, ya_pj, ya_pa, ya_pr, yo_pi, yo_pj, yo_pa, yf_pi, yf_pj, yf_pa, yh_pi, yh_pj, yh_pa, yt_pi, yt_pj, yt_pa, la_pi, la_pj, la_pa]; assumption)) only [b_X11_breaks_0, b_X11_breaks_11, b_X11_breaks_21, b_X11_breaks_14, b_X11_breaks_18, b_X11_breaks_24, b_X11_breaks_32, b_X11_breaks_38, b_X11_breaks_36, b_X11_breaks_53, b_X11_breaks_61, b_X11_breaks_76, b_X11_breaks_143, b_X11_breaks_79, b_X11_breaks_95, b_X11_breaks_137, b_X11_breaks_98, b_X11_breaks_112, b_X11_breaks_122, b_X11_breaks_125, b_X11_breaks_131, b_X11_breaks_128, i_lit, i_m1, i_31, il_t, il_f, iq_t, iq_f, it_t, it_f, im_e, im_l, im_g, im_g2, nI_add, pk_mul, i_sub, i_div, sdm, i_dec, i_cl, iv_t, bI_or2, bI_t0, bI_one, not_true_eq_false, not_false_eq_true, ↓reduceIte, am_tl, am_tn, am_t0, am_n0, and_true, true_and, List.cons_append, List.nil_append, List.append_nil, or_true, true_or, or_false, false_or, eq_self, ior0, iand0, im_e2, oI]
        refine lp_up l.length (fun i (l5 : Option am_V) => [some (v_r (some 0)), some (v_i (nI a)), some (v_i (nI kd)), some (v_i (nI (sm (fun i => ct (fun t => fD f a (l.getD (i + 1 + t) 0) (l.getD i 0)) (l.length - (i + 1))) i))), some (v_i (nI i)), l5]) (fun i _ h' => h' = h2) ?_ ?_ (Nat.zero_le _) rfl (s := l5)
        · rintro i l5 h' hi rfl nx
          have xi := xl _ (gd_mem hi)
          rw [b_X11_breaks_66 _ _ _ _ _ _ L2]
          simp (disch := first | assumption | omega | (simp only [ya_pi, ya_pj, ya_pa, ya_pr, yo_pi, yo_pj, yo_pa, yf_pi, yf_pj, yf_pa, yh_pi, yh_pj, yh_pa, yt_pi, yt_pj, yt_pa, la_pi, la_pj, la_pa]; assumption)) only [b_X11_breaks_0, b_X11_breaks_11, b_X11_breaks_21, b_X11_breaks_14, b_X11_breaks_18, b_X11_breaks_24, b_X11_breaks_32, b_X11_breaks_38, b_X11_breaks_36, b_X11_breaks_53, b_X11_breaks_61, b_X11_breaks_76, b_X11_breaks_143, b_X11_breaks_79, b_X11_breaks_95, b_X11_breaks_137, b_X11_breaks_98, b_X11_breaks_112, b_X11_breaks_122, b_X11_breaks_125, b_X11_breaks_131, b_X11_breaks_128, i_lit, i_m1, i_31, il_t, il_f, iq_t, iq_f, it_t, it_f, im_e, im_l, im_g, im_g2, nI_add, pk_mul, i_sub, i_div, sdm, i_dec, i_cl, iv_t, bI_or2, bI_t0, bI_one, not_true_eq_false, not_false_eq_true, ↓reduceIte, am_tl, am_tn, am_t0, am_n0, and_true, true_and, List.cons_append, List.nil_append, List.append_nil, or_true, true_or, or_false, false_or, eq_self, ior0, iand0, im_e2, oI, c_oSize L2 m2 (show a < 10 by omega)]
          have st := lp_up (d := d + 4) (k := 198) (pc := 85) (Q := Q) (l.length - (i + 1)) (fun j (_ : Unit) => [some (v_r (some 0)), some (v_i (nI a)), some (v_i (nI kd)), some (v_i (nI (sm (fun i => ct (fun t => fD f a (l.getD (i + 1 + t) 0) (l.getD i 0)) (l.length - (i + 1))) i + ct (fun t => fD f a (l.getD (i + 1 + t) 0) (l.getD i 0)) j))), some (v_i (nI i)), some (v_i (nI (i + 1 + j)))]) (fun j _ h3 => h3 = h') ?_ ?_ (Nat.zero_le _) (s := ()) (h := h') rfl
          · exact st
          · rintro j - h3 hj rfl nx3
            have hj2 : i + 1 + j < l.length := by omega
            have xj := xl _ (gd_mem hj2)
            have nxt := nx3 () h3 rfl
            rw [b_X11_breaks_85 _ _ _ _ _ _ L2]
            cases z : fD f a (l.getD (i + 1 + j) 0) (l.getD i 0) with
            | true =>
              rw [ct_y (p := fun t => fD f a (l.getD (i + 1 + t) 0) (l.getD i 0)) z] at nxt
              simp (disch := first | assumption | omega | (simp only [ya_pi, ya_pj, ya_pa, ya_pr, yo_pi, yo_pj, yo_pa, yf_pi, yf_pj, yf_pa, yh_pi, yh_pj, yh_pa, yt_pi, yt_pj, yt_pa, la_pi, la_pj, la_pa]; assumption)) only [b_X11_breaks_0, b_X11_breaks_11, b_X11_breaks_21, b_X11_breaks_14, b_X11_breaks_18, b_X11_breaks_24, b_X11_breaks_32, b_X11_breaks_38, b_X11_breaks_36, b_X11_breaks_53, b_X11_breaks_61, b_X11_breaks_76, b_X11_breaks_143, b_X11_breaks_79, b_X11_breaks_95, b_X11_breaks_137, b_X11_breaks_98, b_X11_breaks_112, b_X11_breaks_122, b_X11_breaks_125, b_X11_breaks_131, b_X11_breaks_128, i_lit, i_m1, i_31, il_t, il_f, iq_t, iq_f, it_t, it_f, im_e, im_l, im_g, im_g2, nI_add, pk_mul, i_sub, i_div, sdm, i_dec, i_cl, iv_t, bI_or2, bI_t0, bI_one, not_true_eq_false, not_false_eq_true, ↓reduceIte, am_tl, am_tn, am_t0, am_n0, and_true, true_and, List.cons_append, List.nil_append, List.append_nil, or_true, true_or, or_false, false_or, eq_self, ior0, iand0, im_e2, oI, c_oSize L2 m2 (show a < 10 by omega), c_oAt L2 m2 (show a < 10 by omega) l10 hj2, c_oAt L2 m2 (show a < 10 by omega) l10 hi, c_isDemanded L2 R2 xj xi, z]
              exact nxt
            | false =>
              rw [ct_n (p := fun t => fD f a (l.getD (i + 1 + t) 0) (l.getD i 0)) z] at nxt
              simp (disch := first | assumption | omega | (simp only [ya_pi, ya_pj, ya_pa, ya_pr, yo_pi, yo_pj, yo_pa, yf_pi, yf_pj, yf_pa, yh_pi, yh_pj, yh_pa, yt_pi, yt_pj, yt_pa, la_pi, la_pj, la_pa]; assumption)) only [b_X11_breaks_0, b_X11_breaks_11, b_X11_breaks_21, b_X11_breaks_14, b_X11_breaks_18, b_X11_breaks_24, b_X11_breaks_32, b_X11_breaks_38, b_X11_breaks_36, b_X11_breaks_53, b_X11_breaks_61, b_X11_breaks_76, b_X11_breaks_143, b_X11_breaks_79, b_X11_breaks_95, b_X11_breaks_137, b_X11_breaks_98, b_X11_breaks_112, b_X11_breaks_122, b_X11_breaks_125, b_X11_breaks_131, b_X11_breaks_128, i_lit, i_m1, i_31, il_t, il_f, iq_t, iq_f, it_t, it_f, im_e, im_l, im_g, im_g2, nI_add, pk_mul, i_sub, i_div, sdm, i_dec, i_cl, iv_t, bI_or2, bI_t0, bI_one, not_true_eq_false, not_false_eq_true, ↓reduceIte, am_tl, am_tn, am_t0, am_n0, and_true, true_and, List.cons_append, List.nil_append, List.append_nil, or_true, true_or, or_false, false_or, eq_self, ior0, iand0, im_e2, oI, c_oSize L2 m2 (show a < 10 by omega), c_oAt L2 m2 (show a < 10 by omega) l10 hj2, c_oAt L2 m2 (show a < 10 by omega) l10 hi, c_isDemanded L2 R2 xj xi, z, Bool.false_eq_true]
              exact nxt
          · rintro - h3 rfl
            rw [b_X11_breaks_85 _ _ _ _ _ _ L2, show i + 1 + (l.length - (i + 1)) = l.length from by omega]
            simp (disch := first | assumption | omega | (simp only [ya_pi, ya_pj, ya_pa, ya_pr, yo_pi, yo_pj, yo_pa, yf_pi, yf_pj, yf_pa, yh_pi, yh_pj, yh_pa, yt_pi, yt_pj, yt_pa, la_pi, la_pj, la_pa]; assumption)) only [b_X11_breaks_0, b_X11_breaks_11, b_X11_breaks_21, b_X11_breaks_14, b_X11_breaks_18, b_X11_breaks_24, b_X11_breaks_32, b_X11_breaks_38, b_X11_breaks_36, b_X11_breaks_53, b_X11_breaks_61, b_X11_breaks_76, b_X11_breaks_143, b_X11_breaks_79, b_X11_breaks_95, b_X11_breaks_137, b_X11_breaks_98, b_X11_breaks_112, b_X11_breaks_122, b_X11_breaks_125, b_X11_breaks_131, b_X11_breaks_128, i_lit, i_m1, i_31, il_t, il_f, iq_t, iq_f, it_t, it_f, im_e, im_l, im_g, im_g2, nI_add, pk_mul, i_sub, i_div, sdm, i_dec, i_cl, iv_t, bI_or2, bI_t0, bI_one, not_true_eq_false, not_false_eq_true, ↓reduceIte, am_tl, am_tn, am_t0, am_n0, and_true, true_and, List.cons_append, List.nil_append, List.append_nil, or_true, true_or, or_false, false_or, eq_self, ior0, iand0, im_e2, oI, c_oSize L2 m2 (show a < 10 by omega)]
            exact nx _ h3 rfl
        · rintro l5 h' rfl
          rw [b_X11_breaks_66 _ _ _ _ _ _ L2]
          simp (disch := first | assumption | omega | (simp only [ya_pi, ya_pj, ya_pa, ya_pr, yo_pi, yo_pj, yo_pa, yf_pi, yf_pj, yf_pa, yh_pi, yh_pj, yh_pa, yt_pi, yt_pj, yt_pa, la_pi, la_pj, la_pa]; assumption)) only [b_X11_breaks_0, b_X11_breaks_11, b_X11_breaks_21, b_X11_breaks_14, b_X11_breaks_18, b_X11_breaks_24, b_X11_breaks_32, b_X11_breaks_38, b_X11_breaks_36, b_X11_breaks_53, b_X11_breaks_61, b_X11_breaks_76, b_X11_breaks_143, b_X11_breaks_79, b_X11_breaks_95, b_X11_breaks_137, b_X11_breaks_98, b_X11_breaks_112, b_X11_breaks_122, b_X11_breaks_125, b_X11_breaks_131, b_X11_breaks_128, i_lit, i_m1, i_31, il_t, il_f, iq_t, iq_f, it_t, it_f, im_e, im_l, im_g, im_g2, nI_add, pk_mul, i_sub, i_div, sdm, i_dec, i_cl, iv_t, bI_or2, bI_t0, bI_one, not_true_eq_false, not_false_eq_true, ↓reduceIte, am_tl, am_tn, am_t0, am_n0, and_true, true_and, List.cons_append, List.nil_append, List.append_nil, or_true, true_or, or_false, false_or, eq_self, ior0, iand0, im_e2, oI, c_oSize L2 m2 (show a < 10 by omega)]
          exact fin
    · rw [if_neg (fun z => hx z.2)] at k
      simp (disch := first | assumption | omega | (simp only [ya_pi, ya_pj, ya_pa, ya_pr, yo_pi, yo_pj, yo_pa, yf_pi, yf_pj, yf_pa, yh_pi, yh_pj, yh_pa, yt_pi, yt_pj, yt_pa, la_pi, la_pj, la_pa]; assumption)) only [b_X11_breaks_0, b_X11_breaks_11, b_X11_breaks_21, b_X11_breaks_14, b_X11_breaks_18, b_X11_breaks_24, b_X11_breaks_32, b_X11_breaks_38, b_X11_breaks_36, b_X11_breaks_53, b_X11_breaks_61, b_X11_breaks_76, b_X11_breaks_143, b_X11_breaks_79, b_X11_breaks_95, b_X11_breaks_137, b_X11_breaks_98, b_X11_breaks_112, b_X11_breaks_122, b_X11_breaks_125, b_X11_breaks_131, b_X11_breaks_128, i_lit, i_m1, i_31, il_t, il_f, iq_t, iq_f, it_t, it_f, im_e, im_l, im_g, im_g2, nI_add, pk_mul, i_sub, i_div, sdm, i_dec, i_cl, iv_t, bI_or2, bI_t0, bI_one, not_true_eq_false, not_false_eq_true, ↓reduceIte, am_tl, am_tn, am_t0, am_n0, and_true, true_and, List.cons_append, List.nil_append, List.append_nil, or_true, true_or, or_false, false_or, eq_self, ior0, iand0, im_e2, oI, c_hasClass_y ok C.2.1 ha, c_isOldKind_n hx]
      exact k h am_fr.rf
  · rw [if_neg (fun z => hc z.1)] at k
    simp (disch := first | assumption | omega | (simp only [ya_pi, ya_pj, ya_pa, ya_pr, yo_pi, yo_pj, yo_pa, yf_pi, yf_pj, yf_pa, yh_pi, yh_pj, yh_pa, yt_pi, yt_pj, yt_pa, la_pi, la_pj, la_pa]; assumption)) only [b_X11_breaks_0, b_X11_breaks_11, b_X11_breaks_21, b_X11_breaks_14, b_X11_breaks_18, b_X11_breaks_24, b_X11_breaks_32, b_X11_breaks_38, b_X11_breaks_36, b_X11_breaks_53, b_X11_breaks_61, b_X11_breaks_76, b_X11_breaks_143, b_X11_breaks_79, b_X11_breaks_95, b_X11_breaks_137, b_X11_breaks_98, b_X11_breaks_112, b_X11_breaks_122, b_X11_breaks_125, b_X11_breaks_131, b_X11_breaks_128, i_lit, i_m1, i_31, il_t, il_f, iq_t, iq_f, it_t, it_f, im_e, im_l, im_g, im_g2, nI_add, pk_mul, i_sub, i_div, sdm, i_dec, i_cl, iv_t, bI_or2, bI_t0, bI_one, not_true_eq_false, not_false_eq_true, ↓reduceIte, am_tl, am_tn, am_t0, am_n0, and_true, true_and, List.cons_append, List.nil_append, List.append_nil, or_true, true_or, or_false, false_or, eq_self, ior0, iand0, im_e2, oI, c_hasClass_n ok C.2.1 hc]
    exact k h am_fr.rf
