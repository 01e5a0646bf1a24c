/-! ===== laws: their codes, what they say ===== -/
def kp (v : Int64) : Int32 := if lN 1000000 < v then nI 1000000 else if v < -(lN 1000000) then -(nI 1000000) else v.toInt32
def btw (code : Nat) (a b : Int32) : Int32 := if code = 3003 then (if a = b then nI 1 else nI 0) else if code = 3004 then (if a < b then nI 1 else nI 0) else if code = 3005 then (if b < a then nI 1 else nI 0) else if code = 3007 then a &&& b else if code = 3008 then a ||| b else kp (if code = 3000 then a.toInt64 + b.toInt64 else if code = 3001 then a.toInt64 - b.toInt64 else a.toInt64 * b.toInt64)
def sp (w : Nat → Int32) (code : Nat) (st : List Int32) : List Int32 := if code < 1000 then nI code :: st else if code < 3000 then w (code - 1000) :: st else if code = 3006 then (match st with
  | x :: r => (nI 1 - x) :: r
  | s => s) else if code = 3009 then (match st with
  | o :: t :: c :: r => (if c = nI 1 then t else o) :: r
  | s => s) else (match st with
  | b :: a :: r => btw code a b :: r
  | s => s)
def ev (w : Nat → Int32) (c : List Nat) (st : List Int32) : List Int32 := c.foldl (fun s x => sp w x s) st
def tk (code : Nat) : Nat := if code = 1000 then 203 else if code = 1001 then 204 else if code = 1002 then 213 else if code = 1003 then 201 else if code = 1004 then 206 else if code = 1005 then 214 else if code = 3000 then 43 else if code = 3001 then 45 else if code = 3002 then 42 else if code = 3003 then 61 else if code = 3004 then 60 else if code = 3005 then 62 else if code = 3006 then 217 else if code = 3007 then 216 else if code = 3008 then 215 else if code = 3009 then 209 else 0
def cT (code : Nat) : Int32 := if code < 1000 then nI code else -(nI (tk code))
def tc (sy : Bool) (code : Nat) (τ : List Bool) : Option (List Bool) :=
  if code < 1000 ∨ (1000 ≤ code ∧ code ≤ 1003) ∨ (sy = true ∧ 1004 ≤ code ∧ code ≤ 1005) then (if τ.length < 100 then some (false :: τ) else none)
  else if 3000 ≤ code ∧ code ≤ 3002 then (match τ with
    | false :: false :: r => some (false :: r)
    | _ => none)
  else if 3003 ≤ code ∧ code ≤ 3005 then (match τ with
    | false :: false :: r => some (true :: r)
    | _ => none)
  else if code = 3006 then (match τ with
    | true :: r => some (true :: r)
    | _ => none)
  else if 3007 ≤ code ∧ code ≤ 3008 then (match τ with
    | true :: true :: r => some (true :: r)
    | _ => none)
  else if code = 3009 then (match τ with
    | false :: false :: true :: r => some (false :: r)
    | _ => none)
  else none
def tcs (sy : Bool) : List Nat → List Bool → Option (List Bool)
  | [], τ => some τ
  | x :: c, τ => (tc sy x τ).bind (tcs sy c)
def tys : List Bool → List Int32 → Prop
  | [], [] => True
  | t :: τ, x :: st => (t = true → x = nI 0 ∨ x = nI 1) ∧ tys τ st
  | _, _ => False
theorem tys_len : ∀ {τ : List Bool} {st : List Int32}, tys τ st → τ.length = st.length := by
  intro τ
  induction τ with
  | nil =>
    intro st h
    cases st with
    | nil => rfl
    | cons x r => exact h.elim
  | cons t τ ih =>
    intro st h
    cases st with
    | nil => exact h.elim
    | cons x r => rw [List.length_cons, List.length_cons, ih h.2]
/-- the four kinds of steps -/
theorem tc_cs {sy : Bool} {code : Nat} {τ τ' : List Bool} (h : tc sy code τ = some τ') : ((code < 1000 ∨ (1000 ≤ code ∧ code ≤ 1003) ∨ (sy = true ∧ 1004 ≤ code ∧ code ≤ 1005)) ∧ τ.length < 100 ∧ τ' = false :: τ) ∨ (∃ r, 3000 ≤ code ∧ code ≤ 3002 ∧ τ = false :: false :: r ∧ τ' = false :: r) ∨ (∃ r, 3003 ≤ code ∧ code ≤ 3005 ∧ τ = false :: false :: r ∧ τ' = true :: r) ∨ (∃ r, code = 3006 ∧ τ = true :: r ∧ τ' = true :: r) ∨ (∃ r, 3007 ≤ code ∧ code ≤ 3008 ∧ τ = true :: true :: r ∧ τ' = true :: r) ∨ (∃ r, code = 3009 ∧ τ = false :: false :: true :: r ∧ τ' = false :: r) := by
  unfold tc at h
  split at h
  · rename_i z
    split at h
    · rename_i y
      cases h
      exact Or.inl ⟨z, y, rfl⟩
    · cases h
  split at h
  · rename_i z
    split at h
    · rename_i r
      cases h
      exact Or.inr (Or.inl ⟨r, z.1, z.2, rfl, rfl⟩)
    · cases h
  split at h
  · rename_i z
    split at h
    · rename_i r
      cases h
      exact Or.inr (Or.inr (Or.inl ⟨r, z.1, z.2, rfl, rfl⟩))
    · cases h
  split at h
  · rename_i z
    split at h
    · rename_i r
      cases h
      exact Or.inr (Or.inr (Or.inr (Or.inl ⟨r, z, rfl, rfl⟩)))
    · cases h
  split at h
  · rename_i z
    split at h
    · rename_i r
      cases h
      exact Or.inr (Or.inr (Or.inr (Or.inr (Or.inl ⟨r, z.1, z.2, rfl, rfl⟩))))
    · cases h
  split at h
  · rename_i z
    split at h
    · rename_i r
      cases h
      exact Or.inr (Or.inr (Or.inr (Or.inr (Or.inr ⟨r, z, rfl, rfl⟩))))
    · cases h
  · cases h
theorem b01_and {a b : Int32} (ha : a = nI 0 ∨ a = nI 1) (hb : b = nI 0 ∨ b = nI 1) : (a &&& b = nI 0 ∨ a &&& b = nI 1) ∧ kp (a.toInt64 &&& b.toInt64) = a &&& b := by
  rcases ha with rfl | rfl <;> rcases hb with rfl | rfl <;> decide
theorem b01_or {a b : Int32} (ha : a = nI 0 ∨ a = nI 1) (hb : b = nI 0 ∨ b = nI 1) : (a ||| b = nI 0 ∨ a ||| b = nI 1) ∧ kp (a.toInt64 ||| b.toInt64) = a ||| b := by
  rcases ha with rfl | rfl <;> rcases hb with rfl | rfl <;> decide
theorem b01_not {a : Int32} (ha : a = nI 0 ∨ a = nI 1) : nI 1 - a = nI 0 ∨ nI 1 - a = nI 1 := by
  rcases ha with rfl | rfl <;> decide
theorem b01_if {p : Prop} [Decidable p] : (if p then nI 1 else nI 0) = nI 0 ∨ (if p then nI 1 else nI 0) = nI 1 := by
  by_cases z : p
  · rw [if_pos z]; exact Or.inr rfl
  · rw [if_neg z]; exact Or.inl rfl
theorem btw_c {code : Nat} {a b : Int32} (h1 : 3003 ≤ code) (h2 : code ≤ 3005) : btw code a b = nI 0 ∨ btw code a b = nI 1 := by
  unfold btw
  rcases (show code = 3003 ∨ code = 3004 ∨ code = 3005 by omega) with rfl | rfl | rfl
  · exact b01_if
  · exact b01_if
  · exact b01_if
theorem tys2 {τ : List Bool} {t u : Bool} {st : List Int32} (h : tys (t :: u :: τ) st) : ∃ b a r, st = b :: a :: r ∧ (t = true → b = nI 0 ∨ b = nI 1) ∧ (u = true → a = nI 0 ∨ a = nI 1) ∧ tys τ r := by
  match st, h with
  | b :: a :: r, h => exact ⟨b, a, r, rfl, h.1, h.2.1, h.2.2⟩
theorem sp_ty {sy : Bool} {w : Nat → Int32} {code : Nat} {τ τ' : List Bool} {st : List Int32} (h : tc sy code τ = some τ') (ht : tys τ st) : tys τ' (sp w code st) := by
  rcases tc_cs h with ⟨h1, h2, rfl⟩ | ⟨r, h1, h2, rfl, rfl⟩ | ⟨r, h1, h2, rfl, rfl⟩ | ⟨r, rfl, rfl, rfl⟩ | ⟨r, h1, h2, rfl, rfl⟩ | ⟨r, rfl, rfl, rfl⟩
  · unfold sp
    by_cases z : code < 1000
    · rw [if_pos z]
      exact ⟨fun y => (by cases y), ht⟩
    · rw [if_neg z, if_pos (by omega)]
      exact ⟨fun y => (by cases y), ht⟩
  · obtain ⟨b, a, s, rfl, -, -, hr⟩ := tys2 ht
    unfold sp
    rw [if_neg (by omega), if_neg (by omega), if_neg (by omega), if_neg (by omega)]
    exact ⟨fun y => (by cases y), hr⟩
  · obtain ⟨b, a, s, rfl, -, -, hr⟩ := tys2 ht
    unfold sp
    rw [if_neg (by omega), if_neg (by omega), if_neg (by omega), if_neg (by omega)]
    exact ⟨fun _ => btw_c h1 h2, hr⟩
  · match st, ht with
    | x :: s, ht => exact ⟨fun _ => b01_not (ht.1 rfl), ht.2⟩
  · obtain ⟨b, a, s, rfl, hb, ha, hr⟩ := tys2 ht
    unfold sp
    rw [if_neg (by omega), if_neg (by omega), if_neg (by omega), if_neg (by omega)]
    refine ⟨fun _ => ?_, hr⟩
    rcases (show code = 3007 ∨ code = 3008 by omega) with rfl | rfl
    · exact (b01_and (ha rfl) (hb rfl)).1
    · exact (b01_or (ha rfl) (hb rfl)).1
  · obtain ⟨b, a, s, rfl, -, -, hr⟩ := tys2 ht
    match s, hr with
    | x :: s, hr => exact ⟨fun y => (by cases y), hr.2⟩
def skr (g : Nat → Int32) : List Int32 → Prop
  | [] => True
  | x :: r => g r.length = x ∧ skr g r
theorem skr_ext {g g' : Nat → Int32} : ∀ {st : List Int32}, skr g st → (∀ k, k < st.length → g' k = g k) → skr g' st := by
  intro st
  induction st with
  | nil => intro _ _; trivial
  | cons x r ih =>
    intro h e
    exact ⟨by rw [e _ (by rw [List.length_cons]; omega)]; exact h.1, ih h.2 (fun k hk => e k (by rw [List.length_cons]; omega))⟩
/-! the class's stack -/
def stk (h : am_H) (st : List Int32) : Prop := h_i h 51 7 = nI st.length ∧ st.length ≤ 100 ∧ skr (h_i h 55) st
def vP (a k : Nat) : Prop := (a = 51 ∧ k = 7) ∨ a = 55
theorem c_push {d : Nat} {Q : Option am_V → am_H → Prop} {h : am_H} {st : List Int32} {x : Int32} (L0 : Lay h) (S : stk h st) (hl : st.length < 100) (k : ∀ h', am_fr h h' vP → stk h' (x :: st) → Q none h') : ex_ d 149 0 [some (v_r (some 51)), some (v_i x)] [] h Q := by
  obtain ⟨e, -, s⟩ := S
  simp (disch := first | assumption | omega | (simp only [ya_pi, ya_pj, ya_pa, ya_pr, yo_pi, yo_pj, yo_pa, yf_pi, yf_pj, yf_pa, yh_pi, yh_pj, yh_pa, yt_pi, yt_pj, yt_pa, la_pi, la_pj, la_pa]; assumption)) only [b_X10_push_0, b_X10_push_39, b_X10_push_7, b_X10_push_19, i_lit, i_m1, i_31, il_t, il_f, iq_t, iq_f, it_t, it_f, im_e, im_l, im_g, im_g2, nI_add, pk_mul, i_sub, i_div, sdm, i_dec, i_cl, iv_t, bI_or2, bI_t0, bI_one, not_true_eq_false, not_false_eq_true, ↓reduceIte, am_tl, am_tn, am_t0, am_n0, and_true, true_and, List.cons_append, List.nil_append, List.append_nil, or_true, true_or, or_false, false_or, eq_self, ior0, iand0, im_e2, oI, hi_s, hi_o, hi_k, hr_pi, hj_pi, hn_pi, hi_pas, hi_pao, hr_pa, hj_pa, e]
  refine k _ ((am_fr_pi (Or.inr rfl)).pi (Or.inl ⟨rfl, rfl⟩)) ⟨hi_s, by rw [List.length_cons]; omega, ?_, ?_⟩
  · rw [hi_o (by omega), hi_s]
  · exact skr_ext s (fun k hk => by rw [hi_o (by omega), hi_k (by omega)])
theorem c_pop {d : Nat} {Q : Option am_V → am_H → Prop} {h : am_H} {st : List Int32} {x : Int32} (L0 : Lay h) (S : stk h (x :: st)) (k : ∀ h', am_fr h h' vP → stk h' st → Q (some (v_i x)) h') : ex_ d 150 0 [some (v_r (some 51))] [] h Q := by
  obtain ⟨e, hl, s1, s⟩ := S
  rw [List.length_cons] at e hl
  have e1 : h_i h 55 st.length = x := s1
  simp (disch := first | assumption | omega | (simp only [ya_pi, ya_pj, ya_pa, ya_pr, yo_pi, yo_pj, yo_pa, yf_pi, yf_pj, yf_pa, yh_pi, yh_pj, yh_pa, yt_pi, yt_pj, yt_pa, la_pi, la_pj, la_pa]; assumption)) only [b_X10_pop_0, b_X10_pop_19, b_X10_pop_7, b_X10_pop_21, i_lit, i_m1, i_31, il_t, il_f, iq_t, iq_f, it_t, it_f, im_e, im_l, im_g, im_g2, nI_add, pk_mul, i_sub, i_div, sdm, i_dec, i_cl, iv_t, bI_or2, bI_t0, bI_one, not_true_eq_false, not_false_eq_true, ↓reduceIte, am_tl, am_tn, am_t0, am_n0, and_true, true_and, List.cons_append, List.nil_append, List.append_nil, or_true, true_or, or_false, false_or, eq_self, ior0, iand0, im_e2, oI, hi_s, hi_o, hi_k, hr_pi, hj_pi, hn_pi, hi_pas, hi_pao, hr_pa, hj_pa, e, Nat.add_sub_cancel, e1]
  exact k _ (am_fr_pi (Or.inl ⟨rfl, rfl⟩)) ⟨hi_s, by omega, skr_ext s (fun k hk => by rw [hi_o (by omega)])⟩
theorem c_keep {d : Nat} {Q : Option am_V → am_H → Prop} {h : am_H} {v : Int64} {l1 : Option am_V} : ex_ d 152 0 [some (v_l v), l1] [] h Q ↔ Q (some (v_i (kp v))) h := by
  unfold kp
  by_cases z : lN 1000000 < v
  · have z1 : (v ≤ lN 1000000) = False := eq_false (fun y => by
      rw [Int64.le_iff_toInt_le] at y
      rw [Int64.lt_iff_toInt_lt] at z
      omega)
    rw [if_pos z]
    simp (disch := first | assumption | omega | (simp only [ya_pi, ya_pj, ya_pa, ya_pr, yo_pi, yo_pj, yo_pa, yf_pi, yf_pj, yf_pa, yh_pi, yh_pj, yh_pa, yt_pi, yt_pj, yt_pa, la_pi, la_pj, la_pa]; assumption)) only [b_X10_keep_0, b_X10_keep_11, b_X10_keep_8, b_X10_keep_24, b_X10_keep_19, i_lit, i_m1, i_31, il_t, il_f, iq_t, iq_f, it_t, it_f, im_e, im_l, im_g, im_g2, nI_add, pk_mul, i_sub, i_div, sdm, i_dec, i_cl, iv_t, bI_or2, bI_t0, bI_one, not_true_eq_false, not_false_eq_true, ↓reduceIte, am_tl, am_tn, am_t0, am_n0, and_true, true_and, List.cons_append, List.nil_append, List.append_nil, or_true, true_or, or_false, false_or, eq_self, ior0, iand0, im_e2, oI, l_lit, lc_le, z1]
  · have z1 : (v ≤ lN 1000000) = True := eq_true (by
      rw [Int64.le_iff_toInt_le]
      rw [Int64.lt_iff_toInt_lt] at z
      omega)
    rw [if_neg z]
    by_cases y : v < -(lN 1000000)
    · have y1 : (-(lN 1000000) ≤ v) = False := eq_false (fun q => by
        rw [Int64.le_iff_toInt_le] at q
        rw [Int64.lt_iff_toInt_lt] at y
        omega)
      rw [if_pos y]
      simp (disch := first | assumption | omega | (simp only [ya_pi, ya_pj, ya_pa, ya_pr, yo_pi, yo_pj, yo_pa, yf_pi, yf_pj, yf_pa, yh_pi, yh_pj, yh_pa, yt_pi, yt_pj, yt_pa, la_pi, la_pj, la_pa]; assumption)) only [b_X10_keep_0, b_X10_keep_11, b_X10_keep_8, b_X10_keep_24, b_X10_keep_19, i_lit, i_m1, i_31, il_t, il_f, iq_t, iq_f, it_t, it_f, im_e, im_l, im_g, im_g2, nI_add, pk_mul, i_sub, i_div, sdm, i_dec, i_cl, iv_t, bI_or2, bI_t0, bI_one, not_true_eq_false, not_false_eq_true, ↓reduceIte, am_tl, am_tn, am_t0, am_n0, and_true, true_and, List.cons_append, List.nil_append, List.append_nil, or_true, true_or, or_false, false_or, eq_self, ior0, iand0, im_e2, oI, l_lit, lc_le, lc_ge, z1, y1]
    · have y1 : (-(lN 1000000) ≤ v) = True := eq_true (by
        rw [Int64.le_iff_toInt_le]
        rw [Int64.lt_iff_toInt_lt] at y
        omega)
      rw [if_neg y]
      simp (disch := first | assumption | omega | (simp only [ya_pi, ya_pj, ya_pa, ya_pr, yo_pi, yo_pj, yo_pa, yf_pi, yf_pj, yf_pa, yh_pi, yh_pj, yh_pa, yt_pi, yt_pj, yt_pa, la_pi, la_pj, la_pa]; assumption)) only [b_X10_keep_0, b_X10_keep_11, b_X10_keep_8, b_X10_keep_24, b_X10_keep_19, i_lit, i_m1, i_31, il_t, il_f, iq_t, iq_f, it_t, it_f, im_e, im_l, im_g, im_g2, nI_add, pk_mul, i_sub, i_div, sdm, i_dec, i_cl, iv_t, bI_or2, bI_t0, bI_one, not_true_eq_false, not_false_eq_true, ↓reduceIte, am_tl, am_tn, am_t0, am_n0, and_true, true_and, List.cons_append, List.nil_append, List.append_nil, or_true, true_or, or_false, false_or, eq_self, ior0, iand0, im_e2, oI, l_lit, lc_le, lc_ge, z1, y1]
theorem k_p : (lN 1000000).toInt32 = nI 1000000 := by decide
theorem k_n : (-(lN 1000000)).toInt32 = -(nI 1000000) := by decide
theorem c_keptIn {d : Nat} {Q : Option am_V → am_H → Prop} {h : am_H} {v : Int64} {l1 : Option am_V} : ex_ d 330 0 [some (v_l v), l1] [] h Q ↔ Q (some (v_i (kp v))) h := by
  unfold kp
  by_cases z : lN 1000000 < v
  · have z1 : (v ≤ lN 1000000) = False := eq_false (fun y => by
      rw [Int64.le_iff_toInt_le] at y
      rw [Int64.lt_iff_toInt_lt] at z
      omega)
    rw [if_pos z]
    simp (disch := first | assumption | omega | (simp only [ya_pi, ya_pj, ya_pa, ya_pr, yo_pi, yo_pj, yo_pa, yf_pi, yf_pj, yf_pa, yh_pi, yh_pj, yh_pa, yt_pi, yt_pj, yt_pa, la_pi, la_pj, la_pa]; assumption)) only [b_X12_keptIn_0, b_X12_keptIn_14, b_X12_keptIn_8, b_X12_keptIn_28, b_X12_keptIn_22, i_lit, i_m1, i_31, il_t, il_f, iq_t, iq_f, it_t, it_f, im_e, im_l, im_g, im_g2, nI_add, pk_mul, i_sub, i_div, sdm, i_dec, i_cl, iv_t, bI_or2, bI_t0, bI_one, not_true_eq_false, not_false_eq_true, ↓reduceIte, am_tl, am_tn, am_t0, am_n0, and_true, true_and, List.cons_append, List.nil_append, List.append_nil, or_true, true_or, or_false, false_or, eq_self, ior0, iand0, im_e2, oI, l_lit, lc_le, z1, k_p]
  · have z1 : (v ≤ lN 1000000) = True := eq_true (by
      rw [Int64.le_iff_toInt_le]
      rw [Int64.lt_iff_toInt_lt] at z
      omega)
    rw [if_neg z]
    by_cases y : v < -(lN 1000000)
    · have y1 : (-(lN 1000000) ≤ v) = False := eq_false (fun q => by
        rw [Int64.le_iff_toInt_le] at q
        rw [Int64.lt_iff_toInt_lt] at y
        omega)
      rw [if_pos y]
      simp (disch := first | assumption | omega | (simp only [ya_pi, ya_pj, ya_pa, ya_pr, yo_pi, yo_pj, yo_pa, yf_pi, yf_pj, yf_pa, yh_pi, yh_pj, yh_pa, yt_pi, yt_pj, yt_pa, la_pi, la_pj, la_pa]; assumption)) only [b_X12_keptIn_0, b_X12_keptIn_14, b_X12_keptIn_8, b_X12_keptIn_28, b_X12_keptIn_22, i_lit, i_m1, i_31, il_t, il_f, iq_t, iq_f, it_t, it_f, im_e, im_l, im_g, im_g2, nI_add, pk_mul, i_sub, i_div, sdm, i_dec, i_cl, iv_t, bI_or2, bI_t0, bI_one, not_true_eq_false, not_false_eq_true, ↓reduceIte, am_tl, am_tn, am_t0, am_n0, and_true, true_and, List.cons_append, List.nil_append, List.append_nil, or_true, true_or, or_false, false_or, eq_self, ior0, iand0, im_e2, oI, l_lit, lc_le, lc_ge, z1, y1, k_n]
    · have y1 : (-(lN 1000000) ≤ v) = True := eq_true (by
        rw [Int64.le_iff_toInt_le]
        rw [Int64.lt_iff_toInt_lt] at y
        omega)
      rw [if_neg y]
      simp (disch := first | assumption | omega | (simp only [ya_pi, ya_pj, ya_pa, ya_pr, yo_pi, yo_pj, yo_pa, yf_pi, yf_pj, yf_pa, yh_pi, yh_pj, yh_pa, yt_pi, yt_pj, yt_pa, la_pi, la_pj, la_pa]; assumption)) only [b_X12_keptIn_0, b_X12_keptIn_14, b_X12_keptIn_8, b_X12_keptIn_28, b_X12_keptIn_22, i_lit, i_m1, i_31, il_t, il_f, iq_t, iq_f, it_t, it_f, im_e, im_l, im_g, im_g2, nI_add, pk_mul, i_sub, i_div, sdm, i_dec, i_cl, iv_t, bI_or2, bI_t0, bI_one, not_true_eq_false, not_false_eq_true, ↓reduceIte, am_tl, am_tn, am_t0, am_n0, and_true, true_and, List.cons_append, List.nil_append, List.append_nil, or_true, true_or, or_false, false_or, eq_self, ior0, iand0, im_e2, oI, l_lit, lc_le, lc_ge, z1, y1]
theorem lg64 {a b : Int32} : (a.toInt64 < b.toInt64) = (a < b) := by
  apply propext
  rw [Int64.lt_iff_toInt_lt, Int32.lt_iff_toInt_lt, Int32.toInt_toInt64, Int32.toInt_toInt64]
theorem lg64e {a b : Int32} : (a.toInt64 = b.toInt64) = (a = b) := propext ⟨i_inj, fun h => by rw [h]⟩
theorem lg64l {a b : Int32} : (a.toInt64 ≤ b.toInt64) = (a ≤ b) := by
  apply propext
  rw [Int64.le_iff_toInt_le, Int32.le_iff_toInt_le, Int32.toInt_toInt64, Int32.toInt_toInt64]
theorem n_lt {a b : Int32} : (a ≤ b) = ¬ b < a := by
  apply propext
  rw [Int32.le_iff_toInt_le, Int32.lt_iff_toInt_lt]
  omega
theorem kp01 {p : Prop} [Decidable p] : kp (if p then lN 1 else lN 0) = if p then nI 1 else nI 0 := by
  by_cases z : p
  · rw [if_pos z, if_pos z]; decide
  · rw [if_neg z, if_neg z]; decide
theorem bt0 {a b : Int32} : btw 3000 a b = kp (a.toInt64 + b.toInt64) := by unfold btw; rw [if_neg (by omega), if_neg (by omega), if_neg (by omega), if_neg (by omega), if_neg (by omega), if_pos rfl]
theorem bt1 {a b : Int32} : btw 3001 a b = kp (a.toInt64 - b.toInt64) := by unfold btw; rw [if_neg (by omega), if_neg (by omega), if_neg (by omega), if_neg (by omega), if_neg (by omega), if_neg (by omega), if_pos rfl]
theorem bt2 {a b : Int32} : btw 3002 a b = kp (a.toInt64 * b.toInt64) := by unfold btw; rw [if_neg (by omega), if_neg (by omega), if_neg (by omega), if_neg (by omega), if_neg (by omega), if_neg (by omega), if_neg (by omega)]
theorem bt7 {a b : Int32} : btw 3007 a b = a &&& b := by unfold btw; rw [if_neg (by omega), if_neg (by omega), if_neg (by omega), if_pos rfl]
theorem bt8 {a b : Int32} : btw 3008 a b = a ||| b := by unfold btw; rw [if_neg (by omega), if_neg (by omega), if_neg (by omega), if_neg (by omega), if_pos rfl]
/-- what joined() tells, kept -/
theorem c_joined {d : Nat} {Q : Option am_V → am_H → Prop} {h : am_H} {code : Nat} {a b : Int32} (h1 : 3000 ≤ code) (h2 : code ≤ 3008) (h6 : ¬ code = 3006) (hb : 3007 ≤ code → (a = nI 0 ∨ a = nI 1) ∧ (b = nI 0 ∨ b = nI 1)) {l2 l4 : Option am_V} (k : ∀ v, kp v = btw code a b → Q (some (v_l v)) h) : ex_ d 151 0 [some (v_i (nI (tk code))), some (v_l a.toInt64), l2, some (v_l b.toInt64), l4] [] h Q := by
  rcases (show code = 3000 ∨ code = 3001 ∨ code = 3002 ∨ code = 3003 ∨ code = 3004 ∨ code = 3005 ∨ code = 3007 ∨ code = 3008 by omega) with rfl | rfl | rfl | rfl | rfl | rfl | rfl | rfl
  · have e : tk 3000 = 43 := by decide
    simp (disch := first | assumption | omega | (simp only [ya_pi, ya_pj, ya_pa, ya_pr, yo_pi, yo_pj, yo_pa, yf_pi, yf_pj, yf_pa, yh_pi, yh_pj, yh_pa, yt_pi, yt_pj, yt_pa, la_pi, la_pj, la_pa]; assumption)) only [b_X10_joined_0, b_X10_joined_120, b_X10_joined_76, b_X10_joined_68, b_X10_joined_72, b_X10_joined_92, b_X10_joined_80, b_X10_joined_104, b_X10_joined_116, b_X10_joined_102, b_X10_joined_98, b_X10_joined_90, b_X10_joined_86, b_X10_joined_114, b_X10_joined_110, i_lit, i_m1, i_31, il_t, il_f, iq_t, iq_f, it_t, it_f, im_e, im_l, im_g, im_g2, nI_add, pk_mul, i_sub, i_div, sdm, i_dec, i_cl, iv_t, bI_or2, bI_t0, bI_one, not_true_eq_false, not_false_eq_true, ↓reduceIte, am_tl, am_tn, am_t0, am_n0, and_true, true_and, List.cons_append, List.nil_append, List.append_nil, or_true, true_or, or_false, false_or, eq_self, ior0, iand0, im_e2, oI, e]
    exact k _ bt0.symm
  · have e : tk 3001 = 45 := by decide
    simp (disch := first | assumption | omega | (simp only [ya_pi, ya_pj, ya_pa, ya_pr, yo_pi, yo_pj, yo_pa, yf_pi, yf_pj, yf_pa, yh_pi, yh_pj, yh_pa, yt_pi, yt_pj, yt_pa, la_pi, la_pj, la_pa]; assumption)) only [b_X10_joined_0, b_X10_joined_120, b_X10_joined_76, b_X10_joined_68, b_X10_joined_72, b_X10_joined_92, b_X10_joined_80, b_X10_joined_104, b_X10_joined_116, b_X10_joined_102, b_X10_joined_98, b_X10_joined_90, b_X10_joined_86, b_X10_joined_114, b_X10_joined_110, i_lit, i_m1, i_31, il_t, il_f, iq_t, iq_f, it_t, it_f, im_e, im_l, im_g, im_g2, nI_add, pk_mul, i_sub, i_div, sdm, i_dec, i_cl, iv_t, bI_or2, bI_t0, bI_one, not_true_eq_false, not_false_eq_true, ↓reduceIte, am_tl, am_tn, am_t0, am_n0, and_true, true_and, List.cons_append, List.nil_append, List.append_nil, or_true, true_or, or_false, false_or, eq_self, ior0, iand0, im_e2, oI, e]
    exact k _ bt1.symm
  · have e : tk 3002 = 42 := by decide
    simp (disch := first | assumption | omega | (simp only [ya_pi, ya_pj, ya_pa, ya_pr, yo_pi, yo_pj, yo_pa, yf_pi, yf_pj, yf_pa, yh_pi, yh_pj, yh_pa, yt_pi, yt_pj, yt_pa, la_pi, la_pj, la_pa]; assumption)) only [b_X10_joined_0, b_X10_joined_120, b_X10_joined_76, b_X10_joined_68, b_X10_joined_72, b_X10_joined_92, b_X10_joined_80, b_X10_joined_104, b_X10_joined_116, b_X10_joined_102, b_X10_joined_98, b_X10_joined_90, b_X10_joined_86, b_X10_joined_114, b_X10_joined_110, i_lit, i_m1, i_31, il_t, il_f, iq_t, iq_f, it_t, it_f, im_e, im_l, im_g, im_g2, nI_add, pk_mul, i_sub, i_div, sdm, i_dec, i_cl, iv_t, bI_or2, bI_t0, bI_one, not_true_eq_false, not_false_eq_true, ↓reduceIte, am_tl, am_tn, am_t0, am_n0, and_true, true_and, List.cons_append, List.nil_append, List.append_nil, or_true, true_or, or_false, false_or, eq_self, ior0, iand0, im_e2, oI, e]
    exact k _ bt2.symm
  · have e : tk 3003 = 61 := by decide
    by_cases z : a = b
    · have z1 : (a = b) = True := eq_true z
      simp (disch := first | assumption | omega | (simp only [ya_pi, ya_pj, ya_pa, ya_pr, yo_pi, yo_pj, yo_pa, yf_pi, yf_pj, yf_pa, yh_pi, yh_pj, yh_pa, yt_pi, yt_pj, yt_pa, la_pi, la_pj, la_pa]; assumption)) only [b_X10_joined_0, b_X10_joined_120, b_X10_joined_76, b_X10_joined_68, b_X10_joined_72, b_X10_joined_92, b_X10_joined_80, b_X10_joined_104, b_X10_joined_116, b_X10_joined_102, b_X10_joined_98, b_X10_joined_90, b_X10_joined_86, b_X10_joined_114, b_X10_joined_110, i_lit, i_m1, i_31, il_t, il_f, iq_t, iq_f, it_t, it_f, im_e, im_l, im_g, im_g2, nI_add, pk_mul, i_sub, i_div, sdm, i_dec, i_cl, iv_t, bI_or2, bI_t0, bI_one, not_true_eq_false, not_false_eq_true, ↓reduceIte, am_tl, am_tn, am_t0, am_n0, and_true, true_and, List.cons_append, List.nil_append, List.append_nil, or_true, true_or, or_false, false_or, eq_self, ior0, iand0, im_e2, oI, l_lit, lc_eq, lg64e, e, z1]
      exact k _ (by rw [btw, if_pos rfl, if_pos z]; decide)
    · have z1 : (a = b) = False := eq_false z
      simp (disch := first | assumption | omega | (simp only [ya_pi, ya_pj, ya_pa, ya_pr, yo_pi, yo_pj, yo_pa, yf_pi, yf_pj, yf_pa, yh_pi, yh_pj, yh_pa, yt_pi, yt_pj, yt_pa, la_pi, la_pj, la_pa]; assumption)) only [b_X10_joined_0, b_X10_joined_120, b_X10_joined_76, b_X10_joined_68, b_X10_joined_72, b_X10_joined_92, b_X10_joined_80, b_X10_joined_104, b_X10_joined_116, b_X10_joined_102, b_X10_joined_98, b_X10_joined_90, b_X10_joined_86, b_X10_joined_114, b_X10_joined_110, i_lit, i_m1, i_31, il_t, il_f, iq_t, iq_f, it_t, it_f, im_e, im_l, im_g, im_g2, nI_add, pk_mul, i_sub, i_div, sdm, i_dec, i_cl, iv_t, bI_or2, bI_t0, bI_one, not_true_eq_false, not_false_eq_true, ↓reduceIte, am_tl, am_tn, am_t0, am_n0, and_true, true_and, List.cons_append, List.nil_append, List.append_nil, or_true, true_or, or_false, false_or, eq_self, ior0, iand0, im_e2, oI, l_lit, lc_eq, lg64e, e, z1]
      exact k _ (by rw [btw, if_pos rfl, if_neg z]; decide)
  · have e : tk 3004 = 60 := by decide
    by_cases z : a < b
    · have z1 : (b ≤ a) = False := eq_false (by rw [n_lt]; exact fun y => y z)
      simp (disch := first | assumption | omega | (simp only [ya_pi, ya_pj, ya_pa, ya_pr, yo_pi, yo_pj, yo_pa, yf_pi, yf_pj, yf_pa, yh_pi, yh_pj, yh_pa, yt_pi, yt_pj, yt_pa, la_pi, la_pj, la_pa]; assumption)) only [b_X10_joined_0, b_X10_joined_120, b_X10_joined_76, b_X10_joined_68, b_X10_joined_72, b_X10_joined_92, b_X10_joined_80, b_X10_joined_104, b_X10_joined_116, b_X10_joined_102, b_X10_joined_98, b_X10_joined_90, b_X10_joined_86, b_X10_joined_114, b_X10_joined_110, i_lit, i_m1, i_31, il_t, il_f, iq_t, iq_f, it_t, it_f, im_e, im_l, im_g, im_g2, nI_add, pk_mul, i_sub, i_div, sdm, i_dec, i_cl, iv_t, bI_or2, bI_t0, bI_one, not_true_eq_false, not_false_eq_true, ↓reduceIte, am_tl, am_tn, am_t0, am_n0, and_true, true_and, List.cons_append, List.nil_append, List.append_nil, or_true, true_or, or_false, false_or, eq_self, ior0, iand0, im_e2, oI, l_lit, lc_ge, lg64l, e, z1]
      exact k _ (by rw [btw, if_neg (by omega), if_pos rfl, if_pos z]; decide)
    · have z1 : (b ≤ a) = True := eq_true (by rw [n_lt]; exact z)
      simp (disch := first | assumption | omega | (simp only [ya_pi, ya_pj, ya_pa, ya_pr, yo_pi, yo_pj, yo_pa, yf_pi, yf_pj, yf_pa, yh_pi, yh_pj, yh_pa, yt_pi, yt_pj, yt_pa, la_pi, la_pj, la_pa]; assumption)) only [b_X10_joined_0, b_X10_joined_120, b_X10_joined_76, b_X10_joined_68, b_X10_joined_72, b_X10_joined_92, b_X10_joined_80, b_X10_joined_104, b_X10_joined_116, b_X10_joined_102, b_X10_joined_98, b_X10_joined_90, b_X10_joined_86, b_X10_joined_114, b_X10_joined_110, i_lit, i_m1, i_31, il_t, il_f, iq_t, iq_f, it_t, it_f, im_e, im_l, im_g, im_g2, nI_add, pk_mul, i_sub, i_div, sdm, i_dec, i_cl, iv_t, bI_or2, bI_t0, bI_one, not_true_eq_false, not_false_eq_true, ↓reduceIte, am_tl, am_tn, am_t0, am_n0, and_true, true_and, List.cons_append, List.nil_append, List.append_nil, or_true, true_or, or_false, false_or, eq_self, ior0, iand0, im_e2, oI, l_lit, lc_ge, lg64l, e, z1]
      exact k _ (by rw [btw, if_neg (by omega), if_pos rfl, if_neg z]; decide)
  · have e : tk 3005 = 62 := by decide
    by_cases z : b < a
    · have z1 : (a ≤ b) = False := eq_false (by rw [n_lt]; exact fun y => y z)
      simp (disch := first | assumption | omega | (simp only [ya_pi, ya_pj, ya_pa, ya_pr, yo_pi, yo_pj, yo_pa, yf_pi, yf_pj, yf_pa, yh_pi, yh_pj, yh_pa, yt_pi, yt_pj, yt_pa, la_pi, la_pj, la_pa]; assumption)) only [b_X10_joined_0, b_X10_joined_120, b_X10_joined_76, b_X10_joined_68, b_X10_joined_72, b_X10_joined_92, b_X10_joined_80, b_X10_joined_104, b_X10_joined_116, b_X10_joined_102, b_X10_joined_98, b_X10_joined_90, b_X10_joined_86, b_X10_joined_114, b_X10_joined_110, i_lit, i_m1, i_31, il_t, il_f, iq_t, iq_f, it_t, it_f, im_e, im_l, im_g, im_g2, nI_add, pk_mul, i_sub, i_div, sdm, i_dec, i_cl, iv_t, bI_or2, bI_t0, bI_one, not_true_eq_false, not_false_eq_true, ↓reduceIte, am_tl, am_tn, am_t0, am_n0, and_true, true_and, List.cons_append, List.nil_append, List.append_nil, or_true, true_or, or_false, false_or, eq_self, ior0, iand0, im_e2, oI, l_lit, lc_le, lg64l, e, z1]
      exact k _ (by rw [btw, if_neg (by omega), if_neg (by omega), if_pos rfl, if_pos z]; decide)
    · have z1 : (a ≤ b) = True := eq_true (by rw [n_lt]; exact z)
      simp (disch := first | assumption | omega | (simp only [ya_pi, ya_pj, ya_pa, ya_pr, yo_pi, yo_pj, yo_pa, yf_pi, yf_pj, yf_pa, yh_pi, yh_pj, yh_pa, yt_pi, yt_pj, yt_pa, la_pi, la_pj, la_pa]; assumption)) only [b_X10_joined_0, b_X10_joined_120, b_X10_joined_76, b_X10_joined_68, b_X10_joined_72, b_X10_joined_92, b_X10_joined_80, b_X10_joined_104, b_X10_joined_116, b_X10_joined_102, b_X10_joined_98, b_X10_joined_90, b_X10_joined_86, b_X10_joined_114, b_X10_joined_110, i_lit, i_m1, i_31, il_t, il_f, iq_t, iq_f, it_t, it_f, im_e, im_l, im_g, im_g2, nI_add, pk_mul, i_sub, i_div, sdm, i_dec, i_cl, iv_t, bI_or2, bI_t0, bI_one, not_true_eq_false, not_false_eq_true, ↓reduceIte, am_tl, am_tn, am_t0, am_n0, and_true, true_and, List.cons_append, List.nil_append, List.append_nil, or_true, true_or, or_false, false_or, eq_self, ior0, iand0, im_e2, oI, l_lit, lc_le, lg64l, e, z1]
      exact k _ (by rw [btw, if_neg (by omega), if_neg (by omega), if_pos rfl, if_neg z]; decide)
  · have e : tk 3007 = 216 := by decide
    obtain ⟨ha, hb⟩ := hb (by omega)
    simp (disch := first | assumption | omega | (simp only [ya_pi, ya_pj, ya_pa, ya_pr, yo_pi, yo_pj, yo_pa, yf_pi, yf_pj, yf_pa, yh_pi, yh_pj, yh_pa, yt_pi, yt_pj, yt_pa, la_pi, la_pj, la_pa]; assumption)) only [b_X10_joined_0, b_X10_joined_120, b_X10_joined_76, b_X10_joined_68, b_X10_joined_72, b_X10_joined_92, b_X10_joined_80, b_X10_joined_104, b_X10_joined_116, b_X10_joined_102, b_X10_joined_98, b_X10_joined_90, b_X10_joined_86, b_X10_joined_114, b_X10_joined_110, i_lit, i_m1, i_31, il_t, il_f, iq_t, iq_f, it_t, it_f, im_e, im_l, im_g, im_g2, nI_add, pk_mul, i_sub, i_div, sdm, i_dec, i_cl, iv_t, bI_or2, bI_t0, bI_one, not_true_eq_false, not_false_eq_true, ↓reduceIte, am_tl, am_tn, am_t0, am_n0, and_true, true_and, List.cons_append, List.nil_append, List.append_nil, or_true, true_or, or_false, false_or, eq_self, ior0, iand0, im_e2, oI, e]
    exact k _ ((b01_and ha hb).2.trans bt7.symm)
  · have e : tk 3008 = 215 := by decide
    obtain ⟨ha, hb⟩ := hb (by omega)
    simp (disch := first | assumption | omega | (simp only [ya_pi, ya_pj, ya_pa, ya_pr, yo_pi, yo_pj, yo_pa, yf_pi, yf_pj, yf_pa, yh_pi, yh_pj, yh_pa, yt_pi, yt_pj, yt_pa, la_pi, la_pj, la_pa]; assumption)) only [b_X10_joined_0, b_X10_joined_120, b_X10_joined_76, b_X10_joined_68, b_X10_joined_72, b_X10_joined_92, b_X10_joined_80, b_X10_joined_104, b_X10_joined_116, b_X10_joined_102, b_X10_joined_98, b_X10_joined_90, b_X10_joined_86, b_X10_joined_114, b_X10_joined_110, i_lit, i_m1, i_31, il_t, il_f, iq_t, iq_f, it_t, it_f, im_e, im_l, im_g, im_g2, nI_add, pk_mul, i_sub, i_div, sdm, i_dec, i_cl, iv_t, bI_or2, bI_t0, bI_one, not_true_eq_false, not_false_eq_true, ↓reduceIte, am_tl, am_tn, am_t0, am_n0, and_true, true_and, List.cons_append, List.nil_append, List.append_nil, or_true, true_or, or_false, false_or, eq_self, ior0, iand0, im_e2, oI, e]
    exact k _ ((b01_or ha hb).2.trans bt8.symm)
theorem c_between {d : Nat} {Q : Option am_V → am_H → Prop} {h : am_H} {code : Nat} {a b : Int32} (h1 : 3000 ≤ code) (h2 : code ≤ 3008) (h6 : ¬ code = 3006) : ex_ (d + 1) 331 0 [some (v_i (nI code)), some (v_i a), some (v_i b)] [] h Q ↔ Q (some (v_i (btw code a b))) h := by
  rcases (show code = 3000 ∨ code = 3001 ∨ code = 3002 ∨ code = 3003 ∨ code = 3004 ∨ code = 3005 ∨ code = 3007 ∨ code = 3008 by omega) with rfl | rfl | rfl | rfl | rfl | rfl | rfl | rfl
  · simp (disch := first | assumption | omega | (simp only [ya_pi, ya_pj, ya_pa, ya_pr, yo_pi, yo_pj, yo_pa, yf_pi, yf_pj, yf_pa, yh_pi, yh_pj, yh_pa, yt_pi, yt_pj, yt_pa, la_pi, la_pj, la_pa]; assumption)) only [b_X12_between_0, b_X12_between_81, b_X12_between_40, b_X12_between_51, b_X12_between_62, b_X12_between_73, b_X12_between_77, b_X12_between_96, b_X12_between_88, b_X12_between_49, b_X12_between_45, b_X12_between_60, b_X12_between_56, b_X12_between_71, b_X12_between_67, b_X12_between_111, b_X12_between_103, b_X12_between_119, i_lit, i_m1, i_31, il_t, il_f, iq_t, iq_f, it_t, it_f, im_e, im_l, im_g, im_g2, nI_add, pk_mul, i_sub, i_div, sdm, i_dec, i_cl, iv_t, bI_or2, bI_t0, bI_one, not_true_eq_false, not_false_eq_true, ↓reduceIte, am_tl, am_tn, am_t0, am_n0, and_true, true_and, List.cons_append, List.nil_append, List.append_nil, or_true, true_or, or_false, false_or, eq_self, ior0, iand0, im_e2, oI, c_keptIn, bt0]
  · simp (disch := first | assumption | omega | (simp only [ya_pi, ya_pj, ya_pa, ya_pr, yo_pi, yo_pj, yo_pa, yf_pi, yf_pj, yf_pa, yh_pi, yh_pj, yh_pa, yt_pi, yt_pj, yt_pa, la_pi, la_pj, la_pa]; assumption)) only [b_X12_between_0, b_X12_between_81, b_X12_between_40, b_X12_between_51, b_X12_between_62, b_X12_between_73, b_X12_between_77, b_X12_between_96, b_X12_between_88, b_X12_between_49, b_X12_between_45, b_X12_between_60, b_X12_between_56, b_X12_between_71, b_X12_between_67, b_X12_between_111, b_X12_between_103, b_X12_between_119, i_lit, i_m1, i_31, il_t, il_f, iq_t, iq_f, it_t, it_f, im_e, im_l, im_g, im_g2, nI_add, pk_mul, i_sub, i_div, sdm, i_dec, i_cl, iv_t, bI_or2, bI_t0, bI_one, not_true_eq_false, not_false_eq_true, ↓reduceIte, am_tl, am_tn, am_t0, am_n0, and_true, true_and, List.cons_append, List.nil_append, List.append_nil, or_true, true_or, or_false, false_or, eq_self, ior0, iand0, im_e2, oI, c_keptIn, bt1]
  · simp (disch := first | assumption | omega | (simp only [ya_pi, ya_pj, ya_pa, ya_pr, yo_pi, yo_pj, yo_pa, yf_pi, yf_pj, yf_pa, yh_pi, yh_pj, yh_pa, yt_pi, yt_pj, yt_pa, la_pi, la_pj, la_pa]; assumption)) only [b_X12_between_0, b_X12_between_81, b_X12_between_40, b_X12_between_51, b_X12_between_62, b_X12_between_73, b_X12_between_77, b_X12_between_96, b_X12_between_88, b_X12_between_49, b_X12_between_45, b_X12_between_60, b_X12_between_56, b_X12_between_71, b_X12_between_67, b_X12_between_111, b_X12_between_103, b_X12_between_119, i_lit, i_m1, i_31, il_t, il_f, iq_t, iq_f, it_t, it_f, im_e, im_l, im_g, im_g2, nI_add, pk_mul, i_sub, i_div, sdm, i_dec, i_cl, iv_t, bI_or2, bI_t0, bI_one, not_true_eq_false, not_false_eq_true, ↓reduceIte, am_tl, am_tn, am_t0, am_n0, and_true, true_and, List.cons_append, List.nil_append, List.append_nil, or_true, true_or, or_false, false_or, eq_self, ior0, iand0, im_e2, oI, c_keptIn, bt2]
  · by_cases z : a = b
    · have z1 : (a = b) = True := eq_true z
      rw [show btw 3003 a b = nI 1 by rw [btw, if_pos rfl, if_pos z]]
      simp (disch := first | assumption | omega | (simp only [ya_pi, ya_pj, ya_pa, ya_pr, yo_pi, yo_pj, yo_pa, yf_pi, yf_pj, yf_pa, yh_pi, yh_pj, yh_pa, yt_pi, yt_pj, yt_pa, la_pi, la_pj, la_pa]; assumption)) only [b_X12_between_0, b_X12_between_81, b_X12_between_40, b_X12_between_51, b_X12_between_62, b_X12_between_73, b_X12_between_77, b_X12_between_96, b_X12_between_88, b_X12_between_49, b_X12_between_45, b_X12_between_60, b_X12_between_56, b_X12_between_71, b_X12_between_67, b_X12_between_111, b_X12_between_103, b_X12_between_119, i_lit, i_m1, i_31, il_t, il_f, iq_t, iq_f, it_t, it_f, im_e, im_l, im_g, im_g2, nI_add, pk_mul, i_sub, i_div, sdm, i_dec, i_cl, iv_t, bI_or2, bI_t0, bI_one, not_true_eq_false, not_false_eq_true, ↓reduceIte, am_tl, am_tn, am_t0, am_n0, and_true, true_and, List.cons_append, List.nil_append, List.append_nil, or_true, true_or, or_false, false_or, eq_self, ior0, iand0, im_e2, oI, z1]
    · have z1 : (a = b) = False := eq_false z
      rw [show btw 3003 a b = nI 0 by rw [btw, if_pos rfl, if_neg z]]
      simp (disch := first | assumption | omega | (simp only [ya_pi, ya_pj, ya_pa, ya_pr, yo_pi, yo_pj, yo_pa, yf_pi, yf_pj, yf_pa, yh_pi, yh_pj, yh_pa, yt_pi, yt_pj, yt_pa, la_pi, la_pj, la_pa]; assumption)) only [b_X12_between_0, b_X12_between_81, b_X12_between_40, b_X12_between_51, b_X12_between_62, b_X12_between_73, b_X12_between_77, b_X12_between_96, b_X12_between_88, b_X12_between_49, b_X12_between_45, b_X12_between_60, b_X12_between_56, b_X12_between_71, b_X12_between_67, b_X12_between_111, b_X12_between_103, b_X12_between_119, i_lit, i_m1, i_31, il_t, il_f, iq_t, iq_f, it_t, it_f, im_e, im_l, im_g, im_g2, nI_add, pk_mul, i_sub, i_div, sdm, i_dec, i_cl, iv_t, bI_or2, bI_t0, bI_one, not_true_eq_false, not_false_eq_true, ↓reduceIte, am_tl, am_tn, am_t0, am_n0, and_true, true_and, List.cons_append, List.nil_append, List.append_nil, or_true, true_or, or_false, false_or, eq_self, ior0, iand0, im_e2, oI, z1]
  · by_cases z : a < b
    · have z1 : (b ≤ a) = False := eq_false (by rw [n_lt]; exact fun y => y z)
      rw [show btw 3004 a b = nI 1 by rw [btw, if_neg (by omega), if_pos rfl, if_pos z]]
      simp (disch := first | assumption | omega | (simp only [ya_pi, ya_pj, ya_pa, ya_pr, yo_pi, yo_pj, yo_pa, yf_pi, yf_pj, yf_pa, yh_pi, yh_pj, yh_pa, yt_pi, yt_pj, yt_pa, la_pi, la_pj, la_pa]; assumption)) only [b_X12_between_0, b_X12_between_81, b_X12_between_40, b_X12_between_51, b_X12_between_62, b_X12_between_73, b_X12_between_77, b_X12_between_96, b_X12_between_88, b_X12_between_49, b_X12_between_45, b_X12_between_60, b_X12_between_56, b_X12_between_71, b_X12_between_67, b_X12_between_111, b_X12_between_103, b_X12_between_119, i_lit, i_m1, i_31, il_t, il_f, iq_t, iq_f, it_t, it_f, im_e, im_l, im_g, im_g2, nI_add, pk_mul, i_sub, i_div, sdm, i_dec, i_cl, iv_t, bI_or2, bI_t0, bI_one, not_true_eq_false, not_false_eq_true, ↓reduceIte, am_tl, am_tn, am_t0, am_n0, and_true, true_and, List.cons_append, List.nil_append, List.append_nil, or_true, true_or, or_false, false_or, eq_self, ior0, iand0, im_e2, oI, z1]
    · have z1 : (b ≤ a) = True := eq_true (by rw [n_lt]; exact z)
      rw [show btw 3004 a b = nI 0 by rw [btw, if_neg (by omega), if_pos rfl, if_neg z]]
      simp (disch := first | assumption | omega | (simp only [ya_pi, ya_pj, ya_pa, ya_pr, yo_pi, yo_pj, yo_pa, yf_pi, yf_pj, yf_pa, yh_pi, yh_pj, yh_pa, yt_pi, yt_pj, yt_pa, la_pi, la_pj, la_pa]; assumption)) only [b_X12_between_0, b_X12_between_81, b_X12_between_40, b_X12_between_51, b_X12_between_62, b_X12_between_73, b_X12_between_77, b_X12_between_96, b_X12_between_88, b_X12_between_49, b_X12_between_45, b_X12_between_60, b_X12_between_56, b_X12_between_71, b_X12_between_67, b_X12_between_111, b_X12_between_103, b_X12_between_119, i_lit, i_m1, i_31, il_t, il_f, iq_t, iq_f, it_t, it_f, im_e, im_l, im_g, im_g2, nI_add, pk_mul, i_sub, i_div, sdm, i_dec, i_cl, iv_t, bI_or2, bI_t0, bI_one, not_true_eq_false, not_false_eq_true, ↓reduceIte, am_tl, am_tn, am_t0, am_n0, and_true, true_and, List.cons_append, List.nil_append, List.append_nil, or_true, true_or, or_false, false_or, eq_self, ior0, iand0, im_e2, oI, z1]
  · by_cases z : b < a
    · have z1 : (a ≤ b) = False := eq_false (by rw [n_lt]; exact fun y => y z)
      rw [show btw 3005 a b = nI 1 by rw [btw, if_neg (by omega), if_neg (by omega), if_pos rfl, if_pos z]]
      simp (disch := first | assumption | omega | (simp only [ya_pi, ya_pj, ya_pa, ya_pr, yo_pi, yo_pj, yo_pa, yf_pi, yf_pj, yf_pa, yh_pi, yh_pj, yh_pa, yt_pi, yt_pj, yt_pa, la_pi, la_pj, la_pa]; assumption)) only [b_X12_between_0, b_X12_between_81, b_X12_between_40, b_X12_between_51, b_X12_between_62, b_X12_between_73, b_X12_between_77, b_X12_between_96, b_X12_between_88, b_X12_between_49, b_X12_between_45, b_X12_between_60, b_X12_between_56, b_X12_between_71, b_X12_between_67, b_X12_between_111, b_X12_between_103, b_X12_between_119, i_lit, i_m1, i_31, il_t, il_f, iq_t, iq_f, it_t, it_f, im_e, im_l, im_g, im_g2, nI_add, pk_mul, i_sub, i_div, sdm, i_dec, i_cl, iv_t, bI_or2, bI_t0, bI_one, not_true_eq_false, not_false_eq_true, ↓reduceIte, am_tl, am_tn, am_t0, am_n0, and_true, true_and, List.cons_append, List.nil_append, List.append_nil, or_true, true_or, or_false, false_or, eq_self, ior0, iand0, im_e2, oI, z1]
    · have z1 : (a ≤ b) = True := eq_true (by rw [n_lt]; exact z)
      rw [show btw 3005 a b = nI 0 by rw [btw, if_neg (by omega), if_neg (by omega), if_pos rfl, if_neg z]]
      simp (disch := first | assumption | omega | (simp only [ya_pi, ya_pj, ya_pa, ya_pr, yo_pi, yo_pj, yo_pa, yf_pi, yf_pj, yf_pa, yh_pi, yh_pj, yh_pa, yt_pi, yt_pj, yt_pa, la_pi, la_pj, la_pa]; assumption)) only [b_X12_between_0, b_X12_between_81, b_X12_between_40, b_X12_between_51, b_X12_between_62, b_X12_between_73, b_X12_between_77, b_X12_between_96, b_X12_between_88, b_X12_between_49, b_X12_between_45, b_X12_between_60, b_X12_between_56, b_X12_between_71, b_X12_between_67, b_X12_between_111, b_X12_between_103, b_X12_between_119, i_lit, i_m1, i_31, il_t, il_f, iq_t, iq_f, it_t, it_f, im_e, im_l, im_g, im_g2, nI_add, pk_mul, i_sub, i_div, sdm, i_dec, i_cl, iv_t, bI_or2, bI_t0, bI_one, not_true_eq_false, not_false_eq_true, ↓reduceIte, am_tl, am_tn, am_t0, am_n0, and_true, true_and, List.cons_append, List.nil_append, List.append_nil, or_true, true_or, or_false, false_or, eq_self, ior0, iand0, im_e2, oI, z1]
  · simp (disch := first | assumption | omega | (simp only [ya_pi, ya_pj, ya_pa, ya_pr, yo_pi, yo_pj, yo_pa, yf_pi, yf_pj, yf_pa, yh_pi, yh_pj, yh_pa, yt_pi, yt_pj, yt_pa, la_pi, la_pj, la_pa]; assumption)) only [b_X12_between_0, b_X12_between_81, b_X12_between_40, b_X12_between_51, b_X12_between_62, b_X12_between_73, b_X12_between_77, b_X12_between_96, b_X12_between_88, b_X12_between_49, b_X12_between_45, b_X12_between_60, b_X12_between_56, b_X12_between_71, b_X12_between_67, b_X12_between_111, b_X12_between_103, b_X12_between_119, i_lit, i_m1, i_31, il_t, il_f, iq_t, iq_f, it_t, it_f, im_e, im_l, im_g, im_g2, nI_add, pk_mul, i_sub, i_div, sdm, i_dec, i_cl, iv_t, bI_or2, bI_t0, bI_one, not_true_eq_false, not_false_eq_true, ↓reduceIte, am_tl, am_tn, am_t0, am_n0, and_true, true_and, List.cons_append, List.nil_append, List.append_nil, or_true, true_or, or_false, false_or, eq_self, ior0, iand0, im_e2, oI, bt7]
  · simp (disch := first | assumption | omega | (simp only [ya_pi, ya_pj, ya_pa, ya_pr, yo_pi, yo_pj, yo_pa, yf_pi, yf_pj, yf_pa, yh_pi, yh_pj, yh_pa, yt_pi, yt_pj, yt_pa, la_pi, la_pj, la_pa]; assumption)) only [b_X12_between_0, b_X12_between_81, b_X12_between_40, b_X12_between_51, b_X12_between_62, b_X12_between_73, b_X12_between_77, b_X12_between_96, b_X12_between_88, b_X12_between_49, b_X12_between_45, b_X12_between_60, b_X12_between_56, b_X12_between_71, b_X12_between_67, b_X12_between_111, b_X12_between_103, b_X12_between_119, i_lit, i_m1, i_31, il_t, il_f, iq_t, iq_f, it_t, it_f, im_e, im_l, im_g, im_g2, nI_add, pk_mul, i_sub, i_div, sdm, i_dec, i_cl, iv_t, bI_or2, bI_t0, bI_one, not_true_eq_false, not_false_eq_true, ↓reduceIte, am_tl, am_tn, am_t0, am_n0, and_true, true_and, List.cons_append, List.nil_append, List.append_nil, or_true, true_or, or_false, false_or, eq_self, ior0, iand0, im_e2, oI, bt8]
