/-! ===== a frame for all: cells may come, longs and references may change ===== -/
def gf (h h' : am_H) (P J R : Nat → Nat → Prop) : Prop := h_n h ≤ h_n h' ∧ h_x h' = h_x h ∧ (∀ a, a < h_n h → h'.2.1 a = h.2.1 a) ∧ (∀ a k, a < h_n h → ¬ P a k → h_i h' a k = h_i h a k) ∧ (∀ a k, a < h_n h → ¬ J a k → h_j h' a k = h_j h a k) ∧ (∀ a k, a < h_n h → ¬ R a k → h_r h' a k = h_r h a k)
def N0 (_ _ : Nat) : Prop := False
theorem gf.rf {h : am_H} {P J R : Nat → Nat → Prop} : gf h h P J R := ⟨Nat.le_refl _, rfl, fun _ _ => rfl, fun _ _ _ _ => rfl, fun _ _ _ _ => rfl, fun _ _ _ _ => rfl⟩
theorem gf.tr {h h1 h2 : am_H} {P J R : Nat → Nat → Prop} (a : gf h h1 P J R) (b : gf h1 h2 P J R) : gf h h2 P J R := ⟨Nat.le_trans a.1 b.1, b.2.1.trans a.2.1, fun q hq => (b.2.2.1 q (Nat.lt_of_lt_of_le hq a.1)).trans (a.2.2.1 q hq), fun q k hq hp => (b.2.2.2.1 q k (Nat.lt_of_lt_of_le hq a.1) hp).trans (a.2.2.2.1 q k hq hp), fun q k hq hp => (b.2.2.2.2.1 q k (Nat.lt_of_lt_of_le hq a.1) hp).trans (a.2.2.2.2.1 q k hq hp), fun q k hq hp => (b.2.2.2.2.2 q k (Nat.lt_of_lt_of_le hq a.1) hp).trans (a.2.2.2.2.2 q k hq hp)⟩
theorem gf.le {h h1 : am_H} {P J R P' J' R' : Nat → Nat → Prop} (a : gf h h1 P J R) (hp : ∀ q k, P q k → P' q k) (hj : ∀ q k, J q k → J' q k) (hr : ∀ q k, R q k → R' q k) : gf h h1 P' J' R' := ⟨a.1, a.2.1, a.2.2.1, fun q k hq z => a.2.2.2.1 q k hq (fun y => z (hp q k y)), fun q k hq z => a.2.2.2.2.1 q k hq (fun y => z (hj q k y)), fun q k hq z => a.2.2.2.2.2 q k hq (fun y => z (hr q k y))⟩
theorem am_fr.g {h h' : am_H} {P J R : Nat → Nat → Prop} (a : am_fr h h' P) : gf h h' P J R := ⟨Nat.le_of_eq a.n.symm, a.x, fun q _ => by rw [a.2.1], fun q k _ z => a.i z, fun q k _ _ => by rw [a.j], fun q k _ _ => by rw [a.r]⟩
theorem h_j_pj {h : am_H} {o k a j : Nat} {v : Int64} : h_j (p_j h o k v) a j = if a = o ∧ j = k then v else h_j h a j := by
  unfold p_j p_b h_j am_up
  dsimp only
  by_cases z : a = o
  · subst z
    rw [if_pos rfl]
    by_cases y : j = k
    · rw [if_pos y, if_pos ⟨rfl, y⟩]
    · rw [if_neg y, if_neg (fun w => y w.2)]
  · rw [if_neg z, if_neg (fun w => z w.1)]
theorem h_r_pr {h : am_H} {o k a j : Nat} {v : Option Nat} : h_r (p_r h o k v) a j = if a = o ∧ j = k then v else h_r h a j := by
  unfold p_r p_c h_r am_up
  dsimp only
  by_cases z : a = o
  · subst z
    rw [if_pos rfl]
    by_cases y : j = k
    · rw [if_pos y, if_pos ⟨rfl, y⟩]
    · rw [if_neg y, if_neg (fun w => y w.2)]
  · rw [if_neg z, if_neg (fun w => z w.1)]
theorem hj_s {h : am_H} {o k : Nat} {v : Int64} : h_j (p_j h o k v) o k = v := by rw [h_j_pj, if_pos ⟨rfl, rfl⟩]
theorem hj_o {h : am_H} {o k a j : Nat} {v : Int64} (ha : ¬ (a = o ∧ j = k)) : h_j (p_j h o k v) a j = h_j h a j := by rw [h_j_pj, if_neg ha]
theorem hi_pj {h : am_H} {o k : Nat} {v : Int64} : h_i (p_j h o k v) = h_i h := rfl
theorem hr_pj {h : am_H} {o k : Nat} {v : Int64} : h_r (p_j h o k v) = h_r h := rfl
theorem hi_pr {h : am_H} {o k : Nat} {v : Option Nat} : h_i (p_r h o k v) = h_i h := rfl
theorem hj_pr {h : am_H} {o k : Nat} {v : Option Nat} : h_j (p_r h o k v) = h_j h := rfl
theorem gf_pj {h : am_H} {o k : Nat} {v : Int64} {P J R : Nat → Nat → Prop} (hp : J o k) : gf h (p_j h o k v) P J R := ⟨Nat.le_refl _, rfl, fun _ _ => rfl, fun _ _ _ _ => rfl, fun a j _ z => hj_o (fun w => z (by rw [w.1, w.2]; exact hp)), fun _ _ _ _ => rfl⟩
theorem gf_pr {h : am_H} {o k : Nat} {v : Option Nat} {P J R : Nat → Nat → Prop} (hp : R o k) : gf h (p_r h o k v) P J R := ⟨Nat.le_refl _, rfl, fun _ _ => rfl, fun _ _ _ _ => rfl, fun _ _ _ _ => rfl, fun a j _ z => by rw [h_r_pr, if_neg (fun w => z (by rw [w.1, w.2]; exact hp))]⟩
theorem gf_pi {h : am_H} {o k : Nat} {v : Int32} {P J R : Nat → Nat → Prop} (hp : P o k) : gf h (p_i h o k v) P J R := (am_fr_pi hp).g
theorem gf_pn {h : am_H} {k n : Nat} {P J R : Nat → Nat → Prop} : gf h (p_n h k n) P J R := by
  have ne : ∀ a, a < h_n h → ¬ a = h_n h := fun a ha => by omega
  refine ⟨Nat.le_succ _, rfl, fun a ha => ?_, fun a j ha _ => ?_, fun a j ha _ => ?_, fun a j ha _ => ?_⟩
  · show am_up h.2.1 (h_n h) (k, n) a = _
    rw [am_up_n (ne a ha)]
  · show am_up h.2.2.1 (h_n h) (fun _ => 0) a j = _
    rw [am_up_n (ne a ha)]
    rfl
  · show am_up h.2.2.2.1 (h_n h) (fun _ => 0) a j = _
    rw [am_up_n (ne a ha)]
    rfl
  · show am_up h.2.2.2.2.1 (h_n h) (fun _ => none) a j = _
    rw [am_up_n (ne a ha)]
    rfl
theorem gf.i {h h' : am_H} {P J R : Nat → Nat → Prop} (g : gf h h' P J R) {a k : Nat} (ha : a < h_n h) (hp : ¬ P a k) : h_i h' a k = h_i h a k := g.2.2.2.1 a k ha hp
theorem gf.j {h h' : am_H} {P J R : Nat → Nat → Prop} (g : gf h h' P J R) {a k : Nat} (ha : a < h_n h) (hp : ¬ J a k) : h_j h' a k = h_j h a k := g.2.2.2.2.1 a k ha hp
theorem gf.r {h h' : am_H} {P J R : Nat → Nat → Prop} (g : gf h h' P J R) {a k : Nat} (ha : a < h_n h) (hp : ¬ R a k) : h_r h' a k = h_r h a k := g.2.2.2.2.2 a k ha hp
theorem gf.c {h h' : am_H} {P J R : Nat → Nat → Prop} (g : gf h h' P J R) {o k n : Nat} (c : y_c h o k n) : y_c h' o k n := ⟨Nat.lt_of_lt_of_le c.1 g.1, by have := g.2.2.1 o c.1; unfold h_k; rw [this]; exact c.2.1, by have := g.2.2.1 o c.1; unfold h_l; rw [this]; exact c.2.2⟩
theorem gf.lay {h h' : am_H} {P J R : Nat → Nat → Prop} (g : gf h h' P J R) (hr : ∀ q ∈ y_ref, ¬ R q.1 q.2.1) (L : Lay h) : Lay h' := by
  have lt : ∀ q ∈ y_ref, q.1 < 118 := by decide
  refine ⟨Nat.le_trans L.1 g.1, fun o ho => ?_, fun q hq => ?_⟩
  · rw [g.2.2.1 o (Nat.lt_of_lt_of_le ho L.1)]
    exact L.2.1 o ho
  · rw [g.r (Nat.lt_of_lt_of_le (lt q hq) L.1) (hr q hq)]
    exact L.2.2 q hq
theorem gf.facts {h h' : am_H} {P J R : Nat → Nat → Prop} (g : gf h h' P J R) {o : Nat} (F : y_Facts h o) (hr : ∀ k, ¬ R o k) : y_Facts h' o := by
  refine ⟨fun k t hk => g.c (F.1 k hk), fun q hq => ?_⟩
  have q0 : q.1 = 0 := (show ∀ q ∈ y_Facts_r, q.1 = 0 by decide) q hq
  have c0 : o < h_n h := (F.1 0 rfl).1
  have := F.2 q hq
  rw [q0, Nat.add_zero] at this ⊢
  rw [g.r c0 (hr _)]
  exact this
theorem gf.fa {h h' : am_H} {P J R : Nat → Nat → Prop} (g : gf h h' P J R) {o : Nat} {f : fa_S} (h4 : ∀ c, (f_p f c).length ≤ 4) (F : fa_at h o f) (hp : ∀ a k, o ≤ a → a < o + 4 → ¬ P a k) (hr : ∀ k, ¬ R o k) : fa_at h' o f := by
  obtain ⟨Y, e0, e1, e2, e3, e4⟩ := F
  have c0 : o < h_n h := (Y.1 0 rfl).1
  have c1 : o + 1 < h_n h := (Y.1 1 rfl).1
  have c2 : o + 2 < h_n h := (Y.1 2 rfl).1
  have c3 : o + 3 < h_n h := (Y.1 3 rfl).1
  refine ⟨g.facts Y hr, ?_, ?_, fun c hc => ?_, fun c hc j hj => ?_, fun c m hc hm => ?_⟩
  · rw [g.i c0 (hp _ _ (Nat.le_refl _) (by omega))]; exact e0
  · rw [g.i c0 (hp _ _ (Nat.le_refl _) (by omega))]; exact e1
  · rw [g.i c1 (hp _ _ (by omega) (by omega))]; exact e2 c hc
  · rw [g.i c2 (hp _ _ (by omega) (by omega))]; exact e3 c hc j hj
  · rw [g.i c3 (hp _ _ (by omega) (by omega))]; exact e4 c m hc hm
/-- and no cell comes -/
def gj (h h' : am_H) (P J R : Nat → Nat → Prop) : Prop := h'.1 = h.1 ∧ gf h h' P J R
theorem gj.rf {h : am_H} {P J R : Nat → Nat → Prop} : gj h h P J R := ⟨rfl, gf.rf⟩
theorem gj.tr {h h1 h2 : am_H} {P J R : Nat → Nat → Prop} (a : gj h h1 P J R) (b : gj h1 h2 P J R) : gj h h2 P J R := ⟨b.1.trans a.1, a.2.tr b.2⟩
theorem gj.le {h h1 : am_H} {P J R P' J' R' : Nat → Nat → Prop} (a : gj h h1 P J R) (hp : ∀ q k, P q k → P' q k) (hj : ∀ q k, J q k → J' q k) (hr : ∀ q k, R q k → R' q k) : gj h h1 P' J' R' := ⟨a.1, a.2.le hp hj hr⟩
theorem am_fr.gj {h h' : am_H} {P J R : Nat → Nat → Prop} (a : am_fr h h' P) : gj h h' P J R := ⟨a.1, a.g⟩
theorem gj_pj {h : am_H} {o k : Nat} {v : Int64} {P J R : Nat → Nat → Prop} (hp : J o k) : gj h (p_j h o k v) P J R := ⟨rfl, gf_pj hp⟩
theorem gj_pr {h : am_H} {o k : Nat} {v : Option Nat} {P J R : Nat → Nat → Prop} (hp : R o k) : gj h (p_r h o k v) P J R := ⟨rfl, gf_pr hp⟩
theorem gj_pi {h : am_H} {o k : Nat} {v : Int32} {P J R : Nat → Nat → Prop} (hp : P o k) : gj h (p_i h o k v) P J R := ⟨rfl, gf_pi hp⟩
theorem gj.i {h h' : am_H} {P J R : Nat → Nat → Prop} (g : gj h h' P J R) {a k : Nat} (ha : a < h_n h) (hp : ¬ P a k) : h_i h' a k = h_i h a k := g.2.i ha hp
theorem gj.j {h h' : am_H} {P J R : Nat → Nat → Prop} (g : gj h h' P J R) {a k : Nat} (ha : a < h_n h) (hp : ¬ J a k) : h_j h' a k = h_j h a k := g.2.j ha hp
theorem gj.r {h h' : am_H} {P J R : Nat → Nat → Prop} (g : gj h h' P J R) {a k : Nat} (ha : a < h_n h) (hp : ¬ R a k) : h_r h' a k = h_r h a k := g.2.r ha hp
theorem gj.c {h h' : am_H} {P J R : Nat → Nat → Prop} (g : gj h h' P J R) {o k n : Nat} (c : y_c h o k n) : y_c h' o k n := g.2.c c
theorem gf.la {h h' : am_H} {P J R : Nat → Nat → Prop} (g : gf h h' P J R) {q : Nat} {l : List Nat} (A : la_at h q l) (hp : ∀ k, ¬ P q k) : la_at h' q l := ⟨g.c A.1, A.2.1, fun k hk => by rw [g.i A.1.1 (hp k)]; exact A.2.2 k hk⟩
theorem gf.or {h h' : am_H} {P J R : Nat → Nat → Prop} (g : gf h h' P J R) {o n : Nat} {T : od_T} (A : or_at h o T n) (hl : ∀ c, c < n → (T c).2.length ≤ 11) (hp : ∀ c, c < n → ¬ P (o + 1) c ∧ ¬ P (o + 2) c ∧ ∀ k, k < 11 → ¬ P (o + 3) (11 * c + k)) (hr : ∀ k, ¬ R o k) : or_at h' o T n := by
  obtain ⟨Y, m⟩ := A
  have c0 : o < h_n h := (Y.1 0 rfl).1
  have c1 : o + 1 < h_n h := (Y.1 1 rfl).1
  have c2 : o + 2 < h_n h := (Y.1 2 rfl).1
  have c3 : o + 3 < h_n h := (Y.1 3 rfl).1
  refine ⟨⟨fun k t hk => g.c (Y.1 k hk), fun q hq => ?_⟩, fun c hc => ⟨?_, ?_, fun k hk => ?_⟩⟩
  · have q0 : q.1 = 0 := (show ∀ q ∈ y_Orders_r, q.1 = 0 by decide) q hq
    rw [q0, Nat.add_zero, g.r c0 (hr _)]
    have := Y.2 q hq
    rw [q0] at this
    exact this
  · rw [g.i c1 (hp c hc).1]; exact (m c hc).1
  · rw [g.i c2 (hp c hc).2.1]; exact (m c hc).2.1
  · rw [g.i c3 ((hp c hc).2.2 k (Nat.lt_of_lt_of_le hk (hl c hc)))]; exact (m c hc).2.2 k hk
/-! ===== trays ===== -/
theorem tr_ref {h : am_H} (L : Lay h) {t : Nat} (ht : t < 4) : h_r h 83 t = some (85 + 2 * t) := by
  rcases (show t = 0 ∨ t = 1 ∨ t = 2 ∨ t = 3 by omega) with rfl | rfl | rfl | rfl
  · exact la_r L (q := (83, 0, 85)) (by decide)
  · exact la_r L (q := (83, 1, 87)) (by decide)
  · exact la_r L (q := (83, 2, 89)) (by decide)
  · exact la_r L (q := (83, 3, 91)) (by decide)
theorem tr_y {h : am_H} (L : Lay h) {t : Nat} (ht : t < 4) : y_Tray h (85 + 2 * t) := by
  have aux : ∀ o, y_tab[o]? = some (9, 3) → y_tab[o + 1]? = some (23, 40) → (o, 2, o + 1) ∈ y_ref → y_Tray h o := by
    intro o h1 h2 h3
    refine ⟨fun k t hk => ?_, fun q hq => ?_⟩
    · match k, hk with
      | 0, hk => cases hk; exact la_c L h1
      | 1, hk => cases hk; exact la_c L h2
    · rcases List.mem_singleton.1 hq with rfl
      exact la_r L h3
  rcases (show t = 0 ∨ t = 1 ∨ t = 2 ∨ t = 3 by omega) with rfl | rfl | rfl | rfl
  · exact aux 85 rfl rfl (by decide)
  · exact aux 87 rfl rfl (by decide)
  · exact aux 89 rfl rfl (by decide)
  · exact aux 91 rfl rfl (by decide)
abbrev tr_S : Type := Nat → Int32 × List Int64
def ty (h : am_H) (t : Nat) (v : Int32 × List Int64) : Prop := h_i h (85 + 2 * t) 0 = v.1 ∧ h_i h (85 + 2 * t) 1 = nI v.2.length ∧ v.2.length ≤ 40 ∧ ∀ k, k < v.2.length → h_j h (86 + 2 * t) k = v.2.getD k 0
abbrev tr_ok (x : Int32) : Prop := ¬ x < 0 ∧ x < nI 4
theorem tr_cs (x : Int32) : (∃ t, t < 4 ∧ x = nI t) ∨ ¬ tr_ok x := by
  by_cases h : x < 0
  · exact Or.inr (fun z => z.1 h)
  · obtain ⟨n, hn, rfl⟩ := nI_of h
    by_cases z : n < 4
    · exact Or.inl ⟨n, z, rfl⟩
    · exact Or.inr (fun w => z ((nI_ltI hn (by omega)).1 w.2))
theorem tr_y4 {t : Nat} (ht : t < 4) : tr_ok (nI t) := ⟨nI_pos (by omega), nI_lt ht (by omega)⟩
theorem lh_4 {x : Int32} : lh 4 x.toInt64 ↔ tr_ok x := lh_32 (n := 4) (by omega)
theorem w3 {v : Int64} : (v < lN 0 ∨ lN 3 < v) = ¬ lh 4 v := w_iff (n := 4) (by omega) (v := v)
theorem c_within_y {d : Nat} {Q : Option am_V → am_H → Prop} {h : am_H} {x a b : Nat} (h1 : a ≤ x) (h2 : x ≤ b) (hb : b < 2147483648) {l1 l3 l5 : Option am_V} : ex_ d 229 0 [some (v_l (lN x)), l1, some (v_l (lN a)), l3, some (v_l (lN b)), l5] [] h Q ↔ Q (some (v_i (nI 1))) h := by
  rw [c_within, if_neg (fun z => by
    rcases z with z | z
    · have := (pk_lLT (by omega) (by omega)).1 z
      omega
    · have := (pk_lLT (by omega) (by omega)).1 z
      omega)]
theorem c_within_n {d : Nat} {Q : Option am_V → am_H → Prop} {h : am_H} {x a b : Int64} (hx : x < a ∨ b < x) {l1 l3 l5 : Option am_V} : ex_ d 229 0 [some (v_l x), l1, some (v_l a), l3, some (v_l b), l5] [] h Q ↔ Q (some (v_i (nI 0))) h := by
  rw [c_within, if_pos hx]
theorem c_isTray_y {d : Nat} {Q : Option am_V → am_H → Prop} {h : am_H} {t : Nat} (ht : t < 4) : ex_ d 182 0 [some (v_i (nI t))] [] h Q ↔ Q (some (v_i (nI 1))) h := by
  simp (disch := first | assumption | omega | (simp only [ya_pi, ya_pj, ya_pa, ya_pr, yo_pi, yo_pj, yo_pa, yf_pi, yf_pj, yf_pa, yh_pi, yh_pj, yh_pa, yt_pi, yt_pj, yt_pa, la_pi, la_pj, la_pa]; assumption)) only [b_X11_isTray_0, b_X11_isTray_13, b_X11_isTray_4, b_X11_isTray_9, i_lit, i_m1, i_31, il_t, il_f, iq_t, iq_f, it_t, it_f, im_e, im_l, im_g, im_g2, nI_add, pk_mul, i_sub, i_div, sdm, i_dec, i_cl, iv_t, bI_or2, bI_t0, bI_one, not_true_eq_false, not_false_eq_true, ↓reduceIte, am_tl, am_tn, am_t0, am_n0, and_true, true_and, List.cons_append, List.nil_append, List.append_nil]
theorem c_isTray_n {d : Nat} {Q : Option am_V → am_H → Prop} {h : am_H} {x : Int32} (hx : ¬ tr_ok x) : ex_ d 182 0 [some (v_i x)] [] h Q ↔ Q (some (v_i (nI 0))) h := by
  by_cases h0 : x < 0
  · rw [b_X11_isTray_0, if_pos h0, b_X11_isTray_13]
    rfl
  · obtain ⟨j, hj, rfl⟩ := nI_of h0
    have : 4 ≤ j := by
      rcases Nat.lt_or_ge j 4 with z | z
      · exact absurd ⟨h0, nI_lt z (by omega)⟩ hx
      · exact z
    simp (disch := first | assumption | omega) only [b_X11_isTray_0, b_X11_isTray_13, b_X11_isTray_4, b_X11_isTray_9, i_lit, i_m1, i_31, il_t, il_f, iq_t, iq_f, it_t, it_f, im_e, im_l, im_g, im_g2, nI_add, pk_mul, i_sub, i_div, sdm, i_dec, i_cl, iv_t, bI_or2, bI_t0, bI_one, not_true_eq_false, not_false_eq_true, ↓reduceIte, am_tl, am_tn, am_t0, am_n0, and_true, true_and, List.cons_append, List.nil_append, List.append_nil]
def tC (tr : tr_S) (x : Int32) : Int32 := if tr_ok x then (if (tr x.toNatClampNeg).1 = mI then -6 else nI 0) else -2
theorem tC_n {tr : tr_S} {x : Int32} (hx : ¬ tr_ok x) : tC tr x = -2 := if_neg hx
theorem tC_m {tr : tr_S} {t : Nat} (ht : t < 4) (hs : (tr t).1 = mI) : tC tr (nI t) = -6 := by
  unfold tC
  rw [if_pos (tr_y4 ht), nI_clamp (by omega), if_pos hs]
theorem tC_y {tr : tr_S} {t : Nat} (ht : t < 4) (hs : ¬ (tr t).1 = mI) : tC tr (nI t) = nI 0 := by
  unfold tC
  rw [if_pos (tr_y4 ht), nI_clamp (by omega), if_neg hs]
theorem c_isMissing {d : Nat} {Q : Option am_V → am_H → Prop} {h : am_H} {t : Nat} {v : Int32 × List Int64} (L0 : Lay h) (ht : t < 4) (T : ty h t v) : ex_ d 142 0 [some (v_r (some (85 + 2 * t)))] [] h Q ↔ Q (some (v_i (if v.1 = mI then nI 1 else nI 0))) h := by
  have Y := tr_y L0 ht
  have e := T.1
  by_cases z : v.1 = mI
  · simp (disch := first | assumption | omega | (simp only [ya_pi, ya_pj, ya_pa, ya_pr, yo_pi, yo_pj, yo_pa, yf_pi, yf_pj, yf_pa, yh_pi, yh_pj, yh_pa, yt_pi, yt_pj, yt_pa, la_pi, la_pj, la_pa]; assumption)) only [b_X9_isMissing_0, b_X9_isMissing_12, b_X9_isMissing_8, i_lit, i_m1, i_31, il_t, il_f, iq_t, iq_f, it_t, it_f, im_e, im_l, im_g, im_g2, nI_add, pk_mul, i_sub, i_div, sdm, i_dec, i_cl, iv_t, bI_or2, bI_t0, bI_one, not_true_eq_false, not_false_eq_true, ↓reduceIte, am_tl, am_tn, am_t0, am_n0, and_true, true_and, List.cons_append, List.nil_append, List.append_nil, e, z]
  · simp (disch := first | assumption | omega | (simp only [ya_pi, ya_pj, ya_pa, ya_pr, yo_pi, yo_pj, yo_pa, yf_pi, yf_pj, yf_pa, yh_pi, yh_pj, yh_pa, yt_pi, yt_pj, yt_pa, la_pi, la_pj, la_pa]; assumption)) only [b_X9_isMissing_0, b_X9_isMissing_12, b_X9_isMissing_8, i_lit, i_m1, i_31, il_t, il_f, iq_t, iq_f, it_t, it_f, im_e, im_l, im_g, im_g2, nI_add, pk_mul, i_sub, i_div, sdm, i_dec, i_cl, iv_t, bI_or2, bI_t0, bI_one, not_true_eq_false, not_false_eq_true, ↓reduceIte, am_tl, am_tn, am_t0, am_n0, and_true, true_and, List.cons_append, List.nil_append, List.append_nil, e, z]
theorem c_trayCode {d : Nat} {Q : Option am_V → am_H → Prop} {h : am_H} {tr : tr_S} {x : Int32} (L0 : Lay h) (T : ∀ t, t < 4 → ty h t (tr t)) : ex_ (d + 1) 185 0 [some (v_r (some 0)), some (v_i x)] [] h Q ↔ Q (some (v_i (tC tr x))) h := by
  rcases tr_cs x with ⟨t, ht, rfl⟩ | hx
  · have Y := tr_y L0 ht
    have er := tr_ref L0 ht
    by_cases z : (tr t).1 = mI
    · rw [tC_m ht z]
      simp (disch := first | assumption | omega | (simp only [ya_pi, ya_pj, ya_pa, ya_pr, yo_pi, yo_pj, yo_pa, yf_pi, yf_pj, yf_pa, yh_pi, yh_pj, yh_pa, yt_pi, yt_pj, yt_pa, la_pi, la_pj, la_pa]; assumption)) only [b_X11_trayCode_0, b_X11_trayCode_4, b_X11_trayCode_10, b_X11_trayCode_7, b_X11_trayCode_16, b_X11_trayCode_19, b_X11_trayCode_27, b_X11_trayCode_22, i_lit, i_m1, i_31, il_t, il_f, iq_t, iq_f, it_t, it_f, im_e, im_l, im_g, im_g2, nI_add, pk_mul, i_sub, i_div, sdm, i_dec, i_cl, iv_t, bI_or2, bI_t0, bI_one, not_true_eq_false, not_false_eq_true, ↓reduceIte, am_tl, am_tn, am_t0, am_n0, and_true, true_and, List.cons_append, List.nil_append, List.append_nil, c_isTray_y ht, er, c_isMissing L0 ht (T t ht), z]
    · rw [tC_y ht z]
      simp (disch := first | assumption | omega | (simp only [ya_pi, ya_pj, ya_pa, ya_pr, yo_pi, yo_pj, yo_pa, yf_pi, yf_pj, yf_pa, yh_pi, yh_pj, yh_pa, yt_pi, yt_pj, yt_pa, la_pi, la_pj, la_pa]; assumption)) only [b_X11_trayCode_0, b_X11_trayCode_4, b_X11_trayCode_10, b_X11_trayCode_7, b_X11_trayCode_16, b_X11_trayCode_19, b_X11_trayCode_27, b_X11_trayCode_22, i_lit, i_m1, i_31, il_t, il_f, iq_t, iq_f, it_t, it_f, im_e, im_l, im_g, im_g2, nI_add, pk_mul, i_sub, i_div, sdm, i_dec, i_cl, iv_t, bI_or2, bI_t0, bI_one, not_true_eq_false, not_false_eq_true, ↓reduceIte, am_tl, am_tn, am_t0, am_n0, and_true, true_and, List.cons_append, List.nil_append, List.append_nil, c_isTray_y ht, er, c_isMissing L0 ht (T t ht), z]
  · rw [tC_n hx]
    simp (disch := first | assumption | omega | (simp only [ya_pi, ya_pj, ya_pa, ya_pr, yo_pi, yo_pj, yo_pa, yf_pi, yf_pj, yf_pa, yh_pi, yh_pj, yh_pa, yt_pi, yt_pj, yt_pa, la_pi, la_pj, la_pa]; assumption)) only [b_X11_trayCode_0, b_X11_trayCode_4, b_X11_trayCode_10, b_X11_trayCode_7, b_X11_trayCode_16, b_X11_trayCode_19, b_X11_trayCode_27, b_X11_trayCode_22, i_lit, i_m1, i_31, il_t, il_f, iq_t, iq_f, it_t, it_f, im_e, im_l, im_g, im_g2, nI_add, pk_mul, i_sub, i_div, sdm, i_dec, i_cl, iv_t, bI_or2, bI_t0, bI_one, not_true_eq_false, not_false_eq_true, ↓reduceIte, am_tl, am_tn, am_t0, am_n0, and_true, true_and, List.cons_append, List.nil_append, List.append_nil, c_isTray_n hx]
theorem c_noTray {d : Nat} {Q : Option am_V → am_H → Prop} {h : am_H} {tr : tr_S} {x : Int32} (L0 : Lay h) (T : ∀ t, t < 4 → rty h t (tr t).1 (tr t).2) : ex_ (d + 1) 303 0 [some (v_r (some 93)), some (v_i x)] [] h Q ↔ Q (some (v_i (tC tr x))) h := by
  rcases tr_cs x with ⟨t, ht, rfl⟩ | hx
  · have e := (T t ht).1
    by_cases z : (tr t).1 = mI
    · rw [tC_m ht z]
      simp (disch := first | assumption | omega | (simp only [ya_pi, ya_pj, ya_pa, ya_pr, yo_pi, yo_pj, yo_pa, yf_pi, yf_pj, yf_pa, yh_pi, yh_pj, yh_pa, yt_pi, yt_pj, yt_pa, la_pi, la_pj, la_pa]; assumption)) only [b_X12_noTray_0, b_X12_noTray_9, b_X12_noTray_17, b_X12_noTray_12, b_X12_noTray_32, b_X12_noTray_27, i_lit, i_m1, i_31, il_t, il_f, iq_t, iq_f, it_t, it_f, im_e, im_l, im_g, im_g2, nI_add, pk_mul, i_sub, i_div, sdm, i_dec, i_cl, iv_t, bI_or2, bI_t0, bI_one, not_true_eq_false, not_false_eq_true, ↓reduceIte, am_tl, am_tn, am_t0, am_n0, and_true, true_and, List.cons_append, List.nil_append, List.append_nil, nI_l, l_lit, c_within_y, e, z]
    · rw [tC_y ht z]
      simp (disch := first | assumption | omega | (simp only [ya_pi, ya_pj, ya_pa, ya_pr, yo_pi, yo_pj, yo_pa, yf_pi, yf_pj, yf_pa, yh_pi, yh_pj, yh_pa, yt_pi, yt_pj, yt_pa, la_pi, la_pj, la_pa]; assumption)) only [b_X12_noTray_0, b_X12_noTray_9, b_X12_noTray_17, b_X12_noTray_12, b_X12_noTray_32, b_X12_noTray_27, i_lit, i_m1, i_31, il_t, il_f, iq_t, iq_f, it_t, it_f, im_e, im_l, im_g, im_g2, nI_add, pk_mul, i_sub, i_div, sdm, i_dec, i_cl, iv_t, bI_or2, bI_t0, bI_one, not_true_eq_false, not_false_eq_true, ↓reduceIte, am_tl, am_tn, am_t0, am_n0, and_true, true_and, List.cons_append, List.nil_append, List.append_nil, nI_l, l_lit, c_within_y, e, z]
  · rw [tC_n hx]
    have : x.toInt64 < lN 0 ∨ lN 3 < x.toInt64 := by
      rw [w3]
      exact fun z => hx (lh_4.1 z)
    simp (disch := first | assumption | omega | (simp only [ya_pi, ya_pj, ya_pa, ya_pr, yo_pi, yo_pj, yo_pa, yf_pi, yf_pj, yf_pa, yh_pi, yh_pj, yh_pa, yt_pi, yt_pj, yt_pa, la_pi, la_pj, la_pa]; assumption)) only [b_X12_noTray_0, b_X12_noTray_9, b_X12_noTray_17, b_X12_noTray_12, b_X12_noTray_32, b_X12_noTray_27, i_lit, i_m1, i_31, il_t, il_f, iq_t, iq_f, it_t, it_f, im_e, im_l, im_g, im_g2, nI_add, pk_mul, i_sub, i_div, sdm, i_dec, i_cl, iv_t, bI_or2, bI_t0, bI_one, not_true_eq_false, not_false_eq_true, ↓reduceIte, am_tl, am_tn, am_t0, am_n0, and_true, true_and, List.cons_append, List.nil_append, List.append_nil, l_lit, c_within_n this]
theorem c_tAt {d : Nat} {Q : Option am_V → am_H → Prop} {h : am_H} {t k : Nat} {v : Int32 × List Int64} (L0 : Lay h) (ht : t < 4) (T : ty h t v) (hk : k < v.2.length) : ex_ d 145 0 [some (v_r (some (85 + 2 * t))), some (v_i (nI k))] [] h Q ↔ Q (some (v_l (v.2.getD k 0))) h := by
  have Y := tr_y L0 ht
  have e := T.2.2.2 k hk
  have l40 := T.2.2.1
  simp (disch := first | assumption | omega | (simp only [ya_pi, ya_pj, ya_pa, ya_pr, yo_pi, yo_pj, yo_pa, yf_pi, yf_pj, yf_pa, yh_pi, yh_pj, yh_pa, yt_pi, yt_pj, yt_pa, la_pi, la_pj, la_pa]; assumption)) only [b_X9_at_0, b_X9_at_19, b_X9_at_4, b_X9_at_10, i_lit, i_m1, i_31, il_t, il_f, iq_t, iq_f, it_t, it_f, im_e, im_l, im_g, im_g2, nI_add, pk_mul, i_sub, i_div, sdm, i_dec, i_cl, iv_t, bI_or2, bI_t0, bI_one, not_true_eq_false, not_false_eq_true, ↓reduceIte, am_tl, am_tn, am_t0, am_n0, and_true, true_and, List.cons_append, List.nil_append, List.append_nil, show 85 + 2 * t + 1 = 86 + 2 * t from by omega, e]
