/-! ===== house(), the class ===== -/
def t_hR (S : St) (m : Nat) : lR_ := zA (tz ((s_b S).take m) 0)
def t_house (S : St) (n : Int32) : Int32 × St := if ¬ n < nI 0 ∧ n ≤ nI (s_b S).length then (if (t_hR S n.toNatClampNeg).1 = 0 then (nI (t_hR S n.toNatClampNeg).2.2.2.2.2, (t_hR S n.toNatClampNeg).2.2, [], s_i S, s_t S, [], nI 0, mI) else (-30 - nI (t_hR S n.toNatClampNeg).1, s_H S, s_p S, s_i S, s_t S, [], nI (t_hR S n.toNatClampNeg).1, nI (tS (tz ((s_b S).take n.toNatClampNeg) 0) (t_hR S n.toNatClampNeg).2.1))) else (-3, S)
def hsP (q k : Nat) : Prop := rlP q k ∨ (q = 0 ∧ 1 ≤ k ∧ k ≤ 3)
theorem cI.bad {h h' : am_H} {S : St} {x y : Int32} (ok : St_ok S) (C : cI h S) (g : gf h h' hsP N0 rlR) (e1 : h_i h' 0 1 = nI 0) (e2 : h_i h' 0 2 = x) (e3 : h_i h' 0 3 = y) : cI h' (s_H S, s_p S, s_i S, s_t S, [], x, y) := by
  obtain ⟨L, O, ⟨W, e, C1, C2, C3⟩, C4, C5, C6, C7, C8⟩ := C
  have hf := ok.1.1.1
  have n10 : f_n (s_f S) ≤ 10 := hf.1.1
  have hp : ∀ a k, 10 ≤ a → ¬ hsP a k := fun a k ha z => by unfold hsP rlP at z; omega
  have hr : ∀ a k, 10 ≤ a → ¬ rlR a k := fun a k ha z => by unfold rlR at z; omega
  exact ⟨g.lay rl_ref L, g.or O (fT_l11 hf.1) (fun c hc => ⟨hp _ _ (by omega), hp _ _ (by omega), fun k hk => hp _ _ (by omega)⟩) (fun k => hr _ _ (by omega)), ⟨W, e, g.hoA ok.1 C1 (fun a k h1 h2 => hr a k (by omega)) (fun a k h1 _ => hp a k (by omega)) (fun a k h1 h2 => hp a k (by omega)), g.paA L (fun q hq => (ok.2.1.2 q hq).1) C2 (hp _ _ (by omega)) (hp _ _ (by omega)) (fun k => hr _ _ (by omega)) (fun a k h1 _ _ => ⟨hp a k (by omega), hr a k (by omega)⟩), g.imA L ok.2.2.1 C3 (fun k => hr _ _ (by omega)) (fun a k h1 _ => hp a k (by omega)) (fun a k h1 _ _ => ⟨hp a k (by omega), hr a k (by omega)⟩)⟩, g.tyA L C4 (fun a k h1 h2 => hp a k (by omega)) (fun a k h1 h2 z => z), ⟨e1, fun k hk => absurd hk (Nat.not_lt_zero _)⟩, ⟨e2, e3⟩, g.mnA L C7 (fun k _ _ => hp _ _ (by omega)) (fun k => hp _ _ (by omega)), g.ltA L C8 (fun k _ => hp _ _ (by omega))⟩
theorem g_zP {ts : List (Nat × Nat)} (G : gT ts) : ∀ m r, gZ ts 0 r → gZ ts 0 (zP ts m r) := by
  intro m
  induction m with
  | zero => intro r h; exact h
  | succ m ih =>
    intro r h
    by_cases z : r.1 = 0
    · by_cases t : tK ts r.2.1 = 1
      · rw [zP_e (Or.inr t)]; exact h
      · rw [zP_p z t]
        obtain ⟨q1, q2, q3⟩ := h.1 z
        have gi := g_zI (i := r.2.1) G q2 q3
        have gb := g_zB (g := zE ts) gi (fun z2 => g_zE G (gi.1 z2).2.1 (gi.1 z2).2.2)
        exact ih _ ⟨fun y => ⟨by have := (gb.1 y).1; omega, (gb.1 y).2⟩, gb.2⟩
    · rw [zP_e (Or.inl z)]; exact h
theorem g_zA {ts : List (Nat × Nat)} (G : gT ts) : gZ ts 0 (zA ts) := g_zP G _ _ (g_zB (g_zH G) (fun z => g_zE G ((g_zH G).1 z).2.1 ((g_zH G).1 z).2.2))
theorem gd_take {l : List Nat} {m k : Nat} (h : k < m) : (l.take m).getD k 0 = l.getD k 0 := by
  rw [List.getD_eq_getElem?_getD, List.getD_eq_getElem?_getD, List.getElem?_take_of_lt h]
def goP (a k : Nat) : Prop := hsP a k ∨ (10 ≤ a ∧ a ≤ 14) ∨ (a = 25 ∧ k = 2) ∨ sP a k
def goR (a k : Nat) : Prop := rlR a k ∨ hR 10 a k
theorem go_ref : ∀ q ∈ y_ref, ¬ goR q.1 q.2.1 := by unfold goR rlR hR; decide
theorem lwN.A {h h' : am_H} {P J R : Nat → Nat → Prop} {W : Nat → Nat} {n r r' : Nat} {c : Option (List Nat)} (A : lwN h n r c) (g : gf h h' P J R) (hn : 118 ≤ n) (hW : ∀ a, n ≤ a → W a = 0) (hp : ∀ a k, 118 ≤ a → ¬ P a k) (e : h_r h' 10 r' = h_r h 2 r) : lwA h' W 10 r' c := by
  cases c with
  | none => exact e.trans A
  | some l =>
    obtain ⟨q, a1, a2, a3⟩ := A
    exact ⟨q, e.trans a2, ⟨by omega, fun k hk => hW _ (by omega)⟩, g.la a3 (fun k => hp q k (by omega))⟩
theorem c_house {d : Nat} {Q : Option am_V → am_H → Prop} {h : am_H} {S : St} {n : Int32} (ok : St_ok S) (C : cI h S) (k : ∀ h', gC h h' → cI h' (t_house S n).2 → Q (some (v_i (t_house S n).1)) h') : ex_ (d + 64) 165 0 [some (v_r (some 0)), some (v_i n), none] [] h Q := by
  have L := C.1
  have C5 := C.2.2.2.2.1
  have lb := ok.2.2.2.1
  have tl := C5.1
  unfold t_house at k
  by_cases z1 : n < nI 0
  · rw [if_neg (fun w => w.1 z1)] at k
    have z1' : n < 0 := z1
    simp only [b_X11_house_0, if_pos z1', b_X11_house_12]
    exact k h gC.rf C
  by_cases z2 : n ≤ nI (s_b S).length
  rotate_left
  · rw [if_neg (fun w => z2 w.2)] at k
    have z1' : ¬ n < 0 := z1
    rw [b_X11_house_0 _ _ _ _, if_neg z1', b_X11_house_4 _ _ _ L, tl, if_neg z2, b_X11_house_12 _ _ _ _]
    exact k h gC.rf C
  rw [if_pos ⟨z1, z2⟩] at k
  obtain ⟨m, hm0, rfl⟩ := nI_of z1
  have hm : m ≤ (s_b S).length := (nI_leI hm0 (by omega)).1 z2
  have cm : (nI m).toNatClampNeg = m := nI_clamp (by omega)
  rw [cm] at k
  have z1' : ¬ nI m < 0 := z1
  rw [b_X11_house_0 _ _ _ _, if_neg z1', b_X11_house_4 _ _ _ L, tl, if_pos z2, b_X11_house_15 _ _ _ L]
  -- the tape is emptied, the text read
  have hl : ((s_b S).take m).length = m := by rw [List.length_take]; omega
  have hb : ∀ x ∈ (s_b S).take m, x < 256 := fun x hx => ok.2.2.2.2 x (List.mem_of_mem_take hx)
  have fr1 : am_fr h (p_i h 0 1 0) (fun q k => q = 0 ∧ k = 1) := am_fr_pi ⟨rfl, rfl⟩
  have L1 := fr1.lay L
  have e1 : h_i (p_i h 0 1 0) 0 1 = nI 0 := hi_s
  have tp : ∀ j, j < ((s_b S).take m).length → h_i (p_i h 0 1 0) 1 j = b8 (((s_b S).take m).getD j 0) := fun j hj => by
    rw [hl] at hj
    rw [fr1.i (by omega), gd_take hj]
    exact C5.2 j (by omega)
  have n1 : h_n (p_i h 0 1 0) = h_n h ∧ h_s (p_i h 0 1 0) = h_s h := ⟨rfl, rfl⟩
  generalize p_i h 0 1 0 = h1 at fr1 L1 e1 tp n1 ⊢
  have g01 : gf h h1 hsP N0 rlR := (fr1.g (J := N0) (R := rlR)).le (fun q k z => Or.inr (by omega)) (fun _ _ z => z) (fun _ _ z => z)
  have G := tz_gT hb (by omega)
  have rd := fun (Q : Option am_V → am_H → Prop) (K : lOK h1 (tz ((s_b S).take m) 0) (zA (tz ((s_b S).take m) 0)) Q) => c_read (d := d) (Q := Q) L1 hb (by omega) tp K
  rw [hl] at rd
  unfold t_hR at k
  have gz : gZ (tz ((s_b S).take m) 0) 0 (zA (tz ((s_b S).take m) 0)) := g_zA G
  generalize tz ((s_b S).take m) 0 = ts at rd k G gz
  generalize zA ts = R at rd k gz
  refine rd _ ⟨fun z h2 S2 => ?_, fun z h2 X2 => ?_⟩
  · -- all well
    rw [if_pos z] at k
    obtain ⟨q1, q2, q3⟩ := gz.1 z
    have G3 := G.2.2.1
    have L2 := S2.1.1
    obtain ⟨-, ⟨b1, b2, b3, b4, b5, b6⟩, rm, ln, f7, f8⟩ := S2
    generalize R.2.2 = H at k b1 b2 b3 b4 ln q3
    generalize R.2.1 = j at rm ln q1 q2
    have okH : ho_ok H := ⟨q3, by omega⟩
    have n15 : ¬ nI 1 = 0 := by decide
    show ex_ (d + 64) 165 32 [some (v_r (some 0)), some (v_i (nI m)), none] [v_i (nI 1)] h2 Q
    rw [b_X11_house_32 _ _ _ _ L2, if_pos n15, f7]
    have e8 : h_i (p_i h2 0 2 (nI 0)) 2 8 = mI := by simp (disch := first | assumption | omega | (simp only [ya_pi, ya_pj, ya_pa, ya_pr, yo_pi, yo_pj, yo_pa, yf_pi, yf_pj, yf_pa, yh_pi, yh_pj, yh_pa, yt_pi, yt_pj, yt_pa, la_pi, la_pj, la_pa]; assumption)) only [hi_s, hi_o, hi_k, hr_pi, hj_pi, hn_pi, hi_pas, hi_pao, hr_pa, hj_pa]; exact f8
    rw [e8]
    have fr3 : am_fr h2 (p_i (p_i h2 0 2 (nI 0)) 0 3 mI) (fun q k => q = 0 ∧ (k = 2 ∨ k = 3)) := (am_fr_pi ⟨rfl, by omega⟩).pi ⟨rfl, by omega⟩
    have u2 : h_i (p_i (p_i h2 0 2 (nI 0)) 0 3 mI) 0 2 = nI 0 := by simp (disch := first | assumption | omega | (simp only [ya_pi, ya_pj, ya_pa, ya_pr, yo_pi, yo_pj, yo_pa, yf_pi, yf_pj, yf_pa, yh_pi, yh_pj, yh_pa, yt_pi, yt_pj, yt_pa, la_pi, la_pj, la_pa]; assumption)) only [hi_s, hi_o, hi_k, hr_pi, hj_pi, hn_pi, hi_pas, hi_pao, hr_pa, hj_pa]
    have u3 : h_i (p_i (p_i h2 0 2 (nI 0)) 0 3 mI) 0 3 = mI := by simp (disch := first | assumption | omega | (simp only [ya_pi, ya_pj, ya_pa, ya_pr, yo_pi, yo_pj, yo_pa, yf_pi, yf_pj, yf_pa, yh_pi, yh_pj, yh_pa, yt_pi, yt_pj, yt_pa, la_pi, la_pj, la_pa]; assumption)) only [hi_s, hi_o, hi_k, hr_pi, hj_pi, hn_pi, hi_pas, hi_pao, hr_pa, hj_pa]
    generalize p_i (p_i h2 0 2 (nI 0)) 0 3 mI = h3 at fr3 u2 u3 ⊢
    have L3 := fr3.lay L2
    have Y3 : y_House h3 10 := or_y L3
    have F3 : fa_at h3 5 H.1 := fr3.fa b1 (fun a k h1 h2 z => by omega)
    rw [b_X11_house_67 _ _ _ L3, b_X8_moveInto_0 _ _ L3 Y3]
    refine c_copyFrom q3.1.1 (y_F L3 (Or.inr (Or.inl rfl))) F3 (by omega) (fun h4 fr4 F4 => ?_)
    have L4 := fr4.lay L3
    have Y4 : y_House h4 10 := or_y L4
    show ex_ (d + 63) 140 11 [some (v_r (some 2)), some (v_r (some 10))] [] h4 _
    rw [b_X8_moveInto_11 _ _ L4 Y4]
    -- the house's own fields
    have r11 : h_r h4 2 11 = h_r h2 2 11 := by rw [fr4.r, fr3.r]
    have r12 : h_r h4 2 12 = h_r h2 2 12 := by rw [fr4.r, fr3.r]
    have i10 : h_i h4 2 10 = nI H.2.2.2 := by rw [fr4.i (fun z => by unfold fa_P at z; omega), fr3.i (by omega)]; exact b4
    have w1 : h_r (p_i (p_r (p_r h4 10 1 (h_r h4 2 11)) 10 2 (h_r (p_r h4 10 1 (h_r h4 2 11)) 2 12)) 10 3 (h_i h4 2 10)) 10 1 = h_r h2 2 11 := by
      show h_r (p_r (p_r h4 10 1 (h_r h4 2 11)) 10 2 (h_r (p_r h4 10 1 (h_r h4 2 11)) 2 12)) 10 1 = _
      rw [h_r_pr, if_neg (by omega), h_r_pr, if_pos ⟨rfl, rfl⟩, r11]
    have w2 : h_r (p_i (p_r (p_r h4 10 1 (h_r h4 2 11)) 10 2 (h_r (p_r h4 10 1 (h_r h4 2 11)) 2 12)) 10 3 (h_i h4 2 10)) 10 2 = h_r h2 2 12 := by
      show h_r (p_r (p_r h4 10 1 (h_r h4 2 11)) 10 2 (h_r (p_r h4 10 1 (h_r h4 2 11)) 2 12)) 10 2 = _
      rw [h_r_pr, if_pos ⟨rfl, rfl⟩, h_r_pr, if_neg (by omega), r12]
    have w3 : h_i (p_i (p_r (p_r h4 10 1 (h_r h4 2 11)) 10 2 (h_r (p_r h4 10 1 (h_r h4 2 11)) 2 12)) 10 3 (h_i h4 2 10)) 10 3 = nI H.2.2.2 := by rw [hi_s, i10]
    have g45 : gf h4 (p_i (p_r (p_r h4 10 1 (h_r h4 2 11)) 10 2 (h_r (p_r h4 10 1 (h_r h4 2 11)) 2 12)) 10 3 (h_i h4 2 10)) (fun a k => a = 10 ∧ k = 3) N0 (hR 10) := ((gf_pr ⟨rfl, Or.inl rfl⟩).tr (gf_pr ⟨rfl, Or.inr rfl⟩)).tr (gf_pi ⟨rfl, rfl⟩)
    have n45 : h_n (p_i (p_r (p_r h4 10 1 (h_r h4 2 11)) 10 2 (h_r (p_r h4 10 1 (h_r h4 2 11)) 2 12)) 10 3 (h_i h4 2 10)) = h_n h4 ∧ h_s (p_i (p_r (p_r h4 10 1 (h_r h4 2 11)) 10 2 (h_r (p_r h4 10 1 (h_r h4 2 11)) 2 12)) 10 3 (h_i h4 2 10)) = h_s h4 := ⟨rfl, rfl⟩
    generalize p_i (p_r (p_r h4 10 1 (h_r h4 2 11)) 10 2 (h_r (p_r h4 10 1 (h_r h4 2 11)) 2 12)) 10 3 (h_i h4 2 10) = h5 at w1 w2 w3 g45 n45 ⊢
    have L5 : Lay h5 := g45.lay (fun q hq z => y_ref10 q hq z) L4
    have F5 : fa_at h5 11 H.1 := g45.fa (fa_len q3.1) F4 (fun a k h1 h2 z => by omega) (fun k z => by unfold hR at z; omega)
    show ex_ (d + 64) 165 78 [some (v_r (some 0)), some (v_i (nI m)), some (v_i (nI 1))] [] h5 Q
    rw [b_X11_house_78 _ _ _ L5, b_X7_forget_0 _ L5]
    have fr6 : am_fr h5 (p_i h5 25 2 0) (fun a k => a = 25 ∧ k = 2) := am_fr_pi ⟨rfl, rfl⟩
    have x2 : h_i (p_i h5 25 2 0) 25 2 = nI 0 := hi_s
    generalize p_i h5 25 2 0 = h6 at fr6 x2 ⊢
    have L6 := fr6.lay L5
    have F6 : fa_at h6 11 H.1 := fr6.fa F5 (fun a k h1 h2 z => by omega)
    show ex_ (d + 64) 165 85 [some (v_r (some 0)), some (v_i (nI m)), some (v_i (nI 1))] [] h6 Q
    rw [b_X11_house_85 _ _ _ L6]
    refine c_settleAgain L6 q3.1.1 F6 (y_O L6) (fun h7 fr7 O7 M7 T7 => ?_)
    have L7 := fr7.lay L6
    show ex_ (d + 64) 165 89 [some (v_r (some 0)), some (v_i (nI m)), some (v_i (nI 1))] [] h7 Q
    have s10 : ∀ k, ¬ sP 10 k := fun k z => by unfold sP at z; omega
    have a3 : h_i h7 10 3 = nI H.2.2.2 := by rw [fr7.i (s10 3), fr6.i (by omega)]; exact w3
    rw [b_X11_house_89 _ _ _ L7, a3]
    -- all changes in one
    have g12 : gf h1 h2 rlP N0 rlR := b5
    have G57 : gf h5 h7 (fun a k => (a = 25 ∧ k = 2) ∨ sP a k) N0 N0 := ((fr6.le (fun a k z => Or.inl z)).tr (fr7.le (fun a k z => Or.inr z))).g
    have G27 : gf h2 h7 (fun a k => (a = 0 ∧ (k = 2 ∨ k = 3)) ∨ (10 ≤ a ∧ a ≤ 14) ∨ (a = 25 ∧ k = 2) ∨ sP a k) N0 (hR 10) := (((fr3.g (J := N0) (R := hR 10)).le (fun a k z => Or.inl z) (fun _ _ z => z) (fun _ _ z => z)).tr ((fr4.g (J := N0) (R := hR 10)).le (fun a k z => Or.inr (Or.inl (by unfold fa_P at z; omega))) (fun _ _ z => z) (fun _ _ z => z))).tr ((g45.le (fun a k z => Or.inr (Or.inl (by omega))) (fun _ _ z => z) (fun _ _ z => z)).tr (G57.le (fun a k z => Or.inr (Or.inr z)) (fun _ _ z => z) (fun _ _ z => z.elim)))
    have GG : gf h h7 goP N0 goR := (g01.le (fun a k z => Or.inl z) (fun _ _ z => z) (fun _ _ z => Or.inl z)).tr ((g12.le (fun a k z => Or.inl (Or.inl z)) (fun _ _ z => z) (fun _ _ z => Or.inl z)).tr (G27.le (fun a k z => z.elim (fun y => Or.inl (Or.inr (by omega))) (fun y => Or.inr y)) (fun _ _ z => z) (fun _ _ z => Or.inr z)))
    have hp : ∀ a k, (26 ≤ a ∧ a ≤ 55) ∨ (70 ≤ a) → ¬ goP a k := fun a k ha z => by unfold goP hsP rlP sP at z; omega
    have hr : ∀ a k, 15 ≤ a → ¬ goR a k := fun a k ha z => by unfold goR rlR hR at z; omega
    obtain ⟨-, -, ⟨W, e, D1, D2, D3⟩, D4, -, -, -, -⟩ := C
    have h118 : 118 ≤ h_n h := L.1
    have hW : ∀ a, a < h_n h → (fun a => if a < h_n h then W a else 0) a = W a := fun a ha => if_pos ha
    have hW0 : ∀ a, h_n h1 ≤ a → (fun a => if a < h_n h then W a else 0) a = 0 := fun a ha => if_neg (by omega)
    have ng : ∀ a k, 118 ≤ a → ¬ ((a = 0 ∧ (k = 2 ∨ k = 3)) ∨ (10 ≤ a ∧ a ≤ 14) ∨ (a = 25 ∧ k = 2) ∨ sP a k) := fun a k ha z => by unfold sP at z; omega
    have D2' := D2.ext hW
    have D3' := D3.ext hW
    have rr : h_r h7 10 1 = h_r h2 2 11 ∧ h_r h7 10 2 = h_r h2 2 12 := ⟨by rw [fr7.r, fr6.r]; exact w1, by rw [fr7.r, fr6.r]; exact w2⟩
    refine k h7 ⟨GG.le (fun a k z => by unfold goP hsP rlP sP at z; unfold pC; omega) (fun a k z => z.elim) (fun a k z => by unfold goR rlR hR at z; unfold pC; omega), ?_, ?_⟩ ⟨L7, O7, ⟨fun a => if a < h_n h then W a else 0, e, ⟨or_y L7, ?_, b2.A G27 (by omega) hW0 ng rr.1, b3.A G27 (by omega) hW0 ng rr.2, a3⟩, ⟨?_, D2'.2.1, ?_, fun j hj => ?_, fun j hj => absurd hj (Nat.not_lt_zero _)⟩, GG.imA L ok.2.2.1 D3' (fun k => hr _ _ (by omega)) (fun a k h1 _ => hp a k (by omega)) (fun a k h1 _ _ => ⟨hp a k (by omega), hr a k (by omega)⟩)⟩, GG.tyA L D4 (fun a k h1 h2 => hp a k (by omega)) (fun a k h1 h2 z => z), ⟨?_, fun k hk => absurd hk (Nat.not_lt_zero _)⟩, ⟨?_, ?_⟩, M7, T7⟩
    · have a1 := fr7.n
      have a2 := fr6.n
      have a4 := fr4.n
      have a5 := fr3.n
      have := n45.1
      unfold rm_ at rm
      omega
    · have a1 : h_s h7 = h_s h6 := congrArg Prod.snd fr7.1
      have a2 : h_s h6 = h_s h5 := congrArg Prod.snd fr6.1
      have a4 : h_s h4 = h_s h3 := congrArg Prod.snd fr4.1
      have a5 : h_s h3 = h_s h2 := congrArg Prod.snd fr3.1
      have := n45.2
      unfold rm_ at rm
      omega
    · exact fr7.fa F6 (fun a k h1 h2 z => by unfold sP at z; omega)
    · exact (GG.i (la_n L (by decide)) (fun z => by unfold goP hsP rlP sP at z; omega)).trans D2'.1
    · rw [fr7.i (fun z => by unfold sP at z; omega)]
      exact x2
    · rw [GG.r (la_n L (by decide)) (hr _ _ (by omega))]
      rcases D2'.2.2.2.1 j hj with z | ⟨q, z, Yq, wq⟩
      · exact Or.inl z
      · refine Or.inr ⟨q, z, GG.facts Yq (fun k => hr _ _ (by have := wq.1; omega)), wq⟩
    · refine (G27.i (la_n L2 (by decide)) (fun z => by unfold sP at z; omega)).trans ((g12.i (la_n L1 (by decide)) (fun z => by unfold rlP at z; omega)).trans e1)
    · refine ((fr7.i (fun z => by unfold sP at z; omega)).trans ((fr6.i (by omega)).trans ((g45.i (la_n L4 (by decide)) (by omega)).trans ((fr4.i (fun z => by unfold fa_P at z; omega)).trans u2))))
    · refine ((fr7.i (fun z => by unfold sP at z; omega)).trans ((fr6.i (by omega)).trans ((g45.i (la_n L4 (by decide)) (by omega)).trans ((fr4.i (fun z => by unfold fa_P at z; omega)).trans u3))))
  · -- a fault
    rw [if_neg z] at k
    obtain ⟨L2, g12, rm, x7, x8⟩ := X2
    show ex_ (d + 64) 165 32 [some (v_r (some 0)), some (v_i (nI m)), none] [v_i (nI 0)] h2 Q
    have n15 : ¬ ¬ nI 0 = 0 := by decide
    rw [b_X11_house_32 _ _ _ _ L2, if_neg n15, x7]
    have e8 : h_i (p_i h2 0 2 (nI R.1)) 2 8 = nI (tS ts R.2.1) := by simp (disch := first | assumption | omega | (simp only [ya_pi, ya_pj, ya_pa, ya_pr, yo_pi, yo_pj, yo_pa, yf_pi, yf_pj, yf_pa, yh_pi, yh_pj, yh_pa, yt_pi, yt_pj, yt_pa, la_pi, la_pj, la_pa]; assumption)) only [hi_s, hi_o, hi_k, hr_pi, hj_pi, hn_pi, hi_pas, hi_pao, hr_pa, hj_pa]; exact x8
    rw [e8]
    have fr3 : am_fr h2 (p_i (p_i h2 0 2 (nI R.1)) 0 3 (nI (tS ts R.2.1))) (fun q k => q = 0 ∧ (k = 2 ∨ k = 3)) := (am_fr_pi ⟨rfl, by omega⟩).pi ⟨rfl, by omega⟩
    have u2 : h_i (p_i (p_i h2 0 2 (nI R.1)) 0 3 (nI (tS ts R.2.1))) 0 2 = nI R.1 := by simp (disch := first | assumption | omega | (simp only [ya_pi, ya_pj, ya_pa, ya_pr, yo_pi, yo_pj, yo_pa, yf_pi, yf_pj, yf_pa, yh_pi, yh_pj, yh_pa, yt_pi, yt_pj, yt_pa, la_pi, la_pj, la_pa]; assumption)) only [hi_s, hi_o, hi_k, hr_pi, hj_pi, hn_pi, hi_pas, hi_pao, hr_pa, hj_pa]
    have u3 : h_i (p_i (p_i h2 0 2 (nI R.1)) 0 3 (nI (tS ts R.2.1))) 0 3 = nI (tS ts R.2.1) := by simp (disch := first | assumption | omega | (simp only [ya_pi, ya_pj, ya_pa, ya_pr, yo_pi, yo_pj, yo_pa, yf_pi, yf_pj, yf_pa, yh_pi, yh_pj, yh_pa, yt_pi, yt_pj, yt_pa, la_pi, la_pj, la_pa]; assumption)) only [hi_s, hi_o, hi_k, hr_pi, hj_pi, hn_pi, hi_pas, hi_pao, hr_pa, hj_pa]
    generalize p_i (p_i h2 0 2 (nI R.1)) 0 3 (nI (tS ts R.2.1)) = h3 at fr3 u2 u3 ⊢
    have L3 := fr3.lay L2
    rw [b_X11_house_59 _ _ _ L3, u2]
    have GG : gf h h3 hsP N0 rlR := g01.tr ((g12.le (fun a k z => Or.inl z) (fun _ _ z => z) (fun _ _ z => z)).tr ((fr3.g (J := N0) (R := rlR)).le (fun a k z => Or.inr (by omega)) (fun _ _ z => z) (fun _ _ z => z)))
    have u1 : h_i h3 0 1 = nI 0 := by
      rw [fr3.i (by omega)]
      exact (g12.i (la_n L1 (by decide)) (fun z => by unfold rlP at z; omega)).trans e1
    have a5 := fr3.n
    have a6 : h_s h3 = h_s h2 := congrArg Prod.snd fr3.1
    unfold rm_ at rm
    exact k h3 ⟨GG.le (fun a k z => by unfold hsP rlP at z; unfold pC; omega) (fun a k z => z.elim) (fun a k z => by unfold rlR at z; unfold pC; omega), by omega, by omega⟩ (C.bad ok GG u1 u2 u3)
