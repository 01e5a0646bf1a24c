theorem thr_0 {f : fa_S} {seen : Option (List Nat)} {c m : Nat} : thr f seen c m 0 = if (trl f seen c m (f_m f)).length = 0 then none else some ((fT f c).2.getD ((trl f seen c m (f_m f)).getD 0 0) 0) := by
  unfold thr
  cases trl f seen c m (f_m f) with
  | nil => rfl
  | cons x l => rfl
theorem c_rServes {d : Nat} {Q : Option am_V → am_H → Prop} {h : am_H} {f : fa_S} {says seen : Option (List Nat)} (G : hk f says seen) (R : rH h f says seen) {c m : Int32} {l3 l4 : Option am_V} (k : ∀ h', am_fr h h' rS → Q (some (v_i (a_serves f seen c m))) h') : ex_ (d + 6) 339 0 [some (v_r (some 93)), some (v_i c), some (v_i m), l3, l4] [] h Q := by
  have ok := G.1.1
  have L0 := R.1.1
  have hn := ok.1
  have fr0 : am_fr h (p_i h 93 0 (nI 0)) rS := am_fr_pi (by unfold rS; omega)
  have R0 : rH (p_i h 93 0 (nI 0)) f says seen := R.fr ok fr0
  have F0 := R0.1
  unfold a_serves at k
  rcases fa_cs hn c with ⟨a, ha, rfl⟩ | hc
  · have hh : fa_has (f_n f) (nI a) := (fa_has_iff hn).2 ⟨a, ha, rfl⟩
    rcases me_cs m with ⟨j, hj, rfl⟩ | hm
    · rw [if_pos ⟨hh, nI_pos (by omega), nI_lt hj (by omega)⟩, nI_clamp (show a < 2147483648 by omega), nI_clamp (show j < 2147483648 by omega)] at k
      simp (disch := first | assumption | omega | (simp only [ya_pi, ya_pj, ya_pa, ya_pr, yo_pi, yo_pj, yo_pa, yf_pi, yf_pj, yf_pa, yh_pi, yh_pj, yh_pa, yt_pi, yt_pj, yt_pa, la_pi, la_pj, la_pa]; assumption)) only [b_X12_serves_0, b_X12_serves_11, b_X12_serves_22, b_X12_serves_14, b_X12_serves_19, b_X12_serves_25, b_X12_serves_29, b_X12_serves_105, b_X12_serves_45, b_X12_serves_60, b_X12_serves_96, b_X12_serves_68, b_X12_serves_89, i_lit, i_m1, i_31, il_t, il_f, iq_t, iq_f, it_t, it_f, im_e, im_l, im_g, im_g2, nI_add, pk_mul, i_sub, i_div, sdm, i_dec, i_cl, iv_t, bI_or2, bI_t0, bI_one, not_true_eq_false, not_false_eq_true, ↓reduceIte, am_tl, am_tn, am_t0, am_n0, and_true, true_and, List.cons_append, List.nil_append, List.append_nil, or_true, true_or, or_false, false_or, eq_self, ior0, iand0, im_e2, oI, nI_l, c_isClass_y ok F0 ha, c_rMethod_y hj]
      refine c_laysOrders ok F0 (fun h1 fr1 (A1 : ra h1 (fT f) (f_n f)) => ?_)
      have fr1' := fr0.tr (fr1.le (fun a k (z : rA a k) => z.S))
      simp (disch := first | assumption | omega | (simp only [ya_pi, ya_pj, ya_pa, ya_pr, yo_pi, yo_pj, yo_pa, yf_pi, yf_pj, yf_pa, yh_pi, yh_pj, yh_pa, yt_pi, yt_pj, yt_pa, la_pi, la_pj, la_pa]; assumption)) only [b_X12_serves_0, b_X12_serves_11, b_X12_serves_22, b_X12_serves_14, b_X12_serves_19, b_X12_serves_25, b_X12_serves_29, b_X12_serves_105, b_X12_serves_45, b_X12_serves_60, b_X12_serves_96, b_X12_serves_68, b_X12_serves_89, i_lit, i_m1, i_31, il_t, il_f, iq_t, iq_f, it_t, it_f, im_e, im_l, im_g, im_g2, nI_add, pk_mul, i_sub, i_div, sdm, i_dec, i_cl, iv_t, bI_or2, bI_t0, bI_one, not_true_eq_false, not_false_eq_true, ↓reduceIte, am_tl, am_tn, am_t0, am_n0, and_true, true_and, List.cons_append, List.nil_append, List.append_nil, or_true, true_or, or_false, false_or, eq_self, ior0, iand0, im_e2, oI]
      have st := lp_up (d := d + 6) (k := 339) (pc := 34) (Q := Q) (f_n f) (fun i (_ : Unit) => [some (v_r (some 93)), some (v_i (nI a)), some (v_i (nI j)), some (v_i (nI (bs (bl (svP f seen a j) i)))), some (v_i (nI i))]) (fun i _ h' => am_fr h h' rS ∧ ra h' (fT f) (f_n f)) ?_ ?_ (Nat.zero_le _) (s := ()) (h := h1) ⟨fr1', A1⟩
      · rw [bl_0] at st
        exact st
      · rintro i - h2 hi ⟨fr2, A2⟩ nx
        have R2 : rH h2 f says seen := R.fr ok fr2
        have L2 := A2.1
        have en := R2.1.2.1
        have em : h_i h2 94 138 = f_m f := R2.1.2.2.2.2.2
        have ho := fT_ok ok i hi
        rw [b_X12_serves_34 _ _ _ _ _ L2]
        simp (disch := first | assumption | omega | (simp only [ya_pi, ya_pj, ya_pa, ya_pr, yo_pi, yo_pj, yo_pa, yf_pi, yf_pj, yf_pa, yh_pi, yh_pj, yh_pa, yt_pi, yt_pj, yt_pa, la_pi, la_pj, la_pa]; assumption)) only [b_X12_serves_0, b_X12_serves_11, b_X12_serves_22, b_X12_serves_14, b_X12_serves_19, b_X12_serves_25, b_X12_serves_29, b_X12_serves_105, b_X12_serves_45, b_X12_serves_60, b_X12_serves_96, b_X12_serves_68, b_X12_serves_89, i_lit, i_m1, i_31, il_t, il_f, iq_t, iq_f, it_t, it_f, im_e, im_l, im_g, im_g2, nI_add, pk_mul, i_sub, i_div, sdm, i_dec, i_cl, iv_t, bI_or2, bI_t0, bI_one, not_true_eq_false, not_false_eq_true, ↓reduceIte, am_tl, am_tn, am_t0, am_n0, and_true, true_and, List.cons_append, List.nil_append, List.append_nil, or_true, true_or, or_false, false_or, eq_self, ior0, iand0, im_e2, oI, en, em]
        refine c_laysCall G.1 R2.1 A2 R2.2.2 G.2.2 hi hj (fun h3 fr3 e35 r112 => ?_)
        have L3 : Lay h3 := fr3.lay L2
        have A3 : ra h3 (fT f) (f_n f) := A2.fr (fT_ok ok) fr3 (fun a k _ _ => by unfold rV; omega)
        have nxt := nx () h3 ⟨fr2.tr (fr3.le (fun a k z => z.S)), A3⟩
        have t0 := thr_0 (f := f) (seen := seen) (c := i) (m := j)
        have hlen : (trl f seen i j (f_m f)).length ≤ 10 := Nat.le_trans trc_len ho.2.2.2.2
        by_cases z : (trl f seen i j (f_m f)).length = 0
        · rw [if_pos z] at t0
          rw [bl_n (show svP f seen a j i = false by unfold svP; rw [t0]; rfl)] at nxt
          simp (disch := first | assumption | omega | (simp only [ya_pi, ya_pj, ya_pa, ya_pr, yo_pi, yo_pj, yo_pa, yf_pi, yf_pj, yf_pa, yh_pi, yh_pj, yh_pa, yt_pi, yt_pj, yt_pa, la_pi, la_pj, la_pa]; assumption)) only [b_X12_serves_0, b_X12_serves_11, b_X12_serves_22, b_X12_serves_14, b_X12_serves_19, b_X12_serves_25, b_X12_serves_29, b_X12_serves_105, b_X12_serves_45, b_X12_serves_60, b_X12_serves_96, b_X12_serves_68, b_X12_serves_89, i_lit, i_m1, i_31, il_t, il_f, iq_t, iq_f, it_t, it_f, im_e, im_l, im_g, im_g2, nI_add, pk_mul, i_sub, i_div, sdm, i_dec, i_cl, iv_t, bI_or2, bI_t0, bI_one, not_true_eq_false, not_false_eq_true, ↓reduceIte, am_tl, am_tn, am_t0, am_n0, and_true, true_and, List.cons_append, List.nil_append, List.append_nil, or_true, true_or, or_false, false_or, eq_self, ior0, iand0, im_e2, oI, e35]
          exact nxt
        · rw [if_neg z] at t0
          have z0 : 0 < (trl f seen i j (f_m f)).length := by omega
          have e112 := r112 0 z0
          rw [Nat.zero_add] at e112
          have kl := trl_lt (gd_mem z0)
          have e99 := (A3.2 i hi).2.2 _ kl
          have x10 := ho.2.2.2.1 _ (gd_mem kl)
          have l10 := ho.2.2.2.2
          generalize (trl f seen i j (f_m f)).getD 0 0 = k0 at e112 kl e99 x10 t0
          generalize (fT f i).2.getD k0 0 = x at e99 x10 t0
          by_cases y : x = a
          · rw [bl_y (show svP f seen a j i = true by unfold svP; rw [t0, y]; exact beq_iff_eq.2 rfl)] at nxt
            simp (disch := first | assumption | omega | (simp only [ya_pi, ya_pj, ya_pa, ya_pr, yo_pi, yo_pj, yo_pa, yf_pi, yf_pj, yf_pa, yh_pi, yh_pj, yh_pa, yt_pi, yt_pj, yt_pa, la_pi, la_pj, la_pa]; assumption)) only [b_X12_serves_0, b_X12_serves_11, b_X12_serves_22, b_X12_serves_14, b_X12_serves_19, b_X12_serves_25, b_X12_serves_29, b_X12_serves_105, b_X12_serves_45, b_X12_serves_60, b_X12_serves_96, b_X12_serves_68, b_X12_serves_89, i_lit, i_m1, i_31, il_t, il_f, iq_t, iq_f, it_t, it_f, im_e, im_l, im_g, im_g2, nI_add, pk_mul, i_sub, i_div, sdm, i_dec, i_cl, iv_t, bI_or2, bI_t0, bI_one, not_true_eq_false, not_false_eq_true, ↓reduceIte, am_tl, am_tn, am_t0, am_n0, and_true, true_and, List.cons_append, List.nil_append, List.append_nil, or_true, true_or, or_false, false_or, eq_self, ior0, iand0, im_e2, oI, e35, e112, e99, i_31]
            exact nxt
          · rw [bl_n (show svP f seen a j i = false by unfold svP; rw [t0]; exact beq_eq_false_iff_ne.2 (fun w => y (Option.some.inj w)))] at nxt
            simp (disch := first | assumption | omega | (simp only [ya_pi, ya_pj, ya_pa, ya_pr, yo_pi, yo_pj, yo_pa, yf_pi, yf_pj, yf_pa, yh_pi, yh_pj, yh_pa, yt_pi, yt_pj, yt_pa, la_pi, la_pj, la_pa]; assumption)) only [b_X12_serves_0, b_X12_serves_11, b_X12_serves_22, b_X12_serves_14, b_X12_serves_19, b_X12_serves_25, b_X12_serves_29, b_X12_serves_105, b_X12_serves_45, b_X12_serves_60, b_X12_serves_96, b_X12_serves_68, b_X12_serves_89, i_lit, i_m1, i_31, il_t, il_f, iq_t, iq_f, it_t, it_f, im_e, im_l, im_g, im_g2, nI_add, pk_mul, i_sub, i_div, sdm, i_dec, i_cl, iv_t, bI_or2, bI_t0, bI_one, not_true_eq_false, not_false_eq_true, ↓reduceIte, am_tl, am_tn, am_t0, am_n0, and_true, true_and, List.cons_append, List.nil_append, List.append_nil, or_true, true_or, or_false, false_or, eq_self, ior0, iand0, im_e2, oI, e35, e112, e99]
            exact nxt
      · rintro - h2 ⟨fr2, A2⟩
        have R2 : rH h2 f says seen := R.fr ok fr2
        have L2 := A2.1
        have en := R2.1.2.1
        rw [b_X12_serves_34 _ _ _ _ _ L2]
        simp (disch := first | assumption | omega | (simp only [ya_pi, ya_pj, ya_pa, ya_pr, yo_pi, yo_pj, yo_pa, yf_pi, yf_pj, yf_pa, yh_pi, yh_pj, yh_pa, yt_pi, yt_pj, yt_pa, la_pi, la_pj, la_pa]; assumption)) only [b_X12_serves_0, b_X12_serves_11, b_X12_serves_22, b_X12_serves_14, b_X12_serves_19, b_X12_serves_25, b_X12_serves_29, b_X12_serves_105, b_X12_serves_45, b_X12_serves_60, b_X12_serves_96, b_X12_serves_68, b_X12_serves_89, i_lit, i_m1, i_31, il_t, il_f, iq_t, iq_f, it_t, it_f, im_e, im_l, im_g, im_g2, nI_add, pk_mul, i_sub, i_div, sdm, i_dec, i_cl, iv_t, bI_or2, bI_t0, bI_one, not_true_eq_false, not_false_eq_true, ↓reduceIte, am_tl, am_tn, am_t0, am_n0, and_true, true_and, List.cons_append, List.nil_append, List.append_nil, or_true, true_or, or_false, false_or, eq_self, ior0, iand0, im_e2, oI, en]
        exact k h2 fr2
    · rw [if_neg (fun z => hm z.2)] at k
      simp (disch := first | assumption | omega | (simp only [ya_pi, ya_pj, ya_pa, ya_pr, yo_pi, yo_pj, yo_pa, yf_pi, yf_pj, yf_pa, yh_pi, yh_pj, yh_pa, yt_pi, yt_pj, yt_pa, la_pi, la_pj, la_pa]; assumption)) only [b_X12_serves_0, b_X12_serves_11, b_X12_serves_22, b_X12_serves_14, b_X12_serves_19, b_X12_serves_25, b_X12_serves_29, b_X12_serves_105, b_X12_serves_45, b_X12_serves_60, b_X12_serves_96, b_X12_serves_68, b_X12_serves_89, i_lit, i_m1, i_31, il_t, il_f, iq_t, iq_f, it_t, it_f, im_e, im_l, im_g, im_g2, nI_add, pk_mul, i_sub, i_div, sdm, i_dec, i_cl, iv_t, bI_or2, bI_t0, bI_one, not_true_eq_false, not_false_eq_true, ↓reduceIte, am_tl, am_tn, am_t0, am_n0, and_true, true_and, List.cons_append, List.nil_append, List.append_nil, or_true, true_or, or_false, false_or, eq_self, ior0, iand0, im_e2, oI, nI_l, c_isClass_y ok F0 ha, c_rMethod_n (lh_8 hm)]
      exact k _ fr0
  · rw [if_neg (fun z => hc z.1)] at k
    simp (disch := first | assumption | omega | (simp only [ya_pi, ya_pj, ya_pa, ya_pr, yo_pi, yo_pj, yo_pa, yf_pi, yf_pj, yf_pa, yh_pi, yh_pj, yh_pa, yt_pi, yt_pj, yt_pa, la_pi, la_pj, la_pa]; assumption)) only [b_X12_serves_0, b_X12_serves_11, b_X12_serves_22, b_X12_serves_14, b_X12_serves_19, b_X12_serves_25, b_X12_serves_29, b_X12_serves_105, b_X12_serves_45, b_X12_serves_60, b_X12_serves_96, b_X12_serves_68, b_X12_serves_89, i_lit, i_m1, i_31, il_t, il_f, iq_t, iq_f, it_t, it_f, im_e, im_l, im_g, im_g2, nI_add, pk_mul, i_sub, i_div, sdm, i_dec, i_cl, iv_t, bI_or2, bI_t0, bI_one, not_true_eq_false, not_false_eq_true, ↓reduceIte, am_tl, am_tn, am_t0, am_n0, and_true, true_and, List.cons_append, List.nil_append, List.append_nil, or_true, true_or, or_false, false_or, eq_self, ior0, iand0, im_e2, oI, c_isClass_32 ok F0 hc]
    exact k _ fr0
/-! ===== dead definitions ===== -/
/-- who stands on the way of a call -/
def pas (f : fa_S) (seen : Option (List Nat)) (c m : Nat) : List Nat := (trl f seen c m (f_m f)).map (fun k => (fT f c).2.getD k 0)
def rch (f : fa_S) (seen : Option (List Nat)) (m n x : Nat) : Bool := (List.range n).any (fun c => (pas f seen c m).contains x)
theorem rch_s {f : fa_S} {seen : Option (List Nat)} {m n x : Nat} : rch f seen m (n + 1) x = (rch f seen m n x || (pas f seen n m).contains x) := by
  unfold rch
  rw [List.range_succ, List.any_append]
  simp
theorem pas_lt {f : fa_S} (ok : fa_ok f) {seen : Option (List Nat)} {c m x : Nat} (hc : c < f_n f) (h : x ∈ pas f seen c m) : x < 10 := by
  obtain ⟨j, hj, rfl⟩ := List.mem_map.1 h
  exact (fT_ok ok c hc).2.2.2.1 _ (gd_mem (trl_lt hj))
def ddP (f : fa_S) (seen : Option (List Nat)) (t : Nat) : Bool := decide (t % 10 < 8) && !(f_d f (t / 10) (t % 10) == nI 0) && !rch f seen (t % 10) (f_n f) (t / 10)
def a_dead (f : fa_S) (seen : Option (List Nat)) : Int32 := nI (ct (ddP f seen) 100)
def a_firstDead (f : fa_S) (seen : Option (List Nat)) : Int32 := oI (fi (ddP f seen) 100 0)
theorem pas_gd {f : fa_S} {seen : Option (List Nat)} {c m i : Nat} (h : i < (trl f seen c m (f_m f)).length) : (pas f seen c m).getD i 0 = (fT f c).2.getD ((trl f seen c m (f_m f)).getD i 0) 0 := by
  unfold pas
  rw [List.getD_eq_getElem?_getD, List.getElem?_map, List.getElem?_eq_getElem h, List.getD_eq_getElem?_getD (l := trl f seen c m (f_m f)), List.getElem?_eq_getElem h]
  rfl
theorem pas_len {f : fa_S} {seen : Option (List Nat)} {c m : Nat} : (pas f seen c m).length = (trl f seen c m (f_m f)).length := List.length_map _
theorem brc_s {f : fa_S} {seen : Option (List Nat)} {m n : Nat} {l : List Nat} {x : Nat} : nI (bs (fun y => rch f seen m n y || l.contains y)) ||| nI (bs (fun y => decide (y = x))) = nI (bs (fun y => rch f seen m n y || (l ++ [x]).contains y)) := by
  rw [bI_or2]
  refine congrArg nI (bs_ext (fun y _ => ?_))
  rw [Bool.or_assoc]
  congr 1
  rw [Bool.eq_iff_iff]
  simp
theorem brc_0 {f : fa_S} {seen : Option (List Nat)} {m n : Nat} : bs (fun y => rch f seen m n y || ([] : List Nat).contains y) = bs (rch f seen m n) := bs_ext (fun y _ => by simp)
theorem brc_e {f : fa_S} {seen : Option (List Nat)} {m n : Nat} : bs (fun y => rch f seen m n y || (pas f seen n m).contains y) = bs (rch f seen m (n + 1)) := bs_ext (fun y _ => by rw [rch_s])
def vM (a k : Nat) : Prop := vF a k ∨ a = 53
theorem vM.S {a k : Nat} (z : vM a k) : cS a k := by unfold vM vF at z; unfold cS; omega
theorem c_markReached {d : Nat} {Q : Option am_V → am_H → Prop} {h : am_H} {f : fa_S} {says seen : Option (List Nat)} (G : hk f says seen) (C : cH h f says seen) {l1 l2 l3 : Option am_V} (k : ∀ h', am_fr h h' vM → (∀ m, m < 8 → h_i h' 53 m = nI (bs (rch f seen m (f_n f)))) → Q none h') : ex_ (d + 4) 159 0 [some (v_r (some 51)), l1, l2, l3] [] h Q := by
  have ok := G.1.1
  have hn := ok.1
  have L0 := C.1.1
  simp (disch := first | assumption | omega | (simp only [ya_pi, ya_pj, ya_pa, ya_pr, yo_pi, yo_pj, yo_pa, yf_pi, yf_pj, yf_pa, yh_pi, yh_pj, yh_pa, yt_pi, yt_pj, yt_pa, la_pi, la_pj, la_pa]; assumption)) only [b_X10_markReached_0, b_X10_markReached_8, b_X10_markReached_92, b_X10_markReached_24, b_X10_markReached_86, b_X10_markReached_32, b_X10_markReached_48, b_X10_markReached_80, b_X10_markReached_58, b_X10_markReached_71, i_lit, i_m1, i_31, il_t, il_f, iq_t, iq_f, it_t, it_f, im_e, im_l, im_g, im_g2, nI_add, pk_mul, i_sub, i_div, sdm, i_dec, i_cl, iv_t, bI_or2, bI_t0, bI_one, not_true_eq_false, not_false_eq_true, ↓reduceIte, am_tl, am_tn, am_t0, am_n0, and_true, true_and, List.cons_append, List.nil_append, List.append_nil, or_true, true_or, or_false, false_or, eq_self, ior0, iand0, im_e2, oI]
  refine c_fill (la_y L0 rfl) (by omega) (fun h1 fr1 e1 => ?_)
  simp (disch := first | assumption | omega | (simp only [ya_pi, ya_pj, ya_pa, ya_pr, yo_pi, yo_pj, yo_pa, yf_pi, yf_pj, yf_pa, yh_pi, yh_pj, yh_pa, yt_pi, yt_pj, yt_pa, la_pi, la_pj, la_pa]; assumption)) only [b_X10_markReached_0, b_X10_markReached_8, b_X10_markReached_92, b_X10_markReached_24, b_X10_markReached_86, b_X10_markReached_32, b_X10_markReached_48, b_X10_markReached_80, b_X10_markReached_58, b_X10_markReached_71, i_lit, i_m1, i_31, il_t, il_f, iq_t, iq_f, it_t, it_f, im_e, im_l, im_g, im_g2, nI_add, pk_mul, i_sub, i_div, sdm, i_dec, i_cl, iv_t, bI_or2, bI_t0, bI_one, not_true_eq_false, not_false_eq_true, ↓reduceIte, am_tl, am_tn, am_t0, am_n0, and_true, true_and, List.cons_append, List.nil_append, List.append_nil, or_true, true_or, or_false, false_or, eq_self, ior0, iand0, im_e2, oI]
  refine lp_up (f_n f) (fun i (s : Option am_V × Option am_V) => [some (v_r (some 51)), some (v_i (nI i)), s.1, s.2]) (fun i _ h' => am_fr h h' vM ∧ ∀ m, m < 8 → h_i h' 53 m = nI (bs (rch f seen m i))) ?_ ?_ (Nat.zero_le _) ⟨fr1.le (fun a k z => Or.inr z), fun m hm => by rw [e1 m hm]; exact congrArg nI bs_0.symm⟩ (s := (l2, l3))
  · rintro i ⟨l2, l3⟩ h2 hi ⟨fr2, e2⟩ nx
    dsimp only
    have C2 : cH h2 f says seen := C.fr ok (fr2.le (fun a k z => z.S))
    have L2 := C2.1.1
    have en := C2.1.2.1.2.1
    have ho := fT_ok ok i hi
    rw [b_X10_markReached_10 _ _ _ _ L2]
    simp (disch := first | assumption | omega | (simp only [ya_pi, ya_pj, ya_pa, ya_pr, yo_pi, yo_pj, yo_pa, yf_pi, yf_pj, yf_pa, yh_pi, yh_pj, yh_pa, yt_pi, yt_pj, yt_pa, la_pi, la_pj, la_pa]; assumption)) only [b_X10_markReached_0, b_X10_markReached_8, b_X10_markReached_92, b_X10_markReached_24, b_X10_markReached_86, b_X10_markReached_32, b_X10_markReached_48, b_X10_markReached_80, b_X10_markReached_58, b_X10_markReached_71, i_lit, i_m1, i_31, il_t, il_f, iq_t, iq_f, it_t, it_f, im_e, im_l, im_g, im_g2, nI_add, pk_mul, i_sub, i_div, sdm, i_dec, i_cl, iv_t, bI_or2, bI_t0, bI_one, not_true_eq_false, not_false_eq_true, ↓reduceIte, am_tl, am_tn, am_t0, am_n0, and_true, true_and, List.cons_append, List.nil_append, List.append_nil, or_true, true_or, or_false, false_or, eq_self, ior0, iand0, im_e2, oI, en]
    refine lp_up 8 (fun m (l3 : Option am_V) => [some (v_r (some 51)), some (v_i (nI i)), some (v_i (nI m)), l3]) (fun m _ h' => am_fr h h' vM ∧ (∀ q, q < m → h_i h' 53 q = nI (bs (rch f seen q (i + 1)))) ∧ ∀ q, m ≤ q → q < 8 → h_i h' 53 q = nI (bs (rch f seen q i))) ?_ ?_ (Nat.zero_le _) ⟨fr2, fun q hq => absurd hq (Nat.not_lt_zero _), fun q _ hq => e2 q hq⟩
    · rintro m l3 h3 hm ⟨fr3, e3, e4⟩ nx2
      have C3 : cH h3 f says seen := C.fr ok (fr3.le (fun a k z => z.S))
      have L3 := C3.1.1
      have em := C3.1.2.1.2.2.1
      rw [b_X10_markReached_26 _ _ _ _ _]
      simp (disch := first | assumption | omega | (simp only [ya_pi, ya_pj, ya_pa, ya_pr, yo_pi, yo_pj, yo_pa, yf_pi, yf_pj, yf_pa, yh_pi, yh_pj, yh_pa, yt_pi, yt_pj, yt_pa, la_pi, la_pj, la_pa]; assumption)) only [b_X10_markReached_0, b_X10_markReached_8, b_X10_markReached_92, b_X10_markReached_24, b_X10_markReached_86, b_X10_markReached_32, b_X10_markReached_48, b_X10_markReached_80, b_X10_markReached_58, b_X10_markReached_71, i_lit, i_m1, i_31, il_t, il_f, iq_t, iq_f, it_t, it_f, im_e, im_l, im_g, im_g2, nI_add, pk_mul, i_sub, i_div, sdm, i_dec, i_cl, iv_t, bI_or2, bI_t0, bI_one, not_true_eq_false, not_false_eq_true, ↓reduceIte, am_tl, am_tn, am_t0, am_n0, and_true, true_and, List.cons_append, List.nil_append, List.append_nil, or_true, true_or, or_false, false_or, eq_self, ior0, iand0, im_e2, oI, em]
      refine c_trace G.1 C3.1 C3.2.2 G.2.2 hi hm (fun h4 fr4 v4 => ?_)
      simp (disch := first | assumption | omega | (simp only [ya_pi, ya_pj, ya_pa, ya_pr, yo_pi, yo_pj, yo_pa, yf_pi, yf_pj, yf_pa, yh_pi, yh_pj, yh_pa, yt_pi, yt_pj, yt_pa, la_pi, la_pj, la_pa]; assumption)) only [b_X10_markReached_0, b_X10_markReached_8, b_X10_markReached_92, b_X10_markReached_24, b_X10_markReached_86, b_X10_markReached_32, b_X10_markReached_48, b_X10_markReached_80, b_X10_markReached_58, b_X10_markReached_71, i_lit, i_m1, i_31, il_t, il_f, iq_t, iq_f, it_t, it_f, im_e, im_l, im_g, im_g2, nI_add, pk_mul, i_sub, i_div, sdm, i_dec, i_cl, iv_t, bI_or2, bI_t0, bI_one, not_true_eq_false, not_false_eq_true, ↓reduceIte, am_tl, am_tn, am_t0, am_n0, and_true, true_and, List.cons_append, List.nil_append, List.append_nil, or_true, true_or, or_false, false_or, eq_self, ior0, iand0, im_e2, oI]
      have hlen : (trl f seen i m (f_m f)).length ≤ 10 := Nat.le_trans trc_len ho.2.2.2.2
      refine lp_up (trl f seen i m (f_m f)).length (fun j (_ : Unit) => [some (v_r (some 51)), some (v_i (nI i)), some (v_i (nI m)), some (v_i (nI j))]) (fun j _ h' => am_fr h4 h' (fun a k => a = 53 ∧ k = m) ∧ h_i h' 53 m = nI (bs (fun y => rch f seen m i y || ((pas f seen i m).take j).contains y))) ?_ ?_ (Nat.zero_le _) ⟨am_fr.rf, by rw [List.take_zero, brc_0, fr4.i (by unfold vF; omega)]; exact e4 m (Nat.le_refl _) hm⟩ (s := ())
      · rintro j - h5 hj ⟨fr5, e5⟩ nx3
        have fr45 : am_fr h3 h5 vM := (fr4.le (fun a k z => Or.inl z)).tr (fr5.le (fun a k z => Or.inr z.1))
        have C5 : cQ h5 f := C3.1.fr ok (fr45.le (fun a k z => z.S))
        have L5 := C5.1
        have A5 : y_arr h5 53 20 8 := la_y L5 rfl
        have v5 : vt h5 (trl f seen i m (f_m f)) i m (f_m f) := ⟨by rw [fr5.i (by omega)]; exact v4.1, fr5.ro v4.2.1 (fun j _ => by omega), by rw [fr5.i (by omega)]; exact v4.2.2.1, by rw [fr5.i (by omega)]; exact v4.2.2.2.1, by rw [fr5.i (by omega)]; exact v4.2.2.2.2⟩
        have cp := fun {d} {Q} => c_passed (d := d) (Q := Q) ok C5 hi v5 hlen (fun x hx => trl_lt hx) (show j < 2147483648 by omega)
        have eo : (trl f seen i m (f_m f))[j]?.map (fun k => (fT f i).2.getD k 0) = some ((pas f seen i m).getD j 0) := by
          rw [pas_gd hj, List.getElem?_eq_getElem hj, List.getD_eq_getElem?_getD (l := trl f seen i m (f_m f)), List.getElem?_eq_getElem hj]
          rfl
        rw [eo] at cp
        have x10 := pas_lt ok hi (gd_mem (show j < (pas f seen i m).length by rw [pas_len]; exact hj))
        have ts : (pas f seen i m).take (j + 1) = (pas f seen i m).take j ++ [(pas f seen i m).getD j 0] := tk_s (by rw [pas_len]; exact hj)
        have e35 := v5.1
        generalize (pas f seen i m).getD j 0 = x at cp x10 ts
        have bb := brc_s (f := f) (seen := seen) (m := m) (n := i) (l := (pas f seen i m).take j) (x := x)
        rw [bI_or2] at bb
        rw [b_X10_markReached_50 _ _ _ _ L5]
        simp (disch := first | assumption | omega | (simp only [ya_pi, ya_pj, ya_pa, ya_pr, yo_pi, yo_pj, yo_pa, yf_pi, yf_pj, yf_pa, yh_pi, yh_pj, yh_pa, yt_pi, yt_pj, yt_pa, la_pi, la_pj, la_pa]; assumption)) only [b_X10_markReached_0, b_X10_markReached_8, b_X10_markReached_92, b_X10_markReached_24, b_X10_markReached_86, b_X10_markReached_32, b_X10_markReached_48, b_X10_markReached_80, b_X10_markReached_58, b_X10_markReached_71, i_lit, i_m1, i_31, il_t, il_f, iq_t, iq_f, it_t, it_f, im_e, im_l, im_g, im_g2, nI_add, pk_mul, i_sub, i_div, sdm, i_dec, i_cl, iv_t, bI_or2, bI_t0, bI_one, not_true_eq_false, not_false_eq_true, ↓reduceIte, am_tl, am_tn, am_t0, am_n0, and_true, true_and, List.cons_append, List.nil_append, List.append_nil, or_true, true_or, or_false, false_or, eq_self, ior0, iand0, im_e2, oI, e35, cp, e5, i_31, bb]
        exact nx3 () _ ⟨fr5.pi ⟨rfl, rfl⟩, by rw [hi_s, ts]⟩
      · rintro - h5 ⟨fr5, e5⟩
        have L5 : Lay h5 := fr5.lay (fr4.lay L3)
        have e35 : h_i h5 51 3 = nI (trl f seen i m (f_m f)).length := by rw [fr5.i (by omega)]; exact v4.1
        rw [← pas_len, List.take_length, brc_e] at e5
        rw [b_X10_markReached_50 _ _ _ _ L5]
        simp (disch := first | assumption | omega | (simp only [ya_pi, ya_pj, ya_pa, ya_pr, yo_pi, yo_pj, yo_pa, yf_pi, yf_pj, yf_pa, yh_pi, yh_pj, yh_pa, yt_pi, yt_pj, yt_pa, la_pi, la_pj, la_pa]; assumption)) only [b_X10_markReached_0, b_X10_markReached_8, b_X10_markReached_92, b_X10_markReached_24, b_X10_markReached_86, b_X10_markReached_32, b_X10_markReached_48, b_X10_markReached_80, b_X10_markReached_58, b_X10_markReached_71, i_lit, i_m1, i_31, il_t, il_f, iq_t, iq_f, it_t, it_f, im_e, im_l, im_g, im_g2, nI_add, pk_mul, i_sub, i_div, sdm, i_dec, i_cl, iv_t, bI_or2, bI_t0, bI_one, not_true_eq_false, not_false_eq_true, ↓reduceIte, am_tl, am_tn, am_t0, am_n0, and_true, true_and, List.cons_append, List.nil_append, List.append_nil, or_true, true_or, or_false, false_or, eq_self, ior0, iand0, im_e2, oI, e35]
        refine nx2 _ h5 ⟨fr3.tr ((fr4.le (fun a k z => Or.inl z)).tr (fr5.le (fun a k z => Or.inr z.1))), fun q hq => ?_, fun q h1 h2 => ?_⟩
        · by_cases z : q = m
          · rw [z]
            exact e5
          · rw [fr5.i (by omega), fr4.i (by unfold vF; omega)]
            exact e3 q (by omega)
        · rw [fr5.i (by omega), fr4.i (by unfold vF; omega)]
          exact e4 q (by omega) h2
    · rintro l3 h3 ⟨fr3, e3, e4⟩
      rw [b_X10_markReached_26 _ _ _ _ _]
      simp (disch := first | assumption | omega | (simp only [ya_pi, ya_pj, ya_pa, ya_pr, yo_pi, yo_pj, yo_pa, yf_pi, yf_pj, yf_pa, yh_pi, yh_pj, yh_pa, yt_pi, yt_pj, yt_pa, la_pi, la_pj, la_pa]; assumption)) only [b_X10_markReached_0, b_X10_markReached_8, b_X10_markReached_92, b_X10_markReached_24, b_X10_markReached_86, b_X10_markReached_32, b_X10_markReached_48, b_X10_markReached_80, b_X10_markReached_58, b_X10_markReached_71, i_lit, i_m1, i_31, il_t, il_f, iq_t, iq_f, it_t, it_f, im_e, im_l, im_g, im_g2, nI_add, pk_mul, i_sub, i_div, sdm, i_dec, i_cl, iv_t, bI_or2, bI_t0, bI_one, not_true_eq_false, not_false_eq_true, ↓reduceIte, am_tl, am_tn, am_t0, am_n0, and_true, true_and, List.cons_append, List.nil_append, List.append_nil, or_true, true_or, or_false, false_or, eq_self, ior0, iand0, im_e2, oI]
      exact nx (_, _) h3 ⟨fr3, e3⟩
  · rintro ⟨l2, l3⟩ h2 ⟨fr2, e2⟩
    dsimp only
    have C2 : cH h2 f says seen := C.fr ok (fr2.le (fun a k z => z.S))
    have L2 := C2.1.1
    have en := C2.1.2.1.2.1
    rw [b_X10_markReached_10 _ _ _ _ L2]
    simp (disch := first | assumption | omega | (simp only [ya_pi, ya_pj, ya_pa, ya_pr, yo_pi, yo_pj, yo_pa, yf_pi, yf_pj, yf_pa, yh_pi, yh_pj, yh_pa, yt_pi, yt_pj, yt_pa, la_pi, la_pj, la_pa]; assumption)) only [b_X10_markReached_0, b_X10_markReached_8, b_X10_markReached_92, b_X10_markReached_24, b_X10_markReached_86, b_X10_markReached_32, b_X10_markReached_48, b_X10_markReached_80, b_X10_markReached_58, b_X10_markReached_71, i_lit, i_m1, i_31, il_t, il_f, iq_t, iq_f, it_t, it_f, im_e, im_l, im_g, im_g2, nI_add, pk_mul, i_sub, i_div, sdm, i_dec, i_cl, iv_t, bI_or2, bI_t0, bI_one, not_true_eq_false, not_false_eq_true, ↓reduceIte, am_tl, am_tn, am_t0, am_n0, and_true, true_and, List.cons_append, List.nil_append, List.append_nil, or_true, true_or, or_false, false_or, eq_self, ior0, iand0, im_e2, oI, en]
    exact k h2 fr2 e2
theorem c_definitionAt_n {d : Nat} {Q : Option am_V → am_H → Prop} {h : am_H} {o : Nat} {f : fa_S} (F : fa_at h o f) {c m : Nat} (hc : c < 10) (hm : 8 ≤ m) (hm2 : m < 100) : ex_ (d + 1) 32 0 [some (v_r (some o)), some (v_i (nI c)), some (v_i (nI m))] [] h Q ↔ Q (some (v_i (nI 0))) h := by
  have F0 := F.1
  simp (disch := first | assumption | omega | (simp only [ya_pi, ya_pj, ya_pa, ya_pr, yo_pi, yo_pj, yo_pa, yf_pi, yf_pj, yf_pa, yh_pi, yh_pj, yh_pa, yt_pi, yt_pj, yt_pa, la_pi, la_pj, la_pa]; assumption)) only [b_X1_definitionAt_0, b_X1_definitionAt_31, b_X1_definitionAt_4, b_X1_definitionAt_10, b_X1_definitionAt_14, b_X1_definitionAt_17, i_lit, i_m1, i_31, il_t, il_f, iq_t, iq_f, it_t, it_f, im_e, im_l, im_g, im_g2, nI_add, pk_mul, i_sub, i_div, sdm, i_dec, i_cl, iv_t, bI_or2, bI_t0, bI_one, not_true_eq_false, not_false_eq_true, ↓reduceIte, am_tl, am_tn, am_t0, am_n0, and_true, true_and, List.cons_append, List.nil_append, List.append_nil, or_true, true_or, or_false, false_or, eq_self, ior0, iand0, im_e2, oI, c_isMethod_n (show ¬ me_ok (nI m) from fun z => by have := (nI_ltI (by omega) (by omega)).1 z.2; omega)]
theorem c_isDead {d : Nat} {Q : Option am_V → am_H → Prop} {h : am_H} {f : fa_S} {seen : Option (List Nat)} (gd : fa_gd f) (C : cQ h f) (E : ∀ m, m < 8 → h_i h 53 m = nI (bs (rch f seen m (f_n f)))) {t : Nat} (ht : t < 100) : ex_ (d + 2) 160 0 [some (v_r (some 51)), some (v_i (nI (t / 10))), some (v_i (nI (t % 10)))] [] h Q ↔ Q (some (v_i (nI (if ddP f seen t = true then 1 else 0)))) h := by
  have L0 := C.1
  have c10 : t / 10 < 10 := by omega
  by_cases hm : t % 10 < 8
  · obtain ⟨v, hv, ev⟩ := gd.2.1 (t / 10) (t % 10)
    have cd := fun {d} {Q} => c_definitionAt (d := d) (Q := Q) C.2.1 c10 hm
    rw [ev] at cd
    have e := E _ hm
    have c16 : t / 10 < 16 := by omega
    by_cases z : v = 0
    · have dp : ddP f seen t = false := by unfold ddP; rw [ev, z]; simp
      simp (disch := first | assumption | omega | (simp only [ya_pi, ya_pj, ya_pa, ya_pr, yo_pi, yo_pj, yo_pa, yf_pi, yf_pj, yf_pa, yh_pi, yh_pj, yh_pa, yt_pi, yt_pj, yt_pa, la_pi, la_pj, la_pa]; assumption)) only [b_X10_isDead_0, b_X10_isDead_12, b_X10_isDead_39, b_X10_isDead_15, b_X10_isDead_19, b_X10_isDead_22, b_X10_isDead_35, i_lit, i_m1, i_31, il_t, il_f, iq_t, iq_f, it_t, it_f, im_e, im_l, im_g, im_g2, nI_add, pk_mul, i_sub, i_div, sdm, i_dec, i_cl, iv_t, bI_or2, bI_t0, bI_one, not_true_eq_false, not_false_eq_true, ↓reduceIte, am_tl, am_tn, am_t0, am_n0, and_true, true_and, List.cons_append, List.nil_append, List.append_nil, or_true, true_or, or_false, false_or, eq_self, ior0, iand0, im_e2, oI, cd, dp, Bool.false_eq_true]
    · have nz : (nI v == nI 0) = false := beq_eq_false_iff_ne.2 (fun w => z ((nI_eq (by omega) (by omega)).1 w))
      have dp : ddP f seen t = !rch f seen (t % 10) (f_n f) (t / 10) := by
        unfold ddP
        rw [ev, nz, decide_eq_true hm]
        rfl
      cases r : rch f seen (t % 10) (f_n f) (t / 10) with
      | true =>
        rw [r] at dp
        simp (disch := first | assumption | omega | (simp only [ya_pi, ya_pj, ya_pa, ya_pr, yo_pi, yo_pj, yo_pa, yf_pi, yf_pj, yf_pa, yh_pi, yh_pj, yh_pa, yt_pi, yt_pj, yt_pa, la_pi, la_pj, la_pa]; assumption)) only [b_X10_isDead_0, b_X10_isDead_12, b_X10_isDead_39, b_X10_isDead_15, b_X10_isDead_19, b_X10_isDead_22, b_X10_isDead_35, i_lit, i_m1, i_31, il_t, il_f, iq_t, iq_f, it_t, it_f, im_e, im_l, im_g, im_g2, nI_add, pk_mul, i_sub, i_div, sdm, i_dec, i_cl, iv_t, bI_or2, bI_t0, bI_one, not_true_eq_false, not_false_eq_true, ↓reduceIte, am_tl, am_tn, am_t0, am_n0, and_true, true_and, List.cons_append, List.nil_append, List.append_nil, or_true, true_or, or_false, false_or, eq_self, ior0, iand0, im_e2, oI, cd, c_isMethod_y hm, e, i_31, r, Bool.true_eq_false, dp, Bool.not_true, Bool.false_eq_true]
      | false =>
        rw [r] at dp
        simp (disch := first | assumption | omega | (simp only [ya_pi, ya_pj, ya_pa, ya_pr, yo_pi, yo_pj, yo_pa, yf_pi, yf_pj, yf_pa, yh_pi, yh_pj, yh_pa, yt_pi, yt_pj, yt_pa, la_pi, la_pj, la_pa]; assumption)) only [b_X10_isDead_0, b_X10_isDead_12, b_X10_isDead_39, b_X10_isDead_15, b_X10_isDead_19, b_X10_isDead_22, b_X10_isDead_35, i_lit, i_m1, i_31, il_t, il_f, iq_t, iq_f, it_t, it_f, im_e, im_l, im_g, im_g2, nI_add, pk_mul, i_sub, i_div, sdm, i_dec, i_cl, iv_t, bI_or2, bI_t0, bI_one, not_true_eq_false, not_false_eq_true, ↓reduceIte, am_tl, am_tn, am_t0, am_n0, and_true, true_and, List.cons_append, List.nil_append, List.append_nil, or_true, true_or, or_false, false_or, eq_self, ior0, iand0, im_e2, oI, cd, c_isMethod_y hm, e, i_31, r, dp, Bool.not_false]
  · have dp : ddP f seen t = false := by unfold ddP; rw [decide_eq_false hm]; rfl
    simp (disch := first | assumption | omega | (simp only [ya_pi, ya_pj, ya_pa, ya_pr, yo_pi, yo_pj, yo_pa, yf_pi, yf_pj, yf_pa, yh_pi, yh_pj, yh_pa, yt_pi, yt_pj, yt_pa, la_pi, la_pj, la_pa]; assumption)) only [b_X10_isDead_0, b_X10_isDead_12, b_X10_isDead_39, b_X10_isDead_15, b_X10_isDead_19, b_X10_isDead_22, b_X10_isDead_35, i_lit, i_m1, i_31, il_t, il_f, iq_t, iq_f, it_t, it_f, im_e, im_l, im_g, im_g2, nI_add, pk_mul, i_sub, i_div, sdm, i_dec, i_cl, iv_t, bI_or2, bI_t0, bI_one, not_true_eq_false, not_false_eq_true, ↓reduceIte, am_tl, am_tn, am_t0, am_n0, and_true, true_and, List.cons_append, List.nil_append, List.append_nil, or_true, true_or, or_false, false_or, eq_self, ior0, iand0, im_e2, oI, c_definitionAt_n C.2.1 c10 (show 8 ≤ t % 10 by omega) (show t % 10 < 100 by omega), dp, Bool.false_eq_true]
theorem c_dead {d : Nat} {Q : Option am_V → am_H → Prop} {h : am_H} {f : fa_S} {says seen : Option (List Nat)} (G : hk f says seen) (C : cH h f says seen) {l1 l2 : Option am_V} (k : ∀ h', am_fr h h' cS → Q (some (v_i (a_dead f seen))) h') : ex_ (d + 5) 204 0 [some (v_r (some 0)), l1, l2] [] h Q := by
  have L0 := C.1.1
  simp (disch := first | assumption | omega | (simp only [ya_pi, ya_pj, ya_pa, ya_pr, yo_pi, yo_pj, yo_pa, yf_pi, yf_pj, yf_pa, yh_pi, yh_pj, yh_pa, yt_pi, yt_pj, yt_pa, la_pi, la_pj, la_pa]; assumption)) only [b_X11_dead_0, b_X11_dead_7, b_X11_dead_44, b_X11_dead_17, b_X11_dead_32, b_X11_dead_38, b_X11_dead_35, i_lit, i_m1, i_31, il_t, il_f, iq_t, iq_f, it_t, it_f, im_e, im_l, im_g, im_g2, nI_add, pk_mul, i_sub, i_div, sdm, i_dec, i_cl, iv_t, bI_or2, bI_t0, bI_one, not_true_eq_false, not_false_eq_true, ↓reduceIte, am_tl, am_tn, am_t0, am_n0, and_true, true_and, List.cons_append, List.nil_append, List.append_nil, or_true, true_or, or_false, false_or, eq_self, ior0, iand0, im_e2, oI]
  refine c_markReached G C (fun h1 fr1 e1 => ?_)
  have fr1' : am_fr h h1 cS := fr1.le (fun a k z => z.S)
  have C1 : cQ h1 f := C.1.fr G.1.1 fr1'
  have L1 := C1.1
  simp (disch := first | assumption | omega | (simp only [ya_pi, ya_pj, ya_pa, ya_pr, yo_pi, yo_pj, yo_pa, yf_pi, yf_pj, yf_pa, yh_pi, yh_pj, yh_pa, yt_pi, yt_pj, yt_pa, la_pi, la_pj, la_pa]; assumption)) only [b_X11_dead_0, b_X11_dead_7, b_X11_dead_44, b_X11_dead_17, b_X11_dead_32, b_X11_dead_38, b_X11_dead_35, i_lit, i_m1, i_31, il_t, il_f, iq_t, iq_f, it_t, it_f, im_e, im_l, im_g, im_g2, nI_add, pk_mul, i_sub, i_div, sdm, i_dec, i_cl, iv_t, bI_or2, bI_t0, bI_one, not_true_eq_false, not_false_eq_true, ↓reduceIte, am_tl, am_tn, am_t0, am_n0, and_true, true_and, List.cons_append, List.nil_append, List.append_nil, or_true, true_or, or_false, false_or, eq_self, ior0, iand0, im_e2, oI]
  refine lp_up 100 (fun t (_ : Unit) => [some (v_r (some 0)), some (v_i (nI (ct (ddP f seen) t))), some (v_i (nI t))]) (fun t _ h' => h' = h1) ?_ ?_ (Nat.zero_le _) rfl (s := ())
  · rintro t - h2 ht rfl nx
    have nxt := nx () h2 rfl
    rw [b_X11_dead_11 _ _ _ _]
    cases z : ddP f seen t with
    | true =>
      rw [ct_y z] at nxt
      simp (disch := first | assumption | omega | (simp only [ya_pi, ya_pj, ya_pa, ya_pr, yo_pi, yo_pj, yo_pa, yf_pi, yf_pj, yf_pa, yh_pi, yh_pj, yh_pa, yt_pi, yt_pj, yt_pa, la_pi, la_pj, la_pa]; assumption)) only [b_X11_dead_0, b_X11_dead_7, b_X11_dead_44, b_X11_dead_17, b_X11_dead_32, b_X11_dead_38, b_X11_dead_35, i_lit, i_m1, i_31, il_t, il_f, iq_t, iq_f, it_t, it_f, im_e, im_l, im_g, im_g2, nI_add, pk_mul, i_sub, i_div, sdm, i_dec, i_cl, iv_t, bI_or2, bI_t0, bI_one, not_true_eq_false, not_false_eq_true, ↓reduceIte, am_tl, am_tn, am_t0, am_n0, and_true, true_and, List.cons_append, List.nil_append, List.append_nil, or_true, true_or, or_false, false_or, eq_self, ior0, iand0, im_e2, oI, sdm, c_isDead G.1 C1 e1 ht, z]
      exact nxt
    | false =>
      rw [ct_n z] at nxt
      simp (disch := first | assumption | omega | (simp only [ya_pi, ya_pj, ya_pa, ya_pr, yo_pi, yo_pj, yo_pa, yf_pi, yf_pj, yf_pa, yh_pi, yh_pj, yh_pa, yt_pi, yt_pj, yt_pa, la_pi, la_pj, la_pa]; assumption)) only [b_X11_dead_0, b_X11_dead_7, b_X11_dead_44, b_X11_dead_17, b_X11_dead_32, b_X11_dead_38, b_X11_dead_35, i_lit, i_m1, i_31, il_t, il_f, iq_t, iq_f, it_t, it_f, im_e, im_l, im_g, im_g2, nI_add, pk_mul, i_sub, i_div, sdm, i_dec, i_cl, iv_t, bI_or2, bI_t0, bI_one, not_true_eq_false, not_false_eq_true, ↓reduceIte, am_tl, am_tn, am_t0, am_n0, and_true, true_and, List.cons_append, List.nil_append, List.append_nil, or_true, true_or, or_false, false_or, eq_self, ior0, iand0, im_e2, oI, sdm, c_isDead G.1 C1 e1 ht, z, Bool.false_eq_true]
      exact nxt
  · rintro - h2 rfl
    rw [b_X11_dead_11 _ _ _ _]
    simp (disch := first | assumption | omega | (simp only [ya_pi, ya_pj, ya_pa, ya_pr, yo_pi, yo_pj, yo_pa, yf_pi, yf_pj, yf_pa, yh_pi, yh_pj, yh_pa, yt_pi, yt_pj, yt_pa, la_pi, la_pj, la_pa]; assumption)) only [b_X11_dead_0, b_X11_dead_7, b_X11_dead_44, b_X11_dead_17, b_X11_dead_32, b_X11_dead_38, b_X11_dead_35, i_lit, i_m1, i_31, il_t, il_f, iq_t, iq_f, it_t, it_f, im_e, im_l, im_g, im_g2, nI_add, pk_mul, i_sub, i_div, sdm, i_dec, i_cl, iv_t, bI_or2, bI_t0, bI_one, not_true_eq_false, not_false_eq_true, ↓reduceIte, am_tl, am_tn, am_t0, am_n0, and_true, true_and, List.cons_append, List.nil_append, List.append_nil, or_true, true_or, or_false, false_or, eq_self, ior0, iand0, im_e2, oI]
    exact k h2 fr1'
theorem c_firstDead {d : Nat} {Q : Option am_V → am_H → Prop} {h : am_H} {f : fa_S} {says seen : Option (List Nat)} (G : hk f says seen) (C : cH h f says seen) {l1 : Option am_V} (k : ∀ h', am_fr h h' cS → Q (some (v_i (a_firstDead f seen))) h') : ex_ (d + 5) 205 0 [some (v_r (some 0)), l1] [] h Q := by
  have L0 := C.1.1
  unfold a_firstDead at k
  simp (disch := first | assumption | omega | (simp only [ya_pi, ya_pj, ya_pa, ya_pr, yo_pi, yo_pj, yo_pa, yf_pi, yf_pj, yf_pa, yh_pi, yh_pj, yh_pa, yt_pi, yt_pj, yt_pa, la_pi, la_pj, la_pa]; assumption)) only [b_X11_firstDead_0, b_X11_firstDead_7, b_X11_firstDead_41, b_X11_firstDead_15, b_X11_firstDead_30, b_X11_firstDead_35, b_X11_firstDead_33, i_lit, i_m1, i_31, il_t, il_f, iq_t, iq_f, it_t, it_f, im_e, im_l, im_g, im_g2, nI_add, pk_mul, i_sub, i_div, sdm, i_dec, i_cl, iv_t, bI_or2, bI_t0, bI_one, not_true_eq_false, not_false_eq_true, ↓reduceIte, am_tl, am_tn, am_t0, am_n0, and_true, true_and, List.cons_append, List.nil_append, List.append_nil, or_true, true_or, or_false, false_or, eq_self, ior0, iand0, im_e2, oI]
  refine c_markReached G C (fun h1 fr1 e1 => ?_)
  have fr1' : am_fr h h1 cS := fr1.le (fun a k z => z.S)
  have C1 : cQ h1 f := C.1.fr G.1.1 fr1'
  have L1 := C1.1
  simp (disch := first | assumption | omega | (simp only [ya_pi, ya_pj, ya_pa, ya_pr, yo_pi, yo_pj, yo_pa, yf_pi, yf_pj, yf_pa, yh_pi, yh_pj, yh_pa, yt_pi, yt_pj, yt_pa, la_pi, la_pj, la_pa]; assumption)) only [b_X11_firstDead_0, b_X11_firstDead_7, b_X11_firstDead_41, b_X11_firstDead_15, b_X11_firstDead_30, b_X11_firstDead_35, b_X11_firstDead_33, i_lit, i_m1, i_31, il_t, il_f, iq_t, iq_f, it_t, it_f, im_e, im_l, im_g, im_g2, nI_add, pk_mul, i_sub, i_div, sdm, i_dec, i_cl, iv_t, bI_or2, bI_t0, bI_one, not_true_eq_false, not_false_eq_true, ↓reduceIte, am_tl, am_tn, am_t0, am_n0, and_true, true_and, List.cons_append, List.nil_append, List.append_nil, or_true, true_or, or_false, false_or, eq_self, ior0, iand0, im_e2, oI]
  refine lp_up 100 (fun t (_ : Unit) => [some (v_r (some 0)), some (v_i (nI t))]) (fun t _ h' => h' = h1 ∧ fi (ddP f seen) 100 t = fi (ddP f seen) 100 0) ?_ ?_ (Nat.zero_le _) ⟨rfl, rfl⟩ (s := ())
  · rintro t - h2 ht ⟨rfl, e⟩ nx
    rw [b_X11_firstDead_9 _ _ _]
    cases z : ddP f seen t with
    | true =>
      rw [fi_yes ht z] at e
      rw [← e] at k
      simp (disch := first | assumption | omega | (simp only [ya_pi, ya_pj, ya_pa, ya_pr, yo_pi, yo_pj, yo_pa, yf_pi, yf_pj, yf_pa, yh_pi, yh_pj, yh_pa, yt_pi, yt_pj, yt_pa, la_pi, la_pj, la_pa]; assumption)) only [b_X11_firstDead_0, b_X11_firstDead_7, b_X11_firstDead_41, b_X11_firstDead_15, b_X11_firstDead_30, b_X11_firstDead_35, b_X11_firstDead_33, i_lit, i_m1, i_31, il_t, il_f, iq_t, iq_f, it_t, it_f, im_e, im_l, im_g, im_g2, nI_add, pk_mul, i_sub, i_div, sdm, i_dec, i_cl, iv_t, bI_or2, bI_t0, bI_one, not_true_eq_false, not_false_eq_true, ↓reduceIte, am_tl, am_tn, am_t0, am_n0, and_true, true_and, List.cons_append, List.nil_append, List.append_nil, or_true, true_or, or_false, false_or, eq_self, ior0, iand0, im_e2, oI, sdm, c_isDead G.1 C1 e1 ht, z]
      exact k h2 fr1'
    | false =>
      rw [fi_no z] at e
      simp (disch := first | assumption | omega | (simp only [ya_pi, ya_pj, ya_pa, ya_pr, yo_pi, yo_pj, yo_pa, yf_pi, yf_pj, yf_pa, yh_pi, yh_pj, yh_pa, yt_pi, yt_pj, yt_pa, la_pi, la_pj, la_pa]; assumption)) only [b_X11_firstDead_0, b_X11_firstDead_7, b_X11_firstDead_41, b_X11_firstDead_15, b_X11_firstDead_30, b_X11_firstDead_35, b_X11_firstDead_33, i_lit, i_m1, i_31, il_t, il_f, iq_t, iq_f, it_t, it_f, im_e, im_l, im_g, im_g2, nI_add, pk_mul, i_sub, i_div, sdm, i_dec, i_cl, iv_t, bI_or2, bI_t0, bI_one, not_true_eq_false, not_false_eq_true, ↓reduceIte, am_tl, am_tn, am_t0, am_n0, and_true, true_and, List.cons_append, List.nil_append, List.append_nil, or_true, true_or, or_false, false_or, eq_self, ior0, iand0, im_e2, oI, sdm, c_isDead G.1 C1 e1 ht, z, Bool.false_eq_true]
      exact nx () h2 ⟨rfl, e⟩
  · rintro - h2 ⟨rfl, e⟩
    rw [fi_end (by omega)] at e
    rw [← e] at k
    rw [b_X11_firstDead_9 _ _ _]
    simp (disch := first | assumption | omega | (simp only [ya_pi, ya_pj, ya_pa, ya_pr, yo_pi, yo_pj, yo_pa, yf_pi, yf_pj, yf_pa, yh_pi, yh_pj, yh_pa, yt_pi, yt_pj, yt_pa, la_pi, la_pj, la_pa]; assumption)) only [b_X11_firstDead_0, b_X11_firstDead_7, b_X11_firstDead_41, b_X11_firstDead_15, b_X11_firstDead_30, b_X11_firstDead_35, b_X11_firstDead_33, i_lit, i_m1, i_31, il_t, il_f, iq_t, iq_f, it_t, it_f, im_e, im_l, im_g, im_g2, nI_add, pk_mul, i_sub, i_div, sdm, i_dec, i_cl, iv_t, bI_or2, bI_t0, bI_one, not_true_eq_false, not_false_eq_true, ↓reduceIte, am_tl, am_tn, am_t0, am_n0, and_true, true_and, List.cons_append, List.nil_append, List.append_nil, or_true, true_or, or_false, false_or, eq_self, ior0, iand0, im_e2, oI]
    exact k h2 fr1'
