/-! ===== the reference goes to the next token: digits, signs, all ===== -/
theorem atB_iff {tx : List Nat} {q : Nat → Bool} {x : Nat} : atB tx q x = true ↔ x < tx.length ∧ q (tx.getD x 0) = true := by
  unfold atB
  rw [Bool.and_eq_true, decide_eq_true_eq]
theorem atB_n {tx : List Nat} {q : Nat → Bool} {x : Nat} (z : ¬ atB tx q x = true) : rn tx q x = x := by
  by_cases w : x < tx.length
  · refine rn_n ?_
    cases u : q (tx.getD x 0) with
    | false => rfl
    | true => exact absurd (atB_iff.2 ⟨w, u⟩) z
  · exact rn_e (by omega)
/-- a run of digits -/
theorem n_dig {d : Nat} {Q : Option am_V → am_H → Prop} {h : am_H} {tx : List Nat} {p : Nat} {l1 : Option am_V} (L : Lay h) (T : rtx h tx) (e6 : h_i h 93 6 = nI p) (e7 : h_i h 93 7 = nI p) (hp : p < tx.length) (k : ∀ h', am_fr h h' nxP → h_i h' 93 6 = nI p → h_i h' 93 7 = nI (rn tx isDb p) → h_i h' 93 9 = nI (if 3 < rn tx isDb p - p then 25 else 23) → (¬ 3 < rn tx isDb p - p → h_i h' 93 10 = nI (nmb tx p (rn tx isDb p - p))) → Q none h') : ex_ (d + 1) 237 141 [some (v_r (some 93)), l1] [] h Q := by
  have t2 := T.2.1
  rw [b_X12_next_141 _ _ L]
  refine lp_wf (d := d + 1) (k := 237) (pc := 146) (fun x : Nat => tx.length - x) (fun _ => [some (v_r (some 93)), l1]) (fun x h1 => am_fr h h1 nxP ∧ h_i h1 93 6 = nI p ∧ h_i h1 93 7 = nI x ∧ x ≤ tx.length ∧ p ≤ x ∧ rn tx isDb x = rn tx isDb p ∧ (∀ j, j < x - p → isDb (tx.getD (p + j) 0) = true) ∧ h_i h1 93 10 = nI (nmb tx p (if x - p < 3 then x - p else 3))) ?_ (s := p) ⟨am_fr_pi ⟨rfl, by omega⟩, by simp (disch := first | assumption | omega | (simp only [ya_pi, ya_pj, ya_pa, ya_pr, yo_pi, yo_pj, yo_pa, yf_pi, yf_pj, yf_pa, yh_pi, yh_pj, yh_pa, yt_pi, yt_pj, yt_pa, la_pi, la_pj, la_pa]; assumption)) only [hi_s, hi_o, hi_k, hr_pi, hj_pi, hn_pi, hi_pas, hi_pao, hr_pa, hj_pa]; exact e6, by simp (disch := first | assumption | omega | (simp only [ya_pi, ya_pj, ya_pa, ya_pr, yo_pi, yo_pj, yo_pa, yf_pi, yf_pj, yf_pa, yh_pi, yh_pj, yh_pa, yt_pi, yt_pj, yt_pa, la_pi, la_pj, la_pa]; assumption)) only [hi_s, hi_o, hi_k, hr_pi, hj_pi, hn_pi, hi_pas, hi_pao, hr_pa, hj_pa]; exact e7, by omega, Nat.le_refl _, rfl, fun j hj => absurd hj (by omega), by rw [hi_s, Nat.sub_self, if_pos (by decide)]; rfl⟩
  rintro x h1 ⟨fr, e6, e7, hx, hpx, er, hd, e10⟩ nx
  have L1 := fr.lay L
  have T1 := T.nx fr
  rw [b_X12_next_146 _ _ L1, e7, c_see L1 T1 (by omega)]
  show ex_ (d + 1) 237 154 [some (v_r (some 93)), l1] [v_i (if x < tx.length then nI (tx.getD x 0) else mI)] h1 Q
  rw [b_X12_next_154 _ _ _ _, c_rDig T1]
  show ex_ (d + 1) 237 157 [some (v_r (some 93)), l1] [v_i (nI (if atB tx isDb x = true then 1 else 0))] h1 Q
  have e67 : nI x - nI p = nI (x - p) := i_sub hpx
  by_cases z : atB tx isDb x = true
  · have z2 := atB_iff.1 z
    have n1 : ¬ nI 1 = 0 := by decide
    have bk := T1.2.2.2 _ (gd_mem z2.1)
    rw [if_pos z, b_X12_next_157 _ _ _ _, if_neg n1, b_X12_next_160 _ _ L1, e7, e6, e67]
    have hd2 : ∀ j, j < x + 1 - p → isDb (tx.getD (p + j) 0) = true := fun j hj => by
      by_cases u : j = x - p
      · rw [u, Nat.add_sub_cancel' hpx]; exact z2.2
      · exact hd j (by omega)
    by_cases y : x - p < 3
    · have y2 : ¬ (3 : Int32) ≤ nI (x - p) := (nI_ge y (by decide) : ¬ nI 3 ≤ nI (x - p))
      rw [if_neg y2, b_X12_next_173 _ _ L1, e7, c_see L1 T1 (by omega), e10, if_pos y]
      show ex_ (d + 1) 237 189 [some (v_r (some 93)), l1] [v_i (if x < tx.length then nI (tx.getD x 0) else mI), v_i (10 * nI (nmb tx p (x - p))), v_r (some 93)] h1 Q
      have b3 := z2.2
      unfold isDb at b3
      rw [Bool.and_eq_true, decide_eq_true_eq, decide_eq_true_eq] at b3
      have ev : (10 : Int32) * nI (nmb tx p (x - p)) + nI (tx.getD x 0) - 48 = nI (nmb tx p (x + 1 - p)) := by
        have a1 : (10 : Int32) * nI (nmb tx p (x - p)) = nI (10 * nmb tx p (x - p)) := pk_mul 10 _
        rw [a1, nI_add, show (48 : Int32) = nI 48 from rfl, i_sub (by omega)]
        have a2 : x + 1 - p = (x - p) + 1 := by omega
        rw [a2, nmb, Nat.add_sub_cancel' hpx]
        congr 1
        omega
      rw [if_pos z2.1, b_X12_next_189 _ _ _ _ L1, ev]
      have fr2 : am_fr h (p_i h1 93 10 (nI (nmb tx p (x + 1 - p)))) nxP := fr.pi ⟨rfl, by omega⟩
      have u7 : h_i (p_i h1 93 10 (nI (nmb tx p (x + 1 - p)))) 93 7 = nI x := by simp (disch := first | assumption | omega | (simp only [ya_pi, ya_pj, ya_pa, ya_pr, yo_pi, yo_pj, yo_pa, yf_pi, yf_pj, yf_pa, yh_pi, yh_pj, yh_pa, yt_pi, yt_pj, yt_pa, la_pi, la_pj, la_pa]; assumption)) only [hi_s, hi_o, hi_k, hr_pi, hj_pi, hn_pi, hi_pas, hi_pao, hr_pa, hj_pa]; exact e7
      rw [u7, show nI x + 1 = nI (x + 1) from nI_add x 1]
      refine nx (x + 1) _ (by omega) ⟨fr2.pi ⟨rfl, by omega⟩, by simp (disch := first | assumption | omega | (simp only [ya_pi, ya_pj, ya_pa, ya_pr, yo_pi, yo_pj, yo_pa, yf_pi, yf_pj, yf_pa, yh_pi, yh_pj, yh_pa, yt_pi, yt_pj, yt_pa, la_pi, la_pj, la_pa]; assumption)) only [hi_s, hi_o, hi_k, hr_pi, hj_pi, hn_pi, hi_pas, hi_pao, hr_pa, hj_pa]; exact e6, hi_s, by omega, by omega, by rw [← er, rn_y z2.1 z2.2], hd2, ?_⟩
      have a4 : (if x + 1 - p < 3 then x + 1 - p else 3) = x + 1 - p := by
        split
        · rfl
        · omega
      rw [a4]
      simp (disch := first | assumption | omega | (simp only [ya_pi, ya_pj, ya_pa, ya_pr, yo_pi, yo_pj, yo_pa, yf_pi, yf_pj, yf_pa, yh_pi, yh_pj, yh_pa, yt_pi, yt_pj, yt_pa, la_pi, la_pj, la_pa]; assumption)) only [hi_s, hi_o, hi_k, hr_pi, hj_pi, hn_pi, hi_pas, hi_pao, hr_pa, hj_pa]
    · have y2 : (3 : Int32) ≤ nI (x - p) := nI_le (a := 3) (by omega) (by omega)
      rw [if_pos y2, b_X12_next_196 _ _ L1, e7, show nI x + 1 = nI (x + 1) from nI_add x 1]
      refine nx (x + 1) _ (by omega) ⟨fr.pi ⟨rfl, by omega⟩, by simp (disch := first | assumption | omega | (simp only [ya_pi, ya_pj, ya_pa, ya_pr, yo_pi, yo_pj, yo_pa, yf_pi, yf_pj, yf_pa, yh_pi, yh_pj, yh_pa, yt_pi, yt_pj, yt_pa, la_pi, la_pj, la_pa]; assumption)) only [hi_s, hi_o, hi_k, hr_pi, hj_pi, hn_pi, hi_pas, hi_pao, hr_pa, hj_pa]; exact e6, hi_s, by omega, by omega, by rw [← er, rn_y z2.1 z2.2], hd2, ?_⟩
      rw [if_neg y] at e10
      rw [if_neg (by omega)]
      simp (disch := first | assumption | omega | (simp only [ya_pi, ya_pj, ya_pa, ya_pr, yo_pi, yo_pj, yo_pa, yf_pi, yf_pj, yf_pa, yh_pi, yh_pj, yh_pa, yt_pi, yt_pj, yt_pa, la_pi, la_pj, la_pa]; assumption)) only [hi_s, hi_o, hi_k, hr_pi, hj_pi, hn_pi, hi_pas, hi_pao, hr_pa, hj_pa]
      exact e10
  · have ex : rn tx isDb p = x := er.symm.trans (atB_n z)
    have n1 : nI 0 = 0 := rfl
    rw [if_neg z, b_X12_next_157 _ _ _ _, if_pos n1, b_X12_next_209 _ _ L1, e7, e6, e67]
    rw [ex] at k
    by_cases y : 3 < x - p
    · have y2 : ¬ nI (x - p) ≤ 3 := (nI_ge y (by omega) : ¬ nI (x - p) ≤ nI 3)
      rw [if_neg y2, b_X12_next_223 _ _ _ L1]
      rw [if_pos y] at k
      exact k _ (fr.pi ⟨rfl, by omega⟩) (by simp (disch := first | assumption | omega | (simp only [ya_pi, ya_pj, ya_pa, ya_pr, yo_pi, yo_pj, yo_pa, yf_pi, yf_pj, yf_pa, yh_pi, yh_pj, yh_pa, yt_pi, yt_pj, yt_pa, la_pi, la_pj, la_pa]; assumption)) only [hi_s, hi_o, hi_k, hr_pi, hj_pi, hn_pi, hi_pas, hi_pao, hr_pa, hj_pa]; exact e6) (by simp (disch := first | assumption | omega | (simp only [ya_pi, ya_pj, ya_pa, ya_pr, yo_pi, yo_pj, yo_pa, yf_pi, yf_pj, yf_pa, yh_pi, yh_pj, yh_pa, yt_pi, yt_pj, yt_pa, la_pi, la_pj, la_pa]; assumption)) only [hi_s, hi_o, hi_k, hr_pi, hj_pi, hn_pi, hi_pas, hi_pao, hr_pa, hj_pa]; exact e7) hi_s (fun u => absurd y u)
    · have y2 : nI (x - p) ≤ 3 := nI_le (b := 3) (by omega) (by decide)
      rw [if_pos y2, b_X12_next_228 _ _ _ L1]
      rw [if_neg y] at k
      refine k _ (fr.pi ⟨rfl, by omega⟩) (by simp (disch := first | assumption | omega | (simp only [ya_pi, ya_pj, ya_pa, ya_pr, yo_pi, yo_pj, yo_pa, yf_pi, yf_pj, yf_pa, yh_pi, yh_pj, yh_pa, yt_pi, yt_pj, yt_pa, la_pi, la_pj, la_pa]; assumption)) only [hi_s, hi_o, hi_k, hr_pi, hj_pi, hn_pi, hi_pas, hi_pao, hr_pa, hj_pa]; exact e6) (by simp (disch := first | assumption | omega | (simp only [ya_pi, ya_pj, ya_pa, ya_pr, yo_pi, yo_pj, yo_pa, yf_pi, yf_pj, yf_pa, yh_pi, yh_pj, yh_pa, yt_pi, yt_pj, yt_pa, la_pi, la_pj, la_pa]; assumption)) only [hi_s, hi_o, hi_k, hr_pi, hj_pi, hn_pi, hi_pas, hi_pao, hr_pa, hj_pa]; exact e7) hi_s (fun _ => ?_)
      have a4 : (if x - p < 3 then x - p else 3) = x - p := by
        split
        · rfl
        · omega
      rw [a4] at e10
      simp (disch := first | assumption | omega | (simp only [ya_pi, ya_pj, ya_pa, ya_pr, yo_pi, yo_pj, yo_pa, yf_pi, yf_pj, yf_pa, yh_pi, yh_pj, yh_pa, yt_pi, yt_pj, yt_pa, la_pi, la_pj, la_pa]; assumption)) only [hi_s, hi_o, hi_k, hr_pi, hj_pi, hn_pi, hi_pas, hi_pao, hr_pa, hj_pa]
      exact e10
/-- a sign -/
theorem n_sign {d : Nat} {Q : Option am_V → am_H → Prop} {h : am_H} {tx : List Nat} {p : Nat} {l1 : Option am_V} (L : Lay h) (T : rtx h tx) (e6 : h_i h 93 6 = nI p) (e7 : h_i h 93 7 = nI p) (hp : p < tx.length) (k : ∀ h', am_fr h h' nxP → h_i h' 93 6 = nI p → h_i h' 93 7 = nI (p + 1) → h_i h' 93 9 = nI (if (sgI (tx.getD p 0)).isSome = true then rk (tx.getD p 0) else 25) → Q none h') : ex_ (d + 4) 237 236 [some (v_r (some 93)), l1] [] h Q := by
  have t2 := T.2.1
  have bp := T.2.2.2 _ (gd_mem hp)
  rw [b_X12_next_236 _ _ L, e7, show nI p + 1 = nI (p + 1) from nI_add p 1]
  have key := lp_up (d := d + 4) (k := 237) (pc := 254) (Q := Q) 12 (fun j (_ : Unit) => [some (v_r (some 93)), some (v_i (nI j))]) (fun j _ h1 => am_fr h h1 nxP ∧ h_i h1 93 6 = nI p ∧ h_i h1 93 7 = nI (p + 1) ∧ ((∃ i, i < j ∧ sgL.getD i 0 = tx.getD p 0 ∧ h_i h1 93 9 = nI (30 + i)) ∨ ((∀ i, i < j → ¬ sgL.getD i 0 = tx.getD p 0) ∧ h_i h1 93 9 = nI 25))) ?_ ?_ (i := 0) (s := ()) (h := p_i (p_i h 93 7 (nI (p + 1))) 93 9 25) (Nat.zero_le _) ⟨(am_fr_pi ⟨rfl, by omega⟩).pi ⟨rfl, by omega⟩, by simp (disch := first | assumption | omega | (simp only [ya_pi, ya_pj, ya_pa, ya_pr, yo_pi, yo_pj, yo_pa, yf_pi, yf_pj, yf_pa, yh_pi, yh_pj, yh_pa, yt_pi, yt_pj, yt_pa, la_pi, la_pj, la_pa]; assumption)) only [hi_s, hi_o, hi_k, hr_pi, hj_pi, hn_pi, hi_pas, hi_pao, hr_pa, hj_pa]; exact e6, by simp (disch := first | assumption | omega | (simp only [ya_pi, ya_pj, ya_pa, ya_pr, yo_pi, yo_pj, yo_pa, yf_pi, yf_pj, yf_pa, yh_pi, yh_pj, yh_pa, yt_pi, yt_pj, yt_pa, la_pi, la_pj, la_pa]; assumption)) only [hi_s, hi_o, hi_k, hr_pi, hj_pi, hn_pi, hi_pas, hi_pao, hr_pa, hj_pa], Or.inr ⟨fun i hi => absurd hi (by omega), hi_s⟩⟩
  · exact key
  · rintro j - h1 hj ⟨fr, e6, e7, hs⟩ nx
    have L1 := fr.lay L
    have T1 := T.nx fr
    have c1 : (sN 1).length = 12 := rfl
    have c2 : j < (sN 1).length := by rw [c1]; exact hj
    have c3 : ¬ nI 12 ≤ nI j := nI_ge hj (by decide)
    have sl : (sN 1).getD j 0 = sgL.getD j 0 := rfl
    have sb : sgL.getD j 0 < 128 := by
      have : ∀ j, j < 12 → sgL.getD j 0 < 128 := by decide
      exact this j hj
    rw [b_X12_next_254 _ _ _, c_strlen (show 1 < 3 by decide)]
    show ex_ (d + 4) 237 260 [some (v_r (some 93)), some (v_i (nI j))] [v_i (nI 12), v_i (nI j)] h1 Q
    rw [b_X12_next_260 _ _ _ _ _, if_neg c3, b_X12_next_263 _ _ L1, e6, c_see L1 T1 (by omega)]
    show ex_ (d + 4) 237 271 [some (v_r (some 93)), some (v_i (nI j))] [v_i (if p < tx.length then nI (tx.getD p 0) else mI)] h1 Q
    rw [if_pos hp, b_X12_next_271 _ _ _ _, c_charAt (show 1 < 3 by decide) c2, sl]
    show ex_ (d + 4) 237 277 [some (v_r (some 93)), some (v_i (nI j))] [v_i (nI (sgL.getD j 0)), v_i (nI (tx.getD p 0))] h1 Q
    by_cases y : sgL.getD j 0 = tx.getD p 0
    · have y2 : ¬ ¬ nI (tx.getD p 0) = nI (sgL.getD j 0) := fun u => u (by rw [y])
      rw [b_X12_next_277 _ _ _ _ _, if_neg y2, b_X12_next_280 _ _ L1, show nI j + 1 = nI (j + 1) from nI_add j 1, show (30 : Int32) + nI j = nI (30 + j) from nI_add 30 j]
      exact nx () _ ⟨fr.pi ⟨rfl, by omega⟩, by simp (disch := first | assumption | omega | (simp only [ya_pi, ya_pj, ya_pa, ya_pr, yo_pi, yo_pj, yo_pa, yf_pi, yf_pj, yf_pa, yh_pi, yh_pj, yh_pa, yt_pi, yt_pj, yt_pa, la_pi, la_pj, la_pa]; assumption)) only [hi_s, hi_o, hi_k, hr_pi, hj_pi, hn_pi, hi_pas, hi_pao, hr_pa, hj_pa]; exact e6, by simp (disch := first | assumption | omega | (simp only [ya_pi, ya_pj, ya_pa, ya_pr, yo_pi, yo_pj, yo_pa, yf_pi, yf_pj, yf_pa, yh_pi, yh_pj, yh_pa, yt_pi, yt_pj, yt_pa, la_pi, la_pj, la_pa]; assumption)) only [hi_s, hi_o, hi_k, hr_pi, hj_pi, hn_pi, hi_pas, hi_pao, hr_pa, hj_pa]; exact e7, Or.inl ⟨j, by omega, y, hi_s⟩⟩
    · have y2 : ¬ nI (tx.getD p 0) = nI (sgL.getD j 0) := fun u => y (nI_inj (by omega) (by omega) u).symm
      rw [b_X12_next_277 _ _ _ _ _, if_pos y2, b_X12_next_288 _ _ _, show nI j + 1 = nI (j + 1) from nI_add j 1]
      refine nx () _ ⟨fr, e6, e7, ?_⟩
      rcases hs with ⟨i, hi, a, b⟩ | ⟨a, b⟩
      · exact Or.inl ⟨i, by omega, a, b⟩
      · exact Or.inr ⟨fun i hi => by
          by_cases u : i = j
          · rw [u]; exact y
          · exact a i (by omega), b⟩
  · rintro - h1 ⟨fr, e6, e7, hs⟩
    have c3 : nI 12 ≤ nI 12 := nI_le (Nat.le_refl _) (by decide)
    rw [b_X12_next_254 _ _ _, c_strlen (show 1 < 3 by decide)]
    show ex_ (d + 4) 237 260 [some (v_r (some 93)), some (v_i (nI 12))] [v_i (nI 12), v_i (nI 12)] h1 Q
    rw [b_X12_next_260 _ _ _ _ _, if_pos c3, b_X12_next_294 _ _ _]
    refine k h1 fr e6 e7 ?_
    rcases hs with ⟨i, hi, a, b⟩ | ⟨a, b⟩
    · obtain ⟨s1, s2⟩ := sg_1 _ bp i hi a
      rw [s1, if_pos (show (some i).isSome = true from rfl), s2]
      exact b
    · have : ¬ (sgI (tx.getD p 0)).isSome = true := fun u => by
        rcases fi_sp (fun k => sgL.getD k 0 == tx.getD p 0) 12 with ⟨i, e, hi, pi, -⟩ | ⟨e, -⟩
        · exact a i hi (beq_iff_eq.1 pi)
        · have : sgI (tx.getD p 0) = none := e
          rw [this] at u
          cases u
      rw [if_neg this]
      exact b
theorem wTk_b {tx : List Nat} {p e : Nat} : 3 ≤ wTk tx p e ∧ wTk tx p e < 1000 := by
  unfold wTk
  rcases fi_sp (fun k => wm tx p e (wds.getD k [])) 18 with ⟨j, ej, hj, -⟩ | ⟨ej, -⟩
  · rw [ej]; show 3 ≤ 200 + j ∧ 200 + j < 1000; omega
  · rw [ej]; decide
theorem c_next {d : Nat} {Q : Option am_V → am_H → Prop} {h : am_H} {tx : List Nat} {ts : List (Nat × Nat)} {b j : Nat} (L : Lay h) (T : rtx h tx) (e7 : h_i h 93 7 = nI b) (hb : b ≤ tx.length) (hz : tz tx b = ts.drop j) (k : ∀ h', am_fr h h' nxP → rTk h' tx ts j → Q none h') : ex_ (d + 5) 237 0 [some (v_r (some 93)), none] [] h Q := by
  have t2 := T.2.1
  refine n_blank (d := d + 4) L T e7 hb (fun h1 fr1 e6 e7 => ?_)
  rw [← tz_rn _ b (Nat.le_refl _)] at hz
  have st := rn_stop (tx := tx) (q := isBk) _ b (Nat.le_refl _)
  have qle := (rn_ge (tx := tx) (q := isBk) _ b (Nat.le_refl _)).2 hb
  generalize rn tx isBk b = q at e6 e7 hz st qle ⊢
  have L1 := fr1.lay L
  have T1 := T.nx fr1
  by_cases z : q < tx.length
  · have nb := st z
    have bq := T.2.2.2 _ (gd_mem z)
    rw [if_pos z, b_X12_next_75 _ _ L1, e6, c_see L1 T1 (by omega)]
    show ex_ (d + 5) 237 83 [some (v_r (some 93)), none] [v_i (if q < tx.length then nI (tx.getD q 0) else mI)] h1 Q
    rw [b_X12_next_83 _ _ _ _, c_rSmall T1]
    show ex_ (d + 5) 237 86 [some (v_r (some 93)), none] [v_i (nI (if atB tx isLb q = true then 1 else 0))] h1 Q
    have n1 : ¬ nI 1 = 0 := by decide
    have n0 : nI 0 = 0 := rfl
    -- how a token ends it
    have fin : ∀ h', am_fr h1 h' nxP → h_i h' 93 6 = nI q → h_i h' 93 7 = nI (tE tx q) → h_i h' 93 9 = nI (rk (tT tx q)) → (1000 ≤ tT tx q → h_i h' 93 10 = nI (tT tx q - 1000)) → Q none h' := fun h' fr' u6 u7 u9 u10 => by
      by_cases t : tT tx q = 2
      · rw [tz_2 z nb t] at hz
        obtain ⟨hl, hg, -⟩ := dr_c hz.symm
        have a1 : tK ts j = 2 := by unfold tK; rw [hg]
        have a2 : tS ts j = q := by unfold tS; rw [hg]
        refine k h' (fr1.tr fr') ⟨fr'.lay L1, T1.nx fr', by rw [a2]; exact u6, by rw [a1, ← t]; exact u9, fun v => by omega, hl, _, u7, tE_le z, fun _ v => absurd a1 v⟩
      · rw [tz_t z nb t] at hz
        obtain ⟨hl, hg, hr⟩ := dr_c hz.symm
        have a1 : tK ts j = tT tx q := by unfold tK; rw [hg]
        have a2 : tS ts j = q := by unfold tS; rw [hg]
        refine k h' (fr1.tr fr') ⟨fr'.lay L1, T1.nx fr', by rw [a2]; exact u6, by rw [a1]; exact u9, by rw [a1]; exact u10, hl, _, u7, tE_le z, fun _ _ => hr.symm⟩
    by_cases y : atB tx isLb q = true
    · have y2 := (atB_iff.1 y).2
      have eE : rn tx isLb q = tE tx q := by unfold tE; rw [if_pos y2, rn_y z y2]
      have eT : tT tx q = wTk tx q (tE tx q) := by unfold tT; rw [if_pos y2]
      have wb := wTk_b (tx := tx) (p := q) (e := tE tx q)
      rw [if_pos y, b_X12_next_86 _ _ _ _, if_neg n1]
      refine n_word L1 T1 e6 e7 qle (by rw [eE]; exact tE_gt) (fun h' fr' u6 u7 u9 => ?_)
      rw [eE] at u7 u9
      exact fin h' fr' u6 u7 (by rw [eT, rk_w]; exact u9) (fun v => by omega)
    · have y2 : ¬ isLb (tx.getD q 0) = true := fun v => y (atB_iff.2 ⟨z, v⟩)
      rw [if_neg y, b_X12_next_86 _ _ _ _, if_pos n0, b_X12_next_127 _ _ L1, e6, c_see L1 T1 (by omega)]
      show ex_ (d + 5) 237 135 [some (v_r (some 93)), none] [v_i (if q < tx.length then nI (tx.getD q 0) else mI)] h1 Q
      rw [b_X12_next_135 _ _ _ _, c_rDig T1]
      show ex_ (d + 5) 237 138 [some (v_r (some 93)), none] [v_i (nI (if atB tx isDb q = true then 1 else 0))] h1 Q
      by_cases w : atB tx isDb q = true
      · have w2 := (atB_iff.1 w).2
        have eE : rn tx isDb q = tE tx q := by unfold tE; rw [if_neg y2, if_pos w2, rn_y z w2]
        have eT : tT tx q = if 3 < tE tx q - q then 2 else 1000 + nmb tx q (tE tx q - q) := by unfold tT; rw [if_neg y2, if_pos w2]
        rw [if_pos w, b_X12_next_138 _ _ _ _, if_neg n1]
        refine n_dig L1 T1 e6 e7 z (fun h' fr' u6 u7 u9 u10 => ?_)
        rw [eE] at u7 u9 u10
        by_cases v : 3 < tE tx q - q
        · rw [if_pos v] at eT u9
          refine fin h' fr' u6 u7 (by rw [eT, rk_0.2.1]; exact u9) (fun x => by omega)
        · rw [if_neg v] at eT u9
          refine fin h' fr' u6 u7 (by rw [eT, rk_n (by omega)]; exact u9) (fun _ => by rw [eT, Nat.add_sub_cancel_left]; exact u10 v)
      · have w2 : ¬ isDb (tx.getD q 0) = true := fun v => w (atB_iff.2 ⟨z, v⟩)
        have eE : q + 1 = tE tx q := by unfold tE; rw [if_neg y2, if_neg w2]
        have eT : tT tx q = if (sgI (tx.getD q 0)).isSome = true then tx.getD q 0 else 2 := by unfold tT; rw [if_neg y2, if_neg w2]
        rw [if_neg w, b_X12_next_138 _ _ _ _, if_pos n0]
        refine n_sign (d := d + 1) L1 T1 e6 e7 z (fun h' fr' u6 u7 u9 => ?_)
        rw [eE] at u7
        by_cases v : (sgI (tx.getD q 0)).isSome = true
        · rw [if_pos v] at eT u9
          exact fin h' fr' u6 u7 (by rw [eT]; exact u9) (fun x => by omega)
        · rw [if_neg v] at eT u9
          exact fin h' fr' u6 u7 (by rw [eT, rk_0.2.1]; exact u9) (fun x => by omega)
  · rw [if_neg z, b_X12_next_66 _ _ L1]
    rw [tz_e (show tx.length ≤ q by omega)] at hz
    obtain ⟨hl, hg, -⟩ := dr_c hz.symm
    have a1 : tK ts j = 1 := by unfold tK; rw [hg]
    have a2 : tS ts j = tx.length := by unfold tS; rw [hg]
    have eq : q = tx.length := by omega
    have fr2 : am_fr h1 (p_i h1 93 9 24) nxP := am_fr_pi ⟨rfl, by omega⟩
    refine k _ (fr1.tr fr2) ⟨fr2.lay L1, T1.nx fr2, by rw [a2, ← eq]; simp (disch := first | assumption | omega | (simp only [ya_pi, ya_pj, ya_pa, ya_pr, yo_pi, yo_pj, yo_pa, yf_pi, yf_pj, yf_pa, yh_pi, yh_pj, yh_pa, yt_pi, yt_pj, yt_pa, la_pi, la_pj, la_pa]; assumption)) only [hi_s, hi_o, hi_k, hr_pi, hj_pi, hn_pi, hi_pas, hi_pao, hr_pa, hj_pa]; exact e6, by rw [a1, rk_0.1]; exact hi_s, fun v => by omega, hl, q, by simp (disch := first | assumption | omega | (simp only [ya_pi, ya_pj, ya_pa, ya_pr, yo_pi, yo_pj, yo_pa, yf_pi, yf_pj, yf_pa, yh_pi, yh_pj, yh_pa, yt_pi, yt_pj, yt_pa, la_pi, la_pj, la_pa]; assumption)) only [hi_s, hi_o, hi_k, hr_pi, hj_pi, hn_pi, hi_pas, hi_pao, hr_pa, hj_pa]; exact e7, qle, fun v => absurd a1 v⟩
