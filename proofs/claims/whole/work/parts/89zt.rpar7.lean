/-! ===== the reference reads laws: atoms ===== -/
theorem oI_w {sy : Bool} {t w : Nat} (h : wO sy t = some w) : ¬ nI w = (-1 : Int32) ∧ w < 10 := by
  have hw : w < 10 := by have := (wO_lt h).2.2; omega
  have : ∀ w, w < 10 → ¬ nI w = (-1 : Int32) := by decide
  exact ⟨this w hw, hw⟩
theorem c_rAtom {e n : Nat} {tx : List Nat} {ts : List (Nat × Nat)} {sy : Bool} (G : gT ts) (hn : n ≤ 6) (C : ∀ m, n = m + 1 → rLv tx ts sy m (e + 7)) : rRd 246 [some (v_r (some 93)), some (v_i (nI (6 - n)))] (e + 9) (pA ts sy (lo ts sy n)) tx ts sy := by
  intro Q h i cs S hc K
  have hi := S.1.2.2.2.2.2.1
  have L := S.1.1
  have G3 := G.2.2.1
  have e9 := S.1.2.2.2.1
  have w0 := S.2.2.2
  have e15 := S.2.2.1
  have r25 := rk_25 (t := tK ts i)
  have isk := fun k (hk : k < 100) Q => c_is (d := e + 8) (Q := Q) (k := k) S.1 w0 hk
  have n1 : ¬ nI 1 = 0 := by decide
  have n0 : nI 0 = 0 := rfl
  unfold pA at K
  rw [b_X12_readAtom_0 _ _ L, show (23 : Int32) = nI 23 from rfl, isk 23 (by decide)]
  show ex_ (e + 9) 246 6 [some (v_r (some 93)), some (v_i (nI (6 - n)))] [v_i (nI (if rk (tK ts i) = 23 then 1 else 0))] h Q
  by_cases z : 1000 ≤ tK ts i
  · rw [if_pos z] at K
    have e10 := S.1.2.2.2.2.1 z
    rw [if_pos (r25.2.1.2 z), b_X12_readAtom_6 _ _ _ _, if_neg n1, b_X12_readAtom_9 _ _ L, e10]
    refine c_codes S (by omega) (fun h1 fr1 S1 => ?_)
    have L1 := S1.1.1
    show ex_ (e + 9) 246 17 [some (v_r (some 93)), some (v_i (nI (6 - n)))] [] h1 Q
    rw [b_X12_readAtom_17 _ _ L1]
    refine S1.1.next (by omega) (by omega) (fun h2 fr2 R2 => ?_)
    show ex_ (e + 9) 246 21 [some (v_r (some 93)), some (v_i (nI (6 - n)))] [] h2 Q
    rw [b_X12_readAtom_21 _ _ _]
    exact K.1 rfl h2 (fr1.tr (nx_fr fr2)) (S1.nx fr2 R2)
  · rw [if_neg z] at K
    have wn : ¬ ¬ h_i h 93 11 = 0 := fun u => u (by rw [w0]; rfl)
    rw [if_neg (fun u => z (r25.2.1.1 u)), b_X12_readAtom_6 _ _ _ _, if_pos n0, b_X12_readAtom_24 _ _ L, if_neg wn, b_X12_readAtom_31 _ _ L, e9, c_wordOf L e15]
    show ex_ (e + 9) 246 39 [some (v_r (some 93)), some (v_i (nI (6 - n)))] [v_i (oI (wO sy (tK ts i)))] h Q
    have k35 : kT 35 = 40 ∧ kT 9 = 209 ∧ kT 36 = 41 := by decide
    have r35 := rk_k (t := tK ts i) (k := 35) (by decide) (by decide)
    have r9 := rk_k (t := tK ts i) (k := 9) (by decide) (by decide)
    rw [k35.1] at r35
    rw [k35.2.1] at r9
    cases w : wO sy (tK ts i) with
    | some v =>
      have wl := wO_lt w
      have ov := oI_w w
      have t40 : ¬ tK ts i = 40 := fun u => by rw [u] at w; unfold wO at w; simp at w
      have t209 : ¬ tK ts i = 209 := fun u => by rw [u] at w; unfold wO at w; simp at w
      rw [if_neg t40, if_neg t209, w] at K
      show ex_ (e + 9) 246 39 [some (v_r (some 93)), some (v_i (nI (6 - n)))] [v_i (nI v)] h Q
      rw [b_X12_readAtom_39 _ _ _ _, if_neg ov.1, b_X12_readAtom_43 _ _ L, e9, c_wordOf L e15, w]
      show ex_ (e + 9) 246 55 [some (v_r (some 93)), some (v_i (nI (6 - n)))] [v_i (nI v), v_i (1000 : Int32), v_r (some 93)] h Q
      rw [b_X12_readAtom_55 _ _ _ _ _ L, show (1000 : Int32) + nI v = nI (1000 + v) from nI_add 1000 v]
      refine c_codes S (by omega) (fun h1 fr1 S1 => ?_)
      have L1 := S1.1.1
      show ex_ (e + 9) 246 59 [some (v_r (some 93)), some (v_i (nI (6 - n)))] [] h1 Q
      rw [b_X12_readAtom_59 _ _ L1]
      refine S1.1.next (by omega) (fun u => by rw [u] at w; unfold wO at w; simp at w) (fun h2 fr2 R2 => ?_)
      show ex_ (e + 9) 246 63 [some (v_r (some 93)), some (v_i (nI (6 - n)))] [] h2 Q
      rw [b_X12_readAtom_63 _ _ _]
      exact K.1 rfl h2 (fr1.tr (nx_fr fr2)) (S1.nx fr2 R2)
    | none =>
      have m1 : oI (none : Option Nat) = (-1 : Int32) := rfl
      rw [w] at K
      rw [m1, b_X12_readAtom_39 _ _ _ _, if_pos rfl, b_X12_readAtom_66 _ _ L, show (35 : Int32) = nI 35 from rfl, isk 35 (by decide)]
      show ex_ (e + 9) 246 72 [some (v_r (some 93)), some (v_i (nI (6 - n)))] [v_i (nI (if rk (tK ts i) = 35 then 1 else 0))] h Q
      sorry
