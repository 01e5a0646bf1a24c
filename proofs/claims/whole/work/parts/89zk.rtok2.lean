/-! ===== the reference's kinds ===== -/
def rk (t : Nat) : Nat := if t = 1 then 24 else if t = 2 then 25 else if t = 3 then 22 else if 1000 ≤ t then 23 else if 200 ≤ t ∧ t < 218 then pm (t - 200) else match sgI t with
  | some k => 30 + k
  | none => 99
theorem wd_inj : ∀ a, a < 18 → ∀ b, b < 18 → wds.getD a [] = wds.getD b [] → a = b := by decide +kernel
theorem pm_pm : ∀ a, a < 18 → pm (pm a) = a ∧ pm a < 18 := by decide +kernel
theorem wm_eq {tx : List Nat} {p e : Nat} {w w' : List Nat} (h : wm tx p e w = true) (h' : wm tx p e w' = true) : w = w' := by
  obtain ⟨a1, a2⟩ := wm_iff.1 h
  obtain ⟨b1, b2⟩ := wm_iff.1 h'
  refine gd_ext (by omega) (fun i hi => ?_)
  rw [a2 i hi, b2 i (by omega)]
theorem rk_w {tx : List Nat} {p e : Nat} : rk (wTk tx p e) = rkW tx p e := by
  unfold wTk rkW
  rcases fi_sp (fun k => wm tx p e (wds.getD k [])) 18 with ⟨j, ej, hj, pj, -⟩ | ⟨ej, nj⟩
  · rw [ej]
    have pj : wm tx p e (wds.getD j []) = true := pj
    rcases fi_sp (fun k => wm tx p e (kws k)) 18 with ⟨i, ei, hi, pi, -⟩ | ⟨ei, ni⟩
    · rw [ei]
      have pi : wm tx p e (wds.getD (pm i) []) = true := pi
      have := wd_inj _ hj _ (pm_pm i hi).2 (wm_eq pj pi)
      show rk (200 + j) = i
      rw [this]
      have e2 : ∀ i, i < 18 → rk (200 + pm i) = i := by decide +kernel
      exact e2 i hi
    · have := ni (pm j) (pm_pm j hj).2
      have e3 : kws (pm j) = wds.getD j [] := by unfold kws; rw [(pm_pm j hj).1]
      simp only [e3] at this
      rw [pj] at this
      cases this
  · rw [ej]
    rcases fi_sp (fun k => wm tx p e (kws k)) 18 with ⟨i, ei, hi, pi, -⟩ | ⟨ei, ni⟩
    · have := nj (pm i) (pm_pm i hi).2
      have pi : wm tx p e (wds.getD (pm i) []) = true := pi
      simp only [pi] at this
      cases this
    · rw [ei]; rfl
/-- the sign of a byte -/
theorem sg_1 : ∀ b, b < 256 → ∀ k, k < 12 → sgL.getD k 0 = b → sgI b = some k ∧ rk b = 30 + k := by decide +kernel
theorem sg_2 : ∀ b, b < 256 → sgI b = none → ∀ k, k < 12 → ¬ sgL.getD k 0 = b := by decide +kernel
theorem rk_0 : rk 1 = 24 ∧ rk 2 = 25 ∧ rk 3 = 22 := by decide +kernel
theorem rk_n {t : Nat} (h : 1000 ≤ t) : rk t = 23 := by
  unfold rk
  rw [if_neg (by omega), if_neg (by omega), if_neg (by omega), if_pos h]
/-- blanks -/
theorem tz_rn {tx : List Nat} : ∀ m p, tx.length - p ≤ m → tz tx (rn tx isBk p) = tz tx p := by
  intro m
  induction m with
  | zero => intro p h; rw [rn_e (by omega)]
  | succ m ih =>
    intro p h
    by_cases z : p < tx.length
    · cases w : isBk (tx.getD p 0) with
      | true => rw [rn_y z w, tz_b z w]; exact ih (p + 1) (by omega)
      | false => rw [rn_n w]
    · rw [rn_e (by omega)]
theorem rn_stop {tx : List Nat} {q : Nat → Bool} : ∀ m p, tx.length - p ≤ m → rn tx q p < tx.length → q (tx.getD (rn tx q p) 0) = false := by
  intro m
  induction m with
  | zero => intro p h hl; rw [rn_e (by omega)] at hl; omega
  | succ m ih =>
    intro p h hl
    by_cases z : p < tx.length
    · cases w : q (tx.getD p 0) with
      | true => rw [rn_y z w] at hl ⊢; exact ih (p + 1) (by omega) hl
      | false => rw [rn_n w]; exact w
    · rw [rn_e (by omega)] at hl; omega
/-- the state of the reference at a token -/
def rTk (h : am_H) (tx : List Nat) (ts : List (Nat × Nat)) (i : Nat) : Prop := Lay h ∧ rtx h tx ∧ h_i h 93 6 = nI (tS ts i) ∧ h_i h 93 9 = nI (rk (tK ts i)) ∧ (1000 ≤ tK ts i → h_i h 93 10 = nI (tK ts i - 1000)) ∧ i < ts.length ∧ ∃ b, h_i h 93 7 = nI b ∧ b ≤ tx.length ∧ (¬ tK ts i = 1 → ¬ tK ts i = 2 → tz tx b = ts.drop (i + 1))
