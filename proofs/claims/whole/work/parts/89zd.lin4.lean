/-! ===== the class reads lines: laws ===== -/
theorem gf.drop {h h' : am_H} {P J R P' : Nat → Nat → Prop} (g : gf h h' P J R) (hp : ∀ a k, a < h_n h → P a k → P' a k) : gf h h' P' J R := ⟨g.1, g.2.1, g.2.2.1, fun a k ha z => g.2.2.2.1 a k ha (fun y => z (hp a k ha y)), g.2.2.2.2⟩
def cpH (h : am_H) (m : Nat) : am_H := p_a (p_n h 20 m) (h_n h) (va_cpy (h_i (p_n h 20 m) 9) (h_i (p_n h 20 m) (h_n h)) 0 0 m)
theorem cpH_g {h : am_H} {m : Nat} : gf h (cpH h m) N0 N0 N0 := by
  have g1 : gf h (p_n h 20 m) (fun q _ => q = h_n h) N0 N0 := gf_pn
  have g2 : gf (p_n h 20 m) (cpH h m) (fun q _ => q = h_n h) N0 N0 := (am_fr_pa (fun k => rfl)).g
  exact (g1.tr g2).drop (fun a k ha z => by have z : a = h_n h := z; omega)
theorem cpH_n {h : am_H} {m : Nat} : h_n (cpH h m) = h_n h + 1 ∧ h_s (cpH h m) = h_s h + m := ⟨rfl, rfl⟩
theorem b_copyOf23 {d : Nat} {Q : Option am_V → am_H → Prop} {h : am_H} {x1 : Int32} {o0 q n : Nat} (A : y_arr h o0 20 n) : ex_ d 136 23 [some (v_r (some o0)), some (v_i x1), some (v_r (some q))] [v_r (some o0), v_i (0 : Int32), v_r (some q), v_i (0 : Int32), v_r (some o0)] h Q ↔ am_cp h (some o0) (some q) (0 : Int32) (0 : Int32) (if x1 < nI n then x1 else nI n) ∧ Q (some (v_r (some q))) (p_a h q (va_cpy (h_i h o0) (h_i h q) (Int32.toNatClampNeg (0 : Int32)) (Int32.toNatClampNeg (0 : Int32)) (Int32.toNatClampNeg (if x1 < nI n then x1 else nI n)))) := by
  unfold ex_
  refine (am_Y_go 5 (ok := [am_an h (some o0), am_cp h (some o0) (some q) (0 : Int32) (0 : Int32) (if x1 < nI (h_l h o0) then x1 else nI (h_l h o0))]) (g := (32, [some (v_r (some o0)), some (v_i x1), some (v_r (some q))], [v_r (some q)], (p_a h q (va_cpy (h_i h o0) (h_i h q) (Int32.toNatClampNeg (0 : Int32)) (Int32.toNatClampNeg (0 : Int32)) (Int32.toNatClampNeg (if x1 < nI (h_l h o0) then x1 else nI (h_l h o0))))))) rfl).trans ?_
  simp only [am_all]
  rw [lr_l A]
  exact cj_d (lr_an20 A) (cj_k Iff.rfl ((am_Y_ret rfl rfl rfl).trans (am_rz rfl)))
theorem c_copyOf {d : Nat} {Q : Option am_V → am_H → Prop} {h : am_H} {m : Nat} (L : Lay h) (hm : m < 900) {l2 : Option am_V} : ex_ d 136 0 [some (v_r (some 9)), some (v_i (nI m)), l2] [] h Q ↔ Q (some (v_r (some (h_n h)))) (cpH h m) := by
  have A9 : y_arr h 9 20 900 := la_y L rfl
  have A9' : y_arr (p_n h 20 m) 9 20 900 := (gf_pn (P := N0) (J := N0) (R := N0)).c A9
  have C : y_c (p_n h 20 m) (h_n h) 20 m := pn_c
  have e1 : ¬ nI m = nI 900 := fun z => by have := nI_inj (by omega) (by omega) z; omega
  have cl : Int32.toNatClampNeg (0 : Int32) = 0 := by decide
  have cm : Int32.toNatClampNeg (nI m) = m := nI_clamp (by omega)
  have e2 : nI m < nI 900 := nI_lt (by omega) (by omega)
  rw [b_J7_copyOf_59c91_0 _ _ _ _ A9, if_pos e1, b_J7_copyOf_59c91_14 _ _ _ _ A9, cm, b_copyOf23 A9', if_pos e2, cl, cm]
  have cp : am_cp (p_n h 20 m) (some 9) (some (h_n h)) (0 : Int32) (0 : Int32) (nI m) := by
    obtain ⟨a1, a2, a3⟩ := A9'
    obtain ⟨b1, b2, b3⟩ := C
    refine ⟨9, h_n h, rfl, a1, a2, rfl, b1, b2, by decide, by decide, nI_pos (by omega), ?_, ?_⟩
    · rw [nI_clamp (by omega), a3, cl]; omega
    · rw [nI_clamp (by omega), b3, cl]; omega
  have le : m ≤ 100000 := by omega
  constructor
  · intro z
    exact z.2.2.2
  · intro z
    exact ⟨nI_pos (by omega), le, cp, z⟩
