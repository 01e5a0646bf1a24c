/-! ===== what stands at the loop's first turn ===== -/
def S_0 : St := (ho_0, [], (fun _ => none), (fun _ => (mI, [])), [], nI 0, mI)
set_option maxRecDepth 100000 in
theorem hz_a : (∀ c, c < 10 → h_i hz_ 12 c = nI 0) ∧ (∀ c, c < 80 → h_i hz_ 14 c = nI 0) ∧ h_i hz_ 11 0 = nI 0 ∧ h_i hz_ 11 1 = nI 0 ∧ h_r hz_ 10 1 = none ∧ h_r hz_ 10 2 = none ∧ h_i hz_ 10 3 = nI 0 ∧ h_i hz_ 25 1 = nI 0 ∧ h_i hz_ 25 2 = nI 0 ∧ (∀ j, j < 10 → h_r hz_ 26 j = none) ∧ (∀ j, j < 2 → h_r hz_ 84 j = none) := by decide +kernel
set_option maxRecDepth 100000 in
theorem hz_b : (∀ t, t < 4 → h_i hz_ (85 + 2 * t) 0 = mI ∧ h_i hz_ (85 + 2 * t) 1 = nI 0) ∧ h_i hz_ 0 1 = nI 0 ∧ h_i hz_ 0 2 = nI 0 ∧ h_i hz_ 0 3 = mI ∧ h_i hz_ 56 4 = nI 0 ∧ h_i hz_ 69 5 = mI := by decide +kernel
set_option maxRecDepth 100000 in
theorem hz_d : (∀ i, i < 2 → h_i hz_ 95 i = nI 0) ∧ (∀ t, t < 4 → h_i hz_ 115 t = mI ∧ h_i hz_ 116 t = nI 0) ∧ h_i hz_ 93 5 = nI 0 ∧ h_i hz_ 93 13 = nI 0 ∧ h_i hz_ 93 14 = mI := by decide +kernel
set_option maxRecDepth 100000 in
theorem hz_n : h_n hz_ = 118 ∧ h_s hz_ ≤ 24577 := by decide +kernel
theorem gd_00 : fa_gd f_0 := gd_0 (m := 0) (by decide)
theorem ok_0 : St_ok S_0 := ⟨⟨⟨gd_00, fun c hc => (by cases hc), fun c hc => (by cases hc)⟩, Nat.zero_le _⟩, ⟨Nat.zero_le _, fun g hg => (by cases hg)⟩, fun i H hH => (by cases hH), Nat.zero_le _, fun x hx => (by cases hx)⟩
theorem st_C {h : am_H} (L : Lay h) (ei : ∀ a k, ¬ a = 94 → h_i h a k = h_i hz_ a k) (er : ∀ a k, h_r h a k = h_r hz_ a k) : cI h S_0 := by
  obtain ⟨a1, a2, a3, a4, a5, a6, a7, a8, a9, b1, b2⟩ := hz_a
  obtain ⟨c1, c2, c3, c4, c5, c6⟩ := hz_b
  refine ⟨L, ⟨y_O L, fun c hc => absurd hc (Nat.not_lt_zero _)⟩, ⟨fun _ => 0, 0, ⟨or_y L, ⟨y_F L (Or.inr (Or.inl rfl)), ?_, ?_, ?_, ?_, ?_⟩, ?_, ?_, ?_⟩, ⟨?_, by decide, ?_, ?_, ?_⟩, ?_⟩, ?_, ⟨?_, ?_⟩, ⟨?_, ?_⟩, Or.inl ?_, Or.inl ?_⟩
  · rw [ei _ _ (by decide)]; exact a3
  · rw [ei _ _ (by decide)]; exact a4
  · intro c hc
    rw [ei _ _ (by decide)]; exact a1 c hc
  · intro c hc k hk
    exact absurd hk (Nat.not_lt_zero _)
  · intro c m hc hm
    rw [ei _ _ (by decide)]; exact a2 _ (by omega)
  · exact (er _ _).trans a5
  · exact (er _ _).trans a6
  · rw [ei _ _ (by decide)]; exact a7
  · rw [ei _ _ (by decide)]; exact a8
  · rw [ei _ _ (by decide)]; exact a9
  · intro j hj
    exact Or.inl ((er _ _).trans (b1 j hj))
  · intro k hk
    exact absurd hk (Nat.not_lt_zero _)
  · intro i hi
    exact (er _ _).trans (b2 i hi)
  · intro t ht
    refine ⟨?_, ?_, Nat.zero_le _, fun k hk => absurd hk (Nat.not_lt_zero _)⟩
    · rw [ei _ _ (by omega)]; exact (c1 t ht).1
    · rw [ei _ _ (by omega)]; exact (c1 t ht).2
  · rw [ei _ _ (by decide)]; exact c2
  · intro k hk
    exact absurd hk (Nat.not_lt_zero _)
  · rw [ei _ _ (by decide)]; exact c3
  · rw [ei _ _ (by decide)]; exact c4
  · rw [ei _ _ (by decide)]; exact c5
  · rw [ei _ _ (by decide)]; exact c6
theorem st_R {h : am_H} (L : Lay h) (ei : ∀ a k, ¬ a = 94 → h_i h a k = h_i hz_ a k) (z : ∀ k, k < 2351 → h_i h 94 k = nI 0) : rI h S_0 := by
  obtain ⟨d1, d2, d3, d4, d5⟩ := hz_d
  refine ⟨L, ⟨z _ (by omega), z _ (by omega), ⟨fun c hc => z _ (by omega), fun c hc k hk => absurd hk (Nat.not_lt_zero _), fun c m hc hm => z _ (by omega), z _ (by omega)⟩, z _ (by omega), z _ (by omega)⟩, ⟨z _ (by omega), Nat.zero_le _, fun k hk => absurd hk (Nat.not_lt_zero _)⟩, ?_, ?_, ⟨?_, fun k hk => absurd hk (Nat.not_lt_zero _)⟩, ?_, ?_⟩
  · intro i hi
    show h_i h 95 i = nI 0
    rw [ei _ _ (by decide)]; exact d1 i hi
  · intro t ht
    refine ⟨?_, ?_, Nat.zero_le _, fun k hk => absurd hk (Nat.not_lt_zero _)⟩
    · rw [ei _ _ (by decide)]; exact (d2 t ht).1
    · rw [ei _ _ (by decide)]; exact (d2 t ht).2
  · rw [ei _ _ (by decide)]; exact d3
  · rw [ei _ _ (by decide)]; exact d4
  · rw [ei _ _ (by decide)]; exact d5
/-! ===== each new state is good ===== -/
theorem ok_kS {S : St} (ok : St_ok S) {r : Int32 × fa_S} {c : Int32} (gd : fa_gd r.2) (hn : f_n r.2 = f_n (s_f S)) : St_ok (kS S r c).2 := by
  unfold kS
  split
  · exact deed_ok ok gd hn
  · exact ok
theorem ok_kB {S : St} (ok : St_ok S) {r : Int32 × fa_S} {v : Int32} (gd : fa_gd r.2) (hn : f_n r.2 = f_n (s_f S)) : St_ok (kB S r v).2 := by
  unfold kB
  split
  · exact deed_ok ok gd hn
  · exact ok
theorem ok_undo {S : St} (ok : St_ok S) {n : Int32} : St_ok (t_undo S n).2 := by
  unfold t_undo
  by_cases z : ¬ n < nI 1 ∧ n ≤ nI (s_p S).length
  · rw [if_pos z]
    obtain ⟨n', h1, hn, rfl⟩ := lt_1 z.1
    obtain ⟨o1, o2, o3, o4, o5⟩ := ok
    have l10 := o2.1
    have y : n' ≤ (s_p S).length := (nI_leI hn (by omega)).1 z.2
    rw [nI_clamp hn]
    have m10 : (s_p S).length - n' < (s_p S).length := by omega
    have q := o2.2 _ (gdF_mem m10)
    refine ⟨⟨⟨q.1, o1.1.2⟩, o1.2⟩, ⟨?_, fun g hg => ?_⟩, o3, o4, o5⟩
    · show ((s_p S).take ((s_p S).length - n')).length ≤ 10
      rw [List.length_take]
      omega
    · have hg : g ∈ (s_p S).take ((s_p S).length - n') := hg
      have q2 := o2.2 g (List.mem_of_mem_take hg)
      exact ⟨q2.1, q2.2.trans q.2.symm⟩
  · rw [if_neg z]
    exact ok
theorem ok_perform {S : St} (ok : St_ok S) {x : Int32} : St_ok (t_perform S x).2 := by
  unfold t_perform
  split
  · show St_ok (if 0 < (d_run (s_f S) (s_t S x.toNatClampNeg).2).1 then deed S (d_run (s_f S) (s_t S x.toNatClampNeg).2).2.2 else S)
    split
    · exact deed_ok ok (gd_run ok.1.1.1) fn_run
    · exact ok
  · exact ok
theorem ok_day {S : St} (ok : St_ok S) {x n : Int32} : St_ok (t_day S x n).2 := by
  unfold t_day
  split
  · show St_ok (if 0 < (dy n.toNatClampNeg (s_f S) x).1 then deed S (dy n.toNatClampNeg (s_f S) x).2 else S)
    split
    · exact deed_ok ok (dy_gd _ ok.1.1.1).1 (dy_gd _ ok.1.1.1).2
    · exact ok
  · exact ok
theorem ok_image {S : St} (ok : St_ok S) {x : Int32} : St_ok (t_image S x).2 := by
  unfold t_image
  split
  · obtain ⟨o1, o2, o3, o4, o5⟩ := ok
    refine ⟨o1, o2, fun i H hH => ?_, o4, o5⟩
    have hH : (if i = x.toNatClampNeg then some S.1 else s_i S i) = some H := hH
    split at hH
    · cases hH; exact o1
    · exact o3 i H hH
  · exact ok
theorem ok_restore {S : St} (ok : St_ok S) {x : Int32} : St_ok (t_restore S x).2 := by
  unfold t_restore
  split
  · cases z : s_i S x.toNatClampNeg with
    | none => exact ok
    | some H =>
      obtain ⟨o1, o2, o3, o4, o5⟩ := ok
      exact ⟨o3 _ H z, ⟨Nat.zero_le _, fun g hg => (by cases hg)⟩, o3, o4, o5⟩
  · exact ok
/-! trays -/
theorem cI.tray {h h' : am_H} {S : St} {t : Nat} {tr : tr_S} (ok : St_ok S) (C : cI h S) (ht : t < 4) (g : gj h h' (tP t) (tJ t) N0) (T : tyA h' tr) : cI h' (s_H S, s_p S, s_i S, tr, s_b S, s_e S) ∧ gC h h' := by
  obtain ⟨L, O, ⟨W, e, C1, C2, C3⟩, C4, C5, C6, C7, C8⟩ := C
  have hf := ok.1.1.1
  have n10 : f_n (s_f S) ≤ 10 := hf.1.1
  have hp : ∀ a k, a < 85 ∨ 92 < a → ¬ tP t a k := fun a k ha z => by unfold tP at z; omega
  have g2 := g.2
  refine ⟨⟨g2.lay (fun _ _ z => z) L, g2.or O (fT_l11 hf.1) (fun c hc => ⟨hp _ _ (by omega), hp _ _ (by omega), fun k hk => hp _ _ (by omega)⟩) (fun k z => z), ⟨W, e, g2.hoA ok.1 C1 (fun a k h1 h2 z => z) (fun a k h1 _ => hp a k (by omega)) (fun a k h1 h2 => hp a k (by omega)), g2.paA L (fun q hq => (ok.2.1.2 q hq).1) C2 (hp _ _ (by omega)) (hp _ _ (by omega)) (fun k z => z) (fun a k h1 _ _ => ⟨hp a k (by omega), fun z => z⟩), g2.imA L ok.2.2.1 C3 (fun k z => z) (fun a k h1 _ => hp a k (by omega)) (fun a k h1 _ _ => ⟨hp a k (by omega), fun z => z⟩)⟩, T, g2.tpA L C5 (hp _ _ (by omega)) (fun k => hp _ _ (by omega)), ⟨(g2.i (la_n L (by omega)) (hp _ _ (by omega))).trans C6.1, (g2.i (la_n L (by omega)) (hp _ _ (by omega))).trans C6.2⟩, g2.mnA L C7 (fun k _ _ => hp _ _ (by omega)) (fun k => hp _ _ (by omega)), g2.ltA L C8 (fun k _ => hp _ _ (by omega))⟩, gC.gj g (fun q k z => by unfold tP at z; unfold pC; omega) (fun q k z => by unfold tJ at z; unfold pC; omega) (fun q k z => z.elim)⟩
theorem rI.tray {h h' : am_H} {S : St} {t : Nat} {tr : tr_S} (ok : St_ok S) (C : rI h S) (ht : t < 4) (g : gj h h' (rP4 t) (rJ4 t) N0) (T : rtA h' tr) : rI h' (s_H S, s_p S, s_i S, tr, s_b S, s_e S) ∧ gj h h' pR pR N0 := by
  obtain ⟨L, C1, C2, C3, C4, C5, C6, C7⟩ := C
  have hp : ∀ a k, a = 94 ∨ a = 95 ∨ a = 96 ∨ (a = 93 ∧ (k = 5 ∨ k = 13 ∨ k = 14)) → ¬ rP4 t a k := fun a k ha z => by unfold rP4 rS at z; omega
  have G := g.2
  exact ⟨⟨G.lay (fun _ _ z => z) L, G.rhA L ok.1 C1 (fun k _ => hp _ _ (by omega)), G.rpa L (fun q hq => (ok.2.1.2 q hq).1) C2 (fun k _ _ => hp _ _ (by omega)), G.riA L ok.2.2.1 C3 (fun k => hp _ _ (by omega)) (fun k _ => hp _ _ (by omega)), T, ⟨(G.i (la_n L (by omega)) (hp _ _ (by omega))).trans C5.1, fun k hk => (G.i (la_n L (by omega)) (hp _ _ (by omega))).trans (C5.2 k hk)⟩, (G.i (la_n L (by omega)) (hp _ _ (by omega))).trans C6, (G.i (la_n L (by omega)) (hp _ _ (by omega))).trans C7⟩, g.le (fun a k z => by unfold rP4 rS at z; unfold pR; omega) (fun a k z => by unfold rJ4 at z; unfold pR; omega) (fun _ _ z => z)⟩
