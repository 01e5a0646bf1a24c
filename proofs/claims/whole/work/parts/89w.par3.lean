/-! ===== the class reads laws ===== -/
def cRd (cm : Nat) (Lc : am_L) (e n : Nat) (f : Nat → pR_) (ts : List (Nat × Nat)) (sy : Bool) : Prop := ∀ (Q : Option am_V → am_H → Prop) (h : am_H) (i : Nat) (cs : List Nat), rdS h ts sy i cs (6 - n) → cs.length ≤ i → cOK ts sy (6 - n) cs (f i) h Q → ex_ e cm 0 Lc [] h Q
theorem cRd.deep {cm : Nat} {Lc : am_L} {e e' n : Nat} {f : Nat → pR_} {ts : List (Nat × Nat)} {sy : Bool} (c : cRd cm Lc e n f ts sy) (he : e ≤ e') : cRd cm Lc e' n f ts sy := fun Q h i cs S hc K => (c Q h i cs S hc K).deep he
theorem st_y {r : pR_} {f : Nat → pR_} {c : Nat} (z : r.1 = 0) (y : (f (r.2.1 + 1)).1 = 0) : pB r (fun i => pB (f (i + 1)) (pO c)) = (0, (f (r.2.1 + 1)).2.1, r.2.2 ++ ((f (r.2.1 + 1)).2.2 ++ [c])) := by
  rw [pB_y z, pB_y y]; rfl
theorem st_n {r : pR_} {f : Nat → pR_} {c : Nat} (z : r.1 = 0) (y : ¬ (f (r.2.1 + 1)).1 = 0) : pB r (fun i => pB (f (i + 1)) (pO c)) = ((f (r.2.1 + 1)).1, (f (r.2.1 + 1)).2.1, r.2.2 ++ (f (r.2.1 + 1)).2.2) := by
  rw [pB_y z, pB_n y]
theorem c_loop {e n m cm : Nat} {Lc : am_L} {ts : List (Nat × Nat)} {sy : Bool} {q : Nat → Option Nat} {f : Nat → pR_} {b : Bool} {s : Nat} (G : gT ts) (Ls : Int32 → Nat → Option am_V → am_L)
    (hf : ∀ j, j < ts.length → gR ts sy j (f j) 0 0 [] [b] s) (hf1 : ∀ j, j < ts.length → (f j).1 = 0 → j < (f j).2.1) (hq : ∀ t c, q t = some c → ¬ t = 1) (CE : cRd cm Lc e n f ts sy)
    (bad : ∀ j l h Q, Lay h → j ≤ 900 → Q (some (v_i (nI 0))) h → ex_ (e + 1) m 7 (Ls (nI 0) j l) [] h Q)
    (out : ∀ j l h Q i cs, rdS h ts sy i cs (6 - n) → j < 900 → q (tK ts i) = none → Q (some (v_i (nI 1))) h → ex_ (e + 1) m 7 (Ls (nI 1) j l) [] h Q)
    (mor : ∀ j l h Q i cs c, rdS h ts sy i cs (6 - n) → j < 900 → q (tK ts i) = some c → i + 1 < ts.length → ex_ e cm 0 Lc [] (stH h ts i) (fun r h2 => Lay h2 ∧ ∃ v, r = some (v_i v) ∧ ex_ e 124 0 [some (v_r (some 2)), some (v_i (cT c))] [] h2 (fun r3 h3 => r3 = none ∧ ∀ l', ex_ (e + 1) m 7 (Ls v (j + 1) l') [] h3 Q)) → ex_ (e + 1) m 7 (Ls (nI 1) j l) [] h Q)
    {Q : Option am_V → am_H → Prop} {h : am_H} {i : Nat} {cs : List Nat} (hc : cs.length ≤ i) {R : pR_} (K : cOK ts sy (6 - n) cs R h Q) :
    ∀ (r : pR_) (h1 : am_H) (l : Option am_V), am_fr h h1 rdP → (r.1 = 0 → rdS h1 ts sy r.2.1 (cs ++ r.2.2) (6 - n) ∧ i < r.2.1 ∧ i + r.2.2.length ≤ r.2.1) → (¬ r.1 = 0 → rdX h1 ts r.1 r.2.1) → pL ts q f 902 r = R → ex_ (e + 1) m 7 (Ls (nI (if r.1 = 0 then 1 else 0)) 0 l) [] h1 Q := by
  intro r h1 l fr1 A1 A2 E1
  refine lp_wf (d := e + 1) (k := m) (pc := 7) (fun s : Nat × pR_ × Option am_V => 901 - s.1) (fun s => Ls (nI (if s.2.1.1 = 0 then 1 else 0)) s.1 s.2.2) (fun s h1 => am_fr h h1 rdP ∧ s.1 ≤ 900 ∧ (s.2.1.1 = 0 → rdS h1 ts sy s.2.1.2.1 (cs ++ s.2.1.2.2) (6 - n) ∧ i + s.1 < s.2.1.2.1 ∧ i + s.2.1.2.2.length ≤ s.2.1.2.1) ∧ (¬ s.2.1.1 = 0 → rdX h1 ts s.2.1.1 s.2.1.2.1) ∧ pL ts q f (902 - s.1) s.2.1 = R) ?_ (s := (0, r, l)) ⟨fr1, Nat.zero_le _, A1, A2, E1⟩
  clear E1 A1 A2 fr1
  rintro ⟨j, r, l⟩ h1 ⟨fr1, hj, A1, A2, E1⟩ nx
  have hj : j ≤ 900 := hj
  have A1 : r.1 = 0 → rdS h1 ts sy r.2.1 (cs ++ r.2.2) (6 - n) ∧ i + j < r.2.1 ∧ i + r.2.2.length ≤ r.2.1 := A1
  have A2 : ¬ r.1 = 0 → rdX h1 ts r.1 r.2.1 := A2
  have E1 : pL ts q f (902 - j) r = R := E1
  obtain ⟨m', hm⟩ : ∃ m', 902 - j = m' + 1 := ⟨901 - j, by omega⟩
  rw [hm] at E1
  unfold pL at E1
  show ex_ (e + 1) m 7 (Ls (nI (if r.1 = 0 then 1 else 0)) j l) [] h1 Q
  by_cases z : r.1 = 0
  · obtain ⟨S1, p1, p2⟩ := A1 z
    have hi1 := S1.1.2.2.2.2
    have G3 := G.2.2.1
    rw [if_pos z] at E1 ⊢
    cases y : q (tK ts r.2.1) with
    | none =>
      rw [y] at E1
      have E1 : r = R := E1
      subst E1
      exact out j l h1 Q _ _ S1 (by omega) y (K.1 z h1 fr1 S1)
    | some c =>
      rw [y] at E1
      have E1 : pL ts q f m' (pB r (fun i => pB (f (i + 1)) (pO c))) = R := E1
      have i1 := G.1 _ (hq _ _ y)
      have em : m' = 902 - (j + 1) := by omega
      rw [em] at E1
      refine mor j l h1 Q _ _ c S1 (by omega) y i1 ?_
      have cl : (cs ++ r.2.2).length ≤ r.2.1 := by rw [List.length_append]; omega
      have F1 := hf _ i1
      refine CE _ _ _ _ (S1.st i1) (by omega) ⟨fun w h2 fr2 S2 => ⟨S2.1.1, nI 1, rfl, ?_⟩, fun w h2 fr2 X2 => ⟨X2.1, nI 0, rfl, ?_⟩⟩
      · obtain ⟨w1, w2, w3, -⟩ := F1.1 w
        have w4 := hf1 _ i1 w
        refine c_emit S2 (by rw [List.length_append]; omega) rfl (fun h3 fr3 S3 => ⟨rfl, fun l' => ?_⟩)
        rw [st_y z w] at E1
        refine nx (j + 1, _, l') h3 (by show 901 - (j + 1) < 901 - j; omega) ⟨((fr1.tr stH_fr).tr fr2).tr fr3, by show j + 1 ≤ 900; omega, fun _ => ⟨?_, ?_, ?_⟩, fun v => absurd rfl v, E1⟩
        · have := S3
          rw [List.append_assoc, List.append_assoc] at this
          exact this
        · show i + (j + 1) < (f (r.2.1 + 1)).2.1
          omega
        · show i + (r.2.2 ++ ((f (r.2.1 + 1)).2.2 ++ [c])).length ≤ (f (r.2.1 + 1)).2.1
          rw [List.length_append, List.length_append]
          show i + (r.2.2.length + ((f (r.2.1 + 1)).2.2.length + 1)) ≤ (f (r.2.1 + 1)).2.1
          omega
      · refine c_emitX X2 (fun h3 fr3 X3 => ⟨rfl, fun l' => ?_⟩)
        rw [st_n z w] at E1
        have e0 : nI 0 = nI (if (f (r.2.1 + 1)).1 = 0 then 1 else 0) := by rw [if_neg w]
        rw [e0]
        exact nx (j + 1, ((f (r.2.1 + 1)).1, (f (r.2.1 + 1)).2.1, r.2.2 ++ (f (r.2.1 + 1)).2.2), l') h3 (by show 901 - (j + 1) < 901 - j; omega) ⟨((fr1.tr stH_fr).tr fr2).tr fr3, by show j + 1 ≤ 900; omega, fun v => absurd v w, fun _ => X3, E1⟩
  · rw [if_neg z] at E1 ⊢
    subst E1
    exact bad j l h1 Q (A2 z).1 hj (K.2 z h1 fr1 (A2 z))
/-- a first reading, then the loop -/
theorem c_rows {e n m cm : Nat} {Lc : am_L} {ts : List (Nat × Nat)} {sy : Bool} {q : Nat → Option Nat} {f F : Nat → pR_} {b : Bool} {s : Nat} (G : gT ts) (Ls : Int32 → Nat → Option am_V → am_L) (L0 : am_L) (hF : ∀ i, F i = pL ts q f 902 (f i))
    (hf : ∀ j, j < ts.length → gR ts sy j (f j) 0 0 [] [b] s) (hf1 : ∀ j, j < ts.length → (f j).1 = 0 → j < (f j).2.1) (hq : ∀ t c, q t = some c → ¬ t = 1) (CE : cRd cm Lc e n f ts sy)
    (bad : ∀ j l h Q, Lay h → j ≤ 900 → Q (some (v_i (nI 0))) h → ex_ (e + 1) m 7 (Ls (nI 0) j l) [] h Q)
    (out : ∀ j l h Q i cs, rdS h ts sy i cs (6 - n) → j < 900 → q (tK ts i) = none → Q (some (v_i (nI 1))) h → ex_ (e + 1) m 7 (Ls (nI 1) j l) [] h Q)
    (mor : ∀ j l h Q i cs c, rdS h ts sy i cs (6 - n) → j < 900 → q (tK ts i) = some c → i + 1 < ts.length → ex_ e cm 0 Lc [] (stH h ts i) (fun r h2 => Lay h2 ∧ ∃ v, r = some (v_i v) ∧ ex_ e 124 0 [some (v_r (some 2)), some (v_i (cT c))] [] h2 (fun r3 h3 => r3 = none ∧ ∀ l', ex_ (e + 1) m 7 (Ls v (j + 1) l') [] h3 Q)) → ex_ (e + 1) m 7 (Ls (nI 1) j l) [] h Q)
    (beg : ∀ h Q, Lay h → ex_ e cm 0 Lc [] h (fun r h2 => ∃ v, r = some (v_i v) ∧ ex_ (e + 1) m 7 (Ls v 0 none) [] h2 Q) → ex_ (e + 1) m 0 L0 [] h Q) : cRd m L0 (e + 1) n F ts sy := by
  intro Q h i cs S hc K
  have hi := S.1.2.2.2.2
  rw [hF] at K
  have go := c_loop G Ls hf hf1 hq CE bad out mor hc K (f i)
  refine beg h Q S.1.1 (CE _ _ _ _ S hc ⟨fun w h2 fr2 S2 => ⟨nI 1, rfl, ?_⟩, fun w h2 fr2 X2 => ⟨nI 0, rfl, ?_⟩⟩)
  · have := go h2 none fr2 (fun _ => ⟨S2, hf1 _ hi w, ((hf _ hi).1 w).1⟩) (fun v => absurd w v) rfl
    rw [if_pos w] at this
    exact this
  · have := go h2 none fr2 (fun v => absurd v w) (fun _ => X2) rfl
    rw [if_neg w] at this
    exact this
