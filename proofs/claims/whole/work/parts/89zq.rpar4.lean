/-! ===== the reference's loops ===== -/
theorem pL_b {ts : List (Nat × Nat)} {q : Nat → Option Nat} {f : Nat → pR_} {m : Nat} {r : pR_} (z : ¬ r.1 = 0) : pL ts q f m r = r := by
  cases m with
  | zero => rfl
  | succ m =>
    unfold pL
    rw [if_neg z]
theorem r_rows {e m cm : Nat} {Lc : am_L} {tx : List Nat} {ts : List (Nat × Nat)} {sy : Bool} {q : Nat → Option Nat} {f F : Nat → pR_} {b : Bool} {s : Nat} (G : gT ts) (Ls : Option am_V → am_L) (L0 : am_L) (hF : ∀ i, F i = pL ts q f 902 (f i))
    (hf : ∀ j, j < ts.length → gR ts sy j (f j) 0 0 [] [b] s) (hf1 : ∀ j, j < ts.length → (f j).1 = 0 → j < (f j).2.1) (hq : ∀ t c, q t = some c → ¬ t = 1) (CE : rRd cm Lc e f tx ts sy)
    (bad : ∀ l h Q a j, rgX h ts a j → Q none h → ex_ (e + 1) m 5 (Ls l) [] h Q)
    (out : ∀ l h Q i cs, rgS h tx ts sy i cs → q (tK ts i) = none → Q none h → ex_ (e + 1) m 5 (Ls l) [] h Q)
    (mor : ∀ l h Q i cs c, rgS h tx ts sy i cs → q (tK ts i) = some c → (∀ h1, am_fr h h1 nxP → rTk h1 tx ts (i + 1) → ex_ e cm 0 Lc [] h1 (fun r h2 => r = none ∧ Lay h2 ∧ ex_ e 244 0 [some (v_r (some 93)), some (v_i (nI c))] [] h2 (fun r3 h3 => r3 = none ∧ Lay h3 ∧ ∀ l', ex_ (e + 1) m 5 (Ls l') [] h3 Q))) → ex_ (e + 1) m 5 (Ls l) [] h Q)
    (beg : ∀ h Q, Lay h → ex_ e cm 0 Lc [] h (fun r h2 => r = none ∧ ex_ (e + 1) m 5 (Ls none) [] h2 Q) → ex_ (e + 1) m 0 L0 [] h Q) : rRd m L0 (e + 1) F tx ts sy := by
  intro Q h i cs S hc K
  have hi := S.1.2.2.2.2.2.1
  have G3 := G.2.2.1
  rw [hF] at K
  generalize hR : pL ts q f 902 (f i) = R at K
  have go : ∀ (r : pR_) (h1 : am_H) (l : Option am_V), am_fr h h1 rgP → (r.1 = 0 → rgS h1 tx ts sy r.2.1 (cs ++ r.2.2) ∧ i < r.2.1 ∧ i + r.2.2.length ≤ r.2.1) → (¬ r.1 = 0 → rgX h1 ts r.1 r.2.1) → pL ts q f 902 r = R → ex_ (e + 1) m 5 (Ls l) [] h1 Q := by
    intro r h1 l fr1 A1 A2 E1
    refine lp_wf (d := e + 1) (k := m) (pc := 5) (fun s : Nat × pR_ × Option am_V => if s.2.1.1 = 0 then ts.length + 1 - s.2.1.2.1 else 0) (fun s => Ls s.2.2) (fun s h1 => am_fr h h1 rgP ∧ (s.2.1.1 = 0 → rgS h1 tx ts sy s.2.1.2.1 (cs ++ s.2.1.2.2) ∧ i < s.2.1.2.1 ∧ i + s.2.1.2.2.length ≤ s.2.1.2.1 ∧ ts.length < s.1 + s.2.1.2.1) ∧ (¬ s.2.1.1 = 0 → rgX h1 ts s.2.1.1 s.2.1.2.1) ∧ pL ts q f s.1 s.2.1 = R) ?_ (s := (902, r, l)) ⟨fr1, fun z => ⟨(A1 z).1, (A1 z).2.1, (A1 z).2.2, by show ts.length < 902 + r.2.1; omega⟩, A2, E1⟩
    clear E1 A1 A2 fr1
    rintro ⟨mm, r, l⟩ h1 ⟨fr1, A1, A2, E1⟩ nx
    have A1 : r.1 = 0 → rgS h1 tx ts sy r.2.1 (cs ++ r.2.2) ∧ i < r.2.1 ∧ i + r.2.2.length ≤ r.2.1 ∧ ts.length < mm + r.2.1 := A1
    have A2 : ¬ r.1 = 0 → rgX h1 ts r.1 r.2.1 := A2
    have E1 : pL ts q f mm r = R := E1
    show ex_ (e + 1) m 5 (Ls l) [] h1 Q
    by_cases z : r.1 = 0
    · obtain ⟨S1, p1, p2, p3⟩ := A1 z
      have hi1 := S1.1.2.2.2.2.2.1
      obtain ⟨m', hm⟩ : ∃ m', mm = m' + 1 := ⟨mm - 1, by omega⟩
      rw [hm] at E1
      unfold pL at E1
      rw [if_pos z] at E1
      cases y : q (tK ts r.2.1) with
      | none =>
        rw [y] at E1
        have E1 : r = R := E1
        subst E1
        exact out l h1 Q _ _ S1 y (K.1 z h1 fr1 S1)
      | some c =>
        rw [y] at E1
        have E1 : pL ts q f m' (pB r (fun i => pB (f (i + 1)) (pO c))) = R := E1
        have i1 := G.1 _ (hq _ _ y)
        refine mor l h1 Q _ _ c S1 y (fun h2 fr2 R2 => ?_)
        have cl : (cs ++ r.2.2).length ≤ r.2.1 := by rw [List.length_append]; omega
        have F1 := hf _ i1
        refine CE _ _ _ _ (S1.nx fr2 R2) (by omega) ⟨fun w h3 fr3 S3 => ⟨rfl, S3.1.1, ?_⟩, fun w h3 fr3 X3 => ⟨rfl, X3.1, ?_⟩⟩
        · obtain ⟨w1, w2, w3, -⟩ := F1.1 w
          have w4 := hf1 _ i1 w
          refine c_codes S3 (by rw [List.length_append]; omega) (fun h4 fr4 S4 => ⟨rfl, S4.1.1, fun l' => ?_⟩)
          rw [st_y z w] at E1
          refine nx (m', _, l') h4 ?_ ⟨((fr1.tr (nx_fr fr2)).tr fr3).tr fr4, fun _ => ⟨?_, ?_, ?_, ?_⟩, fun v => absurd rfl v, E1⟩
          · show (if (0 : Nat) = 0 then ts.length + 1 - (f (r.2.1 + 1)).2.1 else 0) < (if r.1 = 0 then ts.length + 1 - r.2.1 else 0)
            rw [if_pos rfl, if_pos z]
            omega
          · have := S4
            rw [List.append_assoc, List.append_assoc] at this
            exact this
          · show i < (f (r.2.1 + 1)).2.1
            omega
          · show i + (r.2.2 ++ ((f (r.2.1 + 1)).2.2 ++ [c])).length ≤ (f (r.2.1 + 1)).2.1
            rw [List.length_append, List.length_append]
            show i + (r.2.2.length + ((f (r.2.1 + 1)).2.2.length + 1)) ≤ (f (r.2.1 + 1)).2.1
            omega
          · show ts.length < m' + (f (r.2.1 + 1)).2.1
            omega
        · rw [c_codesX X3]
          refine ⟨rfl, X3.1, fun l' => ?_⟩
          rw [st_n z w] at E1
          refine nx (m', ((f (r.2.1 + 1)).1, (f (r.2.1 + 1)).2.1, r.2.2 ++ (f (r.2.1 + 1)).2.2), l') h3 ?_ ⟨(fr1.tr (nx_fr fr2)).tr fr3, fun v => absurd v w, fun _ => X3, E1⟩
          show (if (f (r.2.1 + 1)).1 = 0 then ts.length + 1 - (f (r.2.1 + 1)).2.1 else 0) < (if r.1 = 0 then ts.length + 1 - r.2.1 else 0)
          rw [if_neg w, if_pos z]
          omega
    · rw [pL_b z] at E1
      subst E1
      exact bad l h1 Q _ _ (A2 z) (K.2 z h1 fr1 (A2 z))
  refine beg h Q S.1.1 (CE _ _ _ _ S hc ⟨fun w h2 fr2 S2 => ⟨rfl, ?_⟩, fun w h2 fr2 X2 => ⟨rfl, ?_⟩⟩)
  · exact go (f i) h2 none fr2 (fun _ => ⟨S2, hf1 _ hi w, ((hf _ hi).1 w).1⟩) (fun v => absurd w v) hR
  · exact go (f i) h2 none fr2 (fun v => absurd v w) (fun _ => X2) hR
