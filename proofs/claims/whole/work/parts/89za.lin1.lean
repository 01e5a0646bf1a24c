/-! ===== the lines of a text, in small: (fault or 0, place, house) ===== -/
abbrev lR_ := Nat × Nat × ho_S
def pN (ts : List (Nat × Nat)) (b i : Nat) : pR_ := if 1000 ≤ tK ts i then (if tK ts i - 1000 < b then (0, i + 1, []) else pF ts 3 i) else pF ts 2 i
def zc (ts : List (Nat × Nat)) (c : Nat) : Nat → Nat → List Nat → Nat × Nat × List Nat
  | 0, i, l => (0, i, l)
  | m + 1, i, l => if 1000 ≤ tK ts i then (if c ≤ tK ts i - 1000 ∨ (tK ts i - 1000) ∈ l then (3, i, l) else if 4 ≤ l.length then (4, i, l) else zc ts c m (i + 1) (l ++ [tK ts i - 1000])) else (0, i, l)
def f_inc (f : fa_S) : fa_S := (f.1 + 1, f.2)
def zC (ts : List (Nat × Nat)) (i : Nat) (H : ho_S) : lR_ := if 10 ≤ f_n H.1 then (4, i, H) else if (zc ts (f_n H.1) 902 (i + 1) []).1 = 0 then (0, (zc ts (f_n H.1) 902 (i + 1) []).2.1, f_inc (f_setp H.1 (f_n H.1) (zc ts (f_n H.1) 902 (i + 1) []).2.2), H.2) else ((zc ts (f_n H.1) 902 (i + 1) []).1, (zc ts (f_n H.1) 902 (i + 1) []).2.1, H)
def zW (ts : List (Nat × Nat)) (i : Nat) : pR_ := if tK ts i = 205 ∨ tK ts i = 206 then (0, i + 1, []) else pF ts 2 i
def zMh (ts : List (Nat × Nat)) (n i : Nat) : pR_ := pB (pN ts 8 (i + 1)) (fun j => pB (pE ts 204 j) (fun j => pB (pN ts n j) (zW ts)))
def zMf (ts : List (Nat × Nat)) (i : Nat) (f : fa_S) : fa_S := (d_def f (nI (tK ts (i + 3) - 1000)) (nI (tK ts (i + 1) - 1000)) (nI (if tK ts (i + 4) = 205 then 0 else 1))).2
def zM (ts : List (Nat × Nat)) (i : Nat) (H : ho_S) : lR_ := if (zMh ts (f_n H.1) i).1 = 0 then (0, (zMh ts (f_n H.1) i).2.1, zMf ts i H.1, H.2) else ((zMh ts (f_n H.1) i).1, (zMh ts (f_n H.1) i).2.1, H)
def zS (ts : List (Nat × Nat)) (sy : Bool) : Nat → pR_ := if sy = true then pS ts sy (lo ts sy 6) else pTr ts sy (lo ts sy 6)
def zLh (ts : List (Nat × Nat)) (sy : Bool) (i : Nat) : pR_ := pB (pE ts 58 (i + 1)) (zS ts sy)
def zLf (sy : Bool) (c : List Nat) (H : ho_S) : ho_S := if sy = true then (H.1, some c, H.2.2) else (H.1, H.2.1, some c, H.2.2.2)
def zL (ts : List (Nat × Nat)) (sy : Bool) (i : Nat) (H : ho_S) : lR_ := if (zLh ts sy i).1 = 0 then (0, (zLh ts sy i).2.1, zLf sy (zLh ts sy i).2.2 H) else ((zLh ts sy i).1, (zLh ts sy i).2.1, H)
def zI (ts : List (Nat × Nat)) (i : Nat) (H : ho_S) : lR_ := if tK ts i = 202 then zC ts i H else if tK ts i = 203 then zM ts i H else if tK ts i = 207 then zL ts true i H else if tK ts i = 208 then zL ts false i H else ((pF ts 2 i).1, i, H)
def zE (ts : List (Nat × Nat)) (i : Nat) (H : ho_S) : lR_ := ((pE ts 59 i).1, (pE ts 59 i).2.1, H.1, H.2.1, H.2.2.1, H.2.2.2 + 1)
def zB (r : lR_) (g : Nat → ho_S → lR_) : lR_ := if r.1 = 0 then g r.2.1 r.2.2 else r
def zHh (ts : List (Nat × Nat)) : pR_ := pB (pE ts 200 0) (fun j => pB (pE ts 201 j) (pN ts 10))
def ho_0 : ho_S := (f_0, none, none, 0)
def zH (ts : List (Nat × Nat)) : lR_ := if (zHh ts).1 = 0 then (0, (zHh ts).2.1, f_setm f_0 (nI (tK ts 2 - 1000)), none, none, 0) else ((zHh ts).1, (zHh ts).2.1, ho_0)
def zP (ts : List (Nat × Nat)) : Nat → lR_ → lR_
  | 0, r => r
  | m + 1, r => if r.1 = 0 then (if tK ts r.2.1 = 1 then r else zP ts m (zB (zI ts r.2.1 r.2.2) (zE ts))) else r
def zA (ts : List (Nat × Nat)) : lR_ := zP ts 902 (zB (zH ts) (zE ts))
/-! what is good about them -/
def okH (H : ho_S) : Prop := fa_gd H.1 ∧ lk true H.2.1 ∧ lk false H.2.2.1
def gZ (ts : List (Nat × Nat)) (i : Nat) (r : lR_) : Prop := (r.1 = 0 → i < r.2.1 ∧ r.2.1 < ts.length ∧ okH r.2.2) ∧ (¬ r.1 = 0 → r.2.1 < ts.length ∧ r.1 ≤ 4)
theorem gR_N {ts : List (Nat × Nat)} {sy : Bool} {i b s : Nat} {a : List Bool} (G : gT ts) (hi : i < ts.length) : gR ts sy i (pN ts b i) 1 0 a a s := by
  unfold pN
  by_cases z : 1000 ≤ tK ts i
  · rw [if_pos z]
    have := G.1 i (by omega)
    by_cases y : tK ts i - 1000 < b
    · rw [if_pos y]
      exact ⟨fun _ => ⟨Nat.le_refl _, by show i ≤ i + 1; omega, this, fun τ _ => rfl⟩, fun y => absurd rfl y⟩
    · rw [if_neg y]
      exact gR_F hi (by decide) (by decide)
  · rw [if_neg z]
    exact gR_F hi (by decide) (by decide)
theorem gR_W {ts : List (Nat × Nat)} {sy : Bool} {i s : Nat} {a : List Bool} (G : gT ts) (hi : i < ts.length) : gR ts sy i (zW ts i) 1 0 a a s := by
  unfold zW
  by_cases z : tK ts i = 205 ∨ tK ts i = 206
  · rw [if_pos z]
    have := G.1 i (by omega)
    exact ⟨fun _ => ⟨Nat.le_refl _, by show i ≤ i + 1; omega, this, fun τ _ => rfl⟩, fun y => absurd rfl y⟩
  · rw [if_neg z]
    exact gR_F hi (by decide) (by decide)
/-- a row of parents -/
def pG (c : Nat) (l : List Nat) : Prop := l.length ≤ 4 ∧ (∀ p ∈ l, p < c) ∧ l.Nodup
theorem g_zc {ts : List (Nat × Nat)} {c : Nat} (G : gT ts) : ∀ m i l, i < ts.length → pG c l → ((zc ts c m i l).1 = 0 → i ≤ (zc ts c m i l).2.1 ∧ (zc ts c m i l).2.1 < ts.length ∧ pG c (zc ts c m i l).2.2) ∧ (¬ (zc ts c m i l).1 = 0 → (zc ts c m i l).2.1 < ts.length ∧ (zc ts c m i l).1 ≤ 4) := by
  intro m
  induction m with
  | zero => intro i l hi g; exact ⟨fun _ => ⟨Nat.le_refl _, hi, g⟩, fun z => absurd rfl z⟩
  | succ m ih =>
    intro i l hi g
    unfold zc
    by_cases z : 1000 ≤ tK ts i
    · rw [if_pos z]
      have i1 := G.1 i (by omega)
      by_cases y : c ≤ tK ts i - 1000 ∨ (tK ts i - 1000) ∈ l
      · rw [if_pos y]
        exact ⟨fun w => (by cases w), fun _ => ⟨hi, (by decide : (3 : Nat) ≤ 4)⟩⟩
      · rw [if_neg y]
        by_cases x : 4 ≤ l.length
        · rw [if_pos x]
          exact ⟨fun w => (by cases w), fun _ => ⟨hi, (by decide : (4 : Nat) ≤ 4)⟩⟩
        · rw [if_neg x]
          have y1 : tK ts i - 1000 < c := by
            apply Nat.lt_of_not_le
            exact fun w => y (Or.inl w)
          have y2 : ¬ (tK ts i - 1000) ∈ l := fun w => y (Or.inr w)
          have := ih (i + 1) (l ++ [tK ts i - 1000]) i1 ⟨by rw [List.length_append]; show l.length + 1 ≤ 4; omega, fun p hp => by
            rcases List.mem_append.1 hp with h | h
            · exact g.2.1 p h
            · rw [List.mem_singleton.1 h]; exact y1, List.nodup_append.2 ⟨g.2.2, by simp, fun a ha b hb => by
            rw [List.mem_singleton.1 hb]
            intro e
            exact y2 (e ▸ ha)⟩⟩
          exact ⟨fun w => ⟨by have := (this.1 w).1; omega, (this.1 w).2⟩, this.2⟩
    · rw [if_neg z]
      exact ⟨fun _ => ⟨Nat.le_refl _, hi, g⟩, fun z => absurd rfl z⟩
theorem gd_inc {f : fa_S} {l : List Nat} (gd : fa_gd f) (hn : f_n f < 10) (g : pG (f_n f) l) : fa_gd (f_inc (f_setp f (f_n f) l)) := by
  obtain ⟨ok, g1, g2, g3, g4⟩ := gd
  refine ⟨⟨by show f_n f + 1 ≤ 10; omega, fun q => ?_⟩, g1, fun c m hc => g2 c m (by have : f_n f + 1 ≤ c := hc; omega), fun q hq => ?_, g4⟩
  · show (if q = f_n f then l else f_p f q).length ≤ 4 ∧ (∀ p ∈ (if q = f_n f then l else f_p f q), p < q) ∧ (if q = f_n f then l else f_p f q).Nodup ∧ (10 ≤ q → (if q = f_n f then l else f_p f q) = [])
    by_cases z : q = f_n f
    · rw [if_pos z]
      exact ⟨g.1, by rw [z]; exact g.2.1, g.2.2, fun h => by omega⟩
    · rw [if_neg z]
      exact ok.2 q
  · show (if q = f_n f then l else f_p f q) = []
    have hq : f_n f + 1 ≤ q := hq
    rw [if_neg (by omega)]
    exact g3 q (by omega)
theorem g_zC {ts : List (Nat × Nat)} {i : Nat} {H : ho_S} (G : gT ts) (hi : i + 1 < ts.length) (ok : okH H) : gZ ts i (zC ts i H) := by
  unfold zC
  by_cases z : 10 ≤ f_n H.1
  · rw [if_pos z]
    exact ⟨fun w => (by cases w), fun _ => ⟨by show i < ts.length; omega, (by decide : (4 : Nat) ≤ 4)⟩⟩
  · rw [if_neg z]
    have g := g_zc (c := f_n H.1) G 902 (i + 1) [] hi ⟨by decide, fun p hp => (by cases hp), List.nodup_nil⟩
    by_cases y : (zc ts (f_n H.1) 902 (i + 1) []).1 = 0
    · rw [if_pos y]
      obtain ⟨a1, a2, a3⟩ := g.1 y
      exact ⟨fun _ => ⟨by show i < (zc ts (f_n H.1) 902 (i + 1) []).2.1; omega, a2, gd_inc ok.1 (by omega) a3, ok.2⟩, fun w => absurd rfl w⟩
    · rw [if_neg y]
      exact ⟨fun w => absurd w y, fun w => g.2 w⟩
theorem g_zMh {ts : List (Nat × Nat)} {i n s : Nat} {sy : Bool} {a : List Bool} (G : gT ts) (hi : i + 1 < ts.length) : gR ts sy (i + 1) (zMh ts n i) 4 0 a a s := by
  unfold zMh
  refine gR_le (u := 1 + (1 + (1 + 1))) (v := 0 + (0 + (0 + 0))) (gR_bind (gR_N G hi) (fun z => ?_)) (by omega) (Nat.le_refl _)
  have j1 := gR_j (gR_N (sy := sy) (s := 0) (a := []) G hi) z
  refine gR_bind (gR_E G j1 (by decide)) (fun z => ?_)
  have j2 := gR_j (gR_E (sy := sy) (s := 0) (a := []) G j1 (by decide : ¬ 204 = 1)) z
  refine gR_bind (gR_N G j2) (fun z => ?_)
  have j3 := gR_j (gR_N (sy := sy) (s := 0) (a := []) G j2) z
  exact gR_W G j3
theorem g_zM {ts : List (Nat × Nat)} {i : Nat} {H : ho_S} (G : gT ts) (hi : i + 1 < ts.length) (ok : okH H) : gZ ts i (zM ts i H) := by
  unfold zM
  have g := g_zMh (sy := true) (s := 0) (a := []) (n := f_n H.1) G hi
  by_cases y : (zMh ts (f_n H.1) i).1 = 0
  · rw [if_pos y]
    obtain ⟨a1, a2, a3, -⟩ := g.1 y
    have gd : fa_gd (zMf ts i H.1) := by unfold zMf; exact gd_def ok.1
    generalize zMf ts i H.1 = g at gd
    have o2 : okH (g, H.2) := ⟨gd, ok.2⟩
    generalize (zMh ts (f_n H.1) i).2.1 = j at a1 a2 a3
    exact ⟨fun _ => ⟨by show i < j; omega, a3, o2⟩, fun w => absurd rfl w⟩
  · rw [if_neg y]
    exact ⟨fun w => absurd w y, fun w => g.2 w⟩
theorem g_zS {ts : List (Nat × Nat)} {sy : Bool} {i : Nat} (G : gT ts) (hi : i < ts.length) : gR ts sy i (zS ts sy i) 0 0 [] [!sy] 50 := by
  unfold zS
  cases sy with
  | true => exact gR_le (g_pS G (g_lo G 6) hi) (by omega) (by omega)
  | false => exact gR_le (g_pT G (g_lo G 6) hi) (by omega) (by omega)
theorem g_zLh {ts : List (Nat × Nat)} {sy : Bool} {i : Nat} (G : gT ts) (hi : i + 1 < ts.length) : gR ts sy (i + 1) (zLh ts sy i) 1 0 [] [!sy] 50 := by
  unfold zLh
  exact gR_le (gR_bind (gR_E G hi (by decide)) (fun z => g_zS G (gR_j (gR_E (sy := sy) (s := 0) (a := []) G hi (by decide : ¬ 58 = 1)) z))) (by omega) (Nat.le_refl _)
theorem g_zL {ts : List (Nat × Nat)} {sy : Bool} {i : Nat} {H : ho_S} (G : gT ts) (hi : i + 1 < ts.length) (ok : okH H) : gZ ts i (zL ts sy i H) := by
  unfold zL
  have g := g_zLh (sy := sy) G hi
  have G3 := G.2.2.1
  by_cases y : (zLh ts sy i).1 = 0
  · rw [if_pos y]
    obtain ⟨a1, a2, a3, a4⟩ := g.1 y
    refine ⟨fun _ => ⟨by show i < (zLh ts sy i).2.1; omega, a3, ?_⟩, fun w => absurd rfl w⟩
    show okH (zLf sy (zLh ts sy i).2.2 H)
    have t := a4 [] (by decide)
    unfold zLf
    cases sy with
    | true => exact ⟨ok.1, fun c hc => (by cases hc; exact ⟨t, by omega⟩), ok.2.2⟩
    | false => exact ⟨ok.1, ok.2.1, fun c hc => by cases hc; exact ⟨t, by omega⟩⟩
  · rw [if_neg y]
    exact ⟨fun w => absurd w y, fun w => g.2 w⟩
theorem gZ_F {ts : List (Nat × Nat)} {i k : Nat} {H : ho_S} (hi : i < ts.length) (hk : k ≤ 4) (h0 : 0 < k) : gZ ts i ((pF ts k i).1, i, H) := ⟨fun w => absurd w (pF_ne h0), fun w => ⟨hi, ((gR_F (sy := true) (u := 0) (v := 0) (s := 0) (a := []) (b := []) hi hk h0).2 w).2⟩⟩
theorem g_zI {ts : List (Nat × Nat)} {i : Nat} {H : ho_S} (G : gT ts) (hi : i < ts.length) (ok : okH H) : gZ ts i (zI ts i H) := by
  unfold zI
  split
  · exact g_zC G (G.1 i (by omega)) ok
  · split
    · exact g_zM G (G.1 i (by omega)) ok
    · split
      · exact g_zL G (G.1 i (by omega)) ok
      · split
        · exact g_zL G (G.1 i (by omega)) ok
        · exact gZ_F hi (by decide) (by decide)
theorem g_zE {ts : List (Nat × Nat)} {i : Nat} {H : ho_S} (G : gT ts) (hi : i < ts.length) (ok : okH H) : gZ ts i (zE ts i H) := by
  have g := gR_E (sy := true) (s := 0) (a := []) (t := 59) G hi (by decide)
  refine ⟨fun w => ?_, fun w => g.2 w⟩
  obtain ⟨a1, a2, a3, -⟩ := g.1 w
  exact ⟨by show i < (pE ts 59 i).2.1; omega, a3, ok⟩
theorem g_zB {ts : List (Nat × Nat)} {i : Nat} {r : lR_} {g : Nat → ho_S → lR_} (h1 : gZ ts i r) (h2 : r.1 = 0 → gZ ts r.2.1 (g r.2.1 r.2.2)) : gZ ts i (zB r g) := by
  unfold zB
  by_cases z : r.1 = 0
  · rw [if_pos z]
    have a := h1.1 z
    exact ⟨fun w => ⟨by have := ((h2 z).1 w).1; omega, ((h2 z).1 w).2⟩, (h2 z).2⟩
  · rw [if_neg z]
    exact h1
theorem g_zHh {ts : List (Nat × Nat)} {s : Nat} {sy : Bool} {a : List Bool} (G : gT ts) : gR ts sy 0 (zHh ts) 3 0 a a s := by
  have hi := G.2.2.2
  unfold zHh
  refine gR_le (u := 1 + (1 + 1)) (v := 0 + (0 + 0)) (gR_bind (gR_E G hi (by decide)) (fun z => ?_)) (by omega) (Nat.le_refl _)
  have j1 := gR_j (gR_E (sy := sy) (s := 0) (a := []) G hi (by decide : ¬ 200 = 1)) z
  refine gR_bind (gR_E G j1 (by decide)) (fun z => ?_)
  have j2 := gR_j (gR_E (sy := sy) (s := 0) (a := []) G j1 (by decide : ¬ 201 = 1)) z
  exact gR_N G j2
theorem gd_0 {m : Nat} (hm : m < 10) : fa_gd (f_setm f_0 (nI m)) := ⟨⟨(by decide : (0 : Nat) ≤ 10), fun c => ⟨by show ([] : List Nat).length ≤ 4; decide, fun p hp => (by cases hp), List.nodup_nil, fun _ => rfl⟩⟩, fun c m => ⟨0, by decide, rfl⟩, fun c m _ => rfl, fun c _ => rfl, m, hm, rfl⟩
theorem zHh_y {ts : List (Nat × Nat)} (z : (zHh ts).1 = 0) : tK ts 0 = 200 ∧ tK ts 1 = 201 ∧ 1000 ≤ tK ts 2 ∧ tK ts 2 - 1000 < 10 ∧ (zHh ts).2.1 = 3 := by
  unfold zHh at z ⊢
  by_cases a : tK ts 0 = 200
  · rw [pE_y a] at z ⊢
    rw [pB_y rfl] at z ⊢
    have z : (pB (pE ts 201 1) (pN ts 10)).1 = 0 := z
    by_cases b : tK ts 1 = 201
    · rw [pE_y b, pB_y rfl] at z
      have z : (pN ts 10 2).1 = 0 := z
      have e : (pB (pE ts 201 1) (pN ts 10)).2.1 = (pN ts 10 2).2.1 := by rw [pE_y b, pB_y rfl]
      unfold pN at z e
      by_cases c : 1000 ≤ tK ts 2
      · rw [if_pos c] at z e
        by_cases d : tK ts 2 - 1000 < 10
        · rw [if_pos d] at e
          exact ⟨a, b, c, d, e⟩
        · rw [if_neg d] at z
          exact absurd z (pF_ne (by decide))
      · rw [if_neg c] at z
        exact absurd z (pF_ne (by decide))
    · rw [pE_n b, pB_n (pF_ne (by decide))] at z
      exact absurd z (pF_ne (by decide))
  · rw [pE_n a, pB_n (pF_ne (by decide))] at z
    exact absurd z (pF_ne (by decide))
theorem g_zH {ts : List (Nat × Nat)} (G : gT ts) : gZ ts 0 (zH ts) := by
  unfold zH
  have g := g_zHh (sy := true) (s := 0) (a := []) G
  by_cases y : (zHh ts).1 = 0
  · rw [if_pos y]
    have a := zHh_y y
    obtain ⟨a1, a2, a3, -⟩ := g.1 y
    exact ⟨fun _ => ⟨by show 0 < (zHh ts).2.1; omega, a3, gd_0 a.2.2.2.1, fun c hc => (by cases hc), fun c hc => (by cases hc)⟩, fun w => absurd rfl w⟩
  · rw [if_neg y]
    exact ⟨fun w => absurd w y, fun w => g.2 w⟩
