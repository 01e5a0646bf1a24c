/-! ===== the laws' grammar, in small: (fault or 0, place, codes) ===== -/
def gT (ts : List (Nat × Nat)) : Prop := (∀ i, ¬ tK ts i = 1 → i + 1 < ts.length) ∧ (∀ k, tK ts k < 2000) ∧ ts.length ≤ 901 ∧ 0 < ts.length
abbrev pR_ := Nat × Nat × List Nat
def pF (ts : List (Nat × Nat)) (k i : Nat) : pR_ := (if tK ts i = 2 then 1 else k, i, [])
def pB (r : pR_) (f : Nat → pR_) : pR_ := if r.1 = 0 then ((f r.2.1).1, (f r.2.1).2.1, r.2.2 ++ (f r.2.1).2.2) else r
def pE (ts : List (Nat × Nat)) (t i : Nat) : pR_ := if tK ts i = t then (0, i + 1, []) else pF ts 2 i
def pO (c i : Nat) : pR_ := (0, i, [c])
def pL (ts : List (Nat × Nat)) (q : Nat → Option Nat) (f : Nat → pR_) : Nat → pR_ → pR_
  | 0, r => r
  | m + 1, r => if r.1 = 0 then (match q (tK ts r.2.1) with
    | none => r
    | some c => pL ts q f m (pB r (fun i => pB (f (i + 1)) (pO c)))) else r
def wO (sy : Bool) (t : Nat) : Option Nat := if t = 203 then some 0 else if t = 204 then some 1 else if t = 213 then some 2 else if t = 201 then some 3 else if t = 206 then (if sy = true then some 4 else none) else if t = 214 then (if sy = true then some 5 else none) else none
abbrev pG_ := Option ((Nat → pR_) × (Nat → pR_) × (Nat → pR_))
def pIf (ts : List (Nat × Nat)) (g : (Nat → pR_) × (Nat → pR_) × (Nat → pR_)) (i : Nat) : pR_ := pB (g.2.1 i) (fun j => pB (pE ts 210 j) (fun j => pB (g.1 j) (fun j => pB (pE ts 211 j) (fun j => pB (g.1 j) (fun j => pB (pE ts 212 j) (pO 3009))))))
def pA (ts : List (Nat × Nat)) (sy : Bool) (lo : pG_) (i : Nat) : pR_ := if 1000 ≤ tK ts i then (0, i + 1, [tK ts i - 1000]) else if tK ts i = 40 then (match lo with
    | none => pF ts 4 i
    | some g => pB (g.1 (i + 1)) (pE ts 41)) else if tK ts i = 209 then (match lo with
    | none => pF ts 4 i
    | some g => pIf ts g (i + 1)) else match wO sy (tK ts i) with
    | some w => (0, i + 1, [1000 + w])
    | none => pF ts 2 i
def qM (t : Nat) : Option Nat := if t = 42 then some 3002 else none
def qS (t : Nat) : Option Nat := if t = 43 then some 3000 else if t = 45 then some 3001 else none
def qA (t : Nat) : Option Nat := if t = 216 then some 3007 else none
def qO (t : Nat) : Option Nat := if t = 215 then some 3008 else none
def qC (t : Nat) : Option Nat := if t = 61 then some 3003 else if t = 60 then some 3004 else if t = 62 then some 3005 else none
def pM (ts : List (Nat × Nat)) (sy : Bool) (lo : pG_) (i : Nat) : pR_ := pL ts qM (pA ts sy lo) 902 (pA ts sy lo i)
def pS (ts : List (Nat × Nat)) (sy : Bool) (lo : pG_) (i : Nat) : pR_ := pL ts qS (pM ts sy lo) 902 (pM ts sy lo i)
def pK (ts : List (Nat × Nat)) (sy : Bool) (lo : pG_) (i : Nat) : pR_ := match qC (tK ts i) with
  | some c => pB (pS ts sy lo (i + 1)) (pO c)
  | none => pF ts 2 i
def pU (ts : List (Nat × Nat)) (sy : Bool) (lo : pG_) (i : Nat) : pR_ := if tK ts i = 217 then (match lo with
    | none => pF ts 4 i
    | some g => pB (g.2.2 (i + 1)) (pO 3006)) else if tK ts i = 91 then (match lo with
    | none => pF ts 4 i
    | some g => pB (g.2.1 (i + 1)) (pE ts 93)) else pB (pS ts sy lo i) (pK ts sy lo)
def pH (ts : List (Nat × Nat)) (sy : Bool) (lo : pG_) (i : Nat) : pR_ := pL ts qA (pU ts sy lo) 902 (pU ts sy lo i)
def pTr (ts : List (Nat × Nat)) (sy : Bool) (lo : pG_) (i : Nat) : pR_ := pL ts qO (pH ts sy lo) 902 (pH ts sy lo i)
def lo (ts : List (Nat × Nat)) (sy : Bool) : Nat → pG_
  | 0 => none
  | n + 1 => some (pS ts sy (lo ts sy n), pTr ts sy (lo ts sy n), pU ts sy (lo ts sy n))
/-! what is good about them -/
def gR (ts : List (Nat × Nat)) (sy : Bool) (i : Nat) (r : pR_) (u v : Nat) (a b : List Bool) (s : Nat) : Prop := (r.1 = 0 → i + r.2.2.length + u ≤ r.2.1 + v ∧ i ≤ r.2.1 ∧ r.2.1 < ts.length ∧ ∀ τ, τ.length + s ≤ 100 → tcs sy r.2.2 (a ++ τ) = some (b ++ τ)) ∧ (¬ r.1 = 0 → r.2.1 < ts.length ∧ r.1 ≤ 4)
theorem tcs_app {sy : Bool} : ∀ {a b : List Nat} {τ : List Bool}, tcs sy (a ++ b) τ = (tcs sy a τ).bind (tcs sy b) := by
  intro a
  induction a with
  | nil => intro b τ; rfl
  | cons x a ih =>
    intro b τ
    show (tc sy x τ).bind (tcs sy (a ++ b)) = ((tc sy x τ).bind (tcs sy a)).bind (tcs sy b)
    cases tc sy x τ with
    | none => rfl
    | some y => exact ih
theorem gR_bind {ts : List (Nat × Nat)} {sy : Bool} {i u v u' v' s : Nat} {r : pR_} {f : Nat → pR_} {a b c : List Bool} (h1 : gR ts sy i r u v a b s) (h2 : r.1 = 0 → gR ts sy r.2.1 (f r.2.1) u' v' b c s) : gR ts sy i (pB r f) (u + u') (v + v') a c s := by
  unfold pB
  by_cases z : r.1 = 0
  · rw [if_pos z]
    obtain ⟨p1, p2, p3, p4⟩ := h1.1 z
    have H := h2 z
    refine ⟨fun y => ?_, fun y => H.2 y⟩
    obtain ⟨q1, q2, q3, q4⟩ := H.1 y
    refine ⟨?_, by show i ≤ (f r.2.1).2.1; omega, q3, fun τ hτ => ?_⟩
    · show i + (r.2.2 ++ (f r.2.1).2.2).length + (u + u') ≤ (f r.2.1).2.1 + (v + v')
      rw [List.length_append]
      omega
    · show tcs sy (r.2.2 ++ (f r.2.1).2.2) (a ++ τ) = _
      rw [tcs_app, p4 τ hτ]
      exact q4 τ hτ
  · rw [if_neg z]
    exact ⟨fun y => absurd y z, fun y => h1.2 y⟩
theorem gR_le {ts : List (Nat × Nat)} {sy : Bool} {i u v u' v' s s' : Nat} {r : pR_} {a b : List Bool} (h : gR ts sy i r u v a b s) (h1 : u' + v ≤ u + v') (h2 : s ≤ s') : gR ts sy i r u' v' a b s' := ⟨fun z => by
  obtain ⟨p1, p2, p3, p4⟩ := h.1 z
  exact ⟨by omega, p2, p3, fun τ hτ => p4 τ (by omega)⟩, h.2⟩
theorem gR_up {ts : List (Nat × Nat)} {sy : Bool} {i u v s : Nat} {r : pR_} {a b c : List Bool} (h : gR ts sy i r u v a b s) : gR ts sy i r u v (a ++ c) (b ++ c) (s + c.length) := ⟨fun z => by
  obtain ⟨p1, p2, p3, p4⟩ := h.1 z
  refine ⟨p1, p2, p3, fun τ hτ => ?_⟩
  rw [List.append_assoc, List.append_assoc]
  exact p4 _ (by rw [List.length_append]; omega), h.2⟩
theorem gR_F {ts : List (Nat × Nat)} {sy : Bool} {i k u v s : Nat} {a b : List Bool} (hi : i < ts.length) (hk : k ≤ 4) (h0 : 0 < k) : gR ts sy i (pF ts k i) u v a b s := by
  unfold pF
  refine ⟨fun z => ?_, fun z => ⟨hi, ?_⟩⟩
  · exfalso
    have z : (if tK ts i = 2 then 1 else k) = 0 := z
    split at z <;> omega
  · show (if tK ts i = 2 then 1 else k) ≤ 4
    split <;> omega
theorem gR_E {ts : List (Nat × Nat)} {sy : Bool} {i t s : Nat} {a : List Bool} (G : gT ts) (hi : i < ts.length) (ht : ¬ t = 1) : gR ts sy i (pE ts t i) 1 0 a a s := by
  unfold pE
  by_cases z : tK ts i = t
  · rw [if_pos z]
    have := G.1 i (by rw [z]; exact ht)
    exact ⟨fun _ => ⟨Nat.le_refl _, by show i ≤ i + 1; omega, this, fun τ _ => rfl⟩, fun y => absurd rfl y⟩
  · rw [if_neg z]
    exact gR_F hi (by decide) (by decide)
theorem gR_O {ts : List (Nat × Nat)} {sy : Bool} {i c s : Nat} {a b : List Bool} (hi : i < ts.length) (hc : ∀ τ, tc sy c (a ++ τ) = some (b ++ τ)) : gR ts sy i (pO c i) 0 1 a b s := ⟨fun _ => ⟨Nat.le_refl _, Nat.le_refl _, hi, fun τ _ => by
  show (tc sy c (a ++ τ)).bind (tcs sy []) = _
  rw [hc]; rfl⟩, fun y => absurd rfl y⟩
/-- one token of its own -/
theorem gR_1 {ts : List (Nat × Nat)} {sy : Bool} {i c s : Nat} {a b : List Bool} (G : gT ts) (ht : ¬ tK ts i = 1) (hc : ∀ τ, τ.length + s ≤ 100 → tc sy c (a ++ τ) = some (b ++ τ)) : gR ts sy i (0, i + 1, [c]) 0 0 a b s := ⟨fun _ => ⟨Nat.le_refl _, by show i ≤ i + 1; omega, G.1 i ht, fun τ hτ => by
  show (tc sy c (a ++ τ)).bind (tcs sy []) = _
  rw [hc τ hτ]; rfl⟩, fun y => absurd rfl y⟩
theorem gR_L {ts : List (Nat × Nat)} {sy : Bool} {q : Nat → Option Nat} {f : Nat → pR_} {b : Bool} {s : Nat} (G : gT ts) (hf : ∀ j, j < ts.length → gR ts sy j (f j) 0 0 [] [b] s) (hq : ∀ t c, q t = some c → ¬ t = 1 ∧ ∀ τ, tc sy c (b :: b :: τ) = some (b :: τ)) : ∀ m i r, gR ts sy i r 0 0 [] [b] (s + 1) → gR ts sy i (pL ts q f m r) 0 0 [] [b] (s + 1) := by
  intro m
  induction m with
  | zero => intro i r h; exact h
  | succ m ih =>
    intro i r h
    unfold pL
    by_cases z : r.1 = 0
    · rw [if_pos z]
      cases y : q (tK ts r.2.1) with
      | none => exact h
      | some c =>
        obtain ⟨t1, t2⟩ := hq _ _ y
        have g1 := G.1 r.2.1 t1
        refine ih i _ (gR_le (u := 0 + 1) (v := 0 + 1) (gR_bind h (fun _ => ?_)) (by omega) (Nat.le_refl _))
        -- the step, the call, the code
        have e1 : gR ts sy r.2.1 (pB (f (r.2.1 + 1)) (pO c)) 1 1 ([] ++ [b]) [b] (s + 1) := by
          have h3 : gR ts sy (r.2.1 + 1) (pB (f (r.2.1 + 1)) (pO c)) (0 + 0) (0 + 1) ([] ++ [b]) [b] (s + 1) := by
            refine gR_bind (b := [b] ++ [b]) (gR_up (c := [b]) (hf _ g1)) (fun z3 => ?_)
            have := (hf _ g1).1 z3
            exact gR_O this.2.2.1 (fun τ => t2 τ)
          refine ⟨fun z4 => ?_, h3.2⟩
          obtain ⟨p1, p2, p3, p4⟩ := h3.1 z4
          exact ⟨by omega, by omega, p3, p4⟩
        exact e1
    · rw [if_neg z]
      exact h
theorem gR_s {ts : List (Nat × Nat)} {sy : Bool} {i u v s : Nat} {r : pR_} {a b : List Bool} (h : gR ts sy (i + 1) r u v a b s) : gR ts sy i r (u + 1) v a b s := ⟨fun z => by
  obtain ⟨p1, p2, p3, p4⟩ := h.1 z
  exact ⟨by omega, by omega, p3, p4⟩, h.2⟩
theorem gR_j {ts : List (Nat × Nat)} {sy : Bool} {i u v s : Nat} {r : pR_} {a b : List Bool} (h : gR ts sy i r u v a b s) (z : r.1 = 0) : r.2.1 < ts.length := (h.1 z).2.2.1
/-- the three of one level -/
def gL (ts : List (Nat × Nat)) (sy : Bool) (g : (Nat → pR_) × (Nat → pR_) × (Nat → pR_)) (s : Nat) : Prop := ∀ i, i < ts.length → gR ts sy i (g.1 i) 0 0 [] [false] s ∧ gR ts sy i (g.2.1 i) 0 0 [] [true] s ∧ gR ts sy i (g.2.2 i) 0 0 [] [true] s
def gO (ts : List (Nat × Nat)) (sy : Bool) (l : pG_) (s : Nat) : Prop := 1 ≤ s ∧ ∀ g, l = some g → gL ts sy g s
theorem g_pIf {ts : List (Nat × Nat)} {sy : Bool} {g : (Nat → pR_) × (Nat → pR_) × (Nat → pR_)} {s i : Nat} (G : gT ts) (hg : gL ts sy g s) (hi : i < ts.length) : gR ts sy i (pIf ts g i) 0 0 [] [false] (s + 2) := by
  unfold pIf
  have U : ∀ j, j < ts.length → gR ts sy j (g.1 j) 0 0 [true] [false, true] (s + 2) := fun j hj => gR_le (gR_up (c := [true]) (hg j hj).1) (Nat.le_refl _) (by show s + 1 ≤ s + 2; omega)
  have V : ∀ j, j < ts.length → gR ts sy j (g.1 j) 0 0 [false, true] [false, false, true] (s + 2) := fun j hj => gR_up (c := [false, true]) (hg j hj).1
  have W := gR_le (s' := s + 2) (hg i hi).2.1 (Nat.le_refl _) (by omega)
  refine gR_le (u := 0 + (1 + (0 + (1 + (0 + (1 + 0)))))) (v := 0 + (0 + (0 + (0 + (0 + (0 + 1)))))) (gR_bind W (fun z => ?_)) (by omega) (Nat.le_refl _)
  have j1 := gR_j W z
  refine gR_bind (gR_E G j1 (by decide)) (fun z => ?_)
  have j2 := gR_j (gR_E (sy := sy) (s := 0) (a := []) G j1 (by decide : ¬ 210 = 1)) z
  refine gR_bind (U _ j2) (fun z => ?_)
  have j3 := gR_j (U _ j2) z
  refine gR_bind (gR_E G j3 (by decide)) (fun z => ?_)
  have j4 := gR_j (gR_E (sy := sy) (s := 0) (a := []) G j3 (by decide : ¬ 211 = 1)) z
  refine gR_bind (V _ j4) (fun z => ?_)
  have j5 := gR_j (V _ j4) z
  refine gR_bind (gR_E G j5 (by decide)) (fun z => ?_)
  have j6 := gR_j (gR_E (sy := sy) (s := 0) (a := []) G j5 (by decide : ¬ 212 = 1)) z
  exact gR_O j6 (fun τ => by cases sy <;> rfl)
theorem wO_lt {sy : Bool} {t w : Nat} (h : wO sy t = some w) : t < 1000 ∧ ¬ t = 1 ∧ (w ≤ 3 ∨ (sy = true ∧ 4 ≤ w ∧ w ≤ 5)) := by
  unfold wO at h
  repeat' split at h
  all_goals first | (cases h; fail) | skip
  all_goals simp only [Option.some.injEq, reduceCtorEq] at h
  all_goals (subst h; rename_i z; refine ⟨by omega, by omega, ?_⟩)
  all_goals first | (left; omega) | (right; exact ⟨by assumption, by omega, by omega⟩)
theorem g_pA {ts : List (Nat × Nat)} {sy : Bool} {l : pG_} {s i : Nat} (G : gT ts) (hl : gO ts sy l s) (hi : i < ts.length) : gR ts sy i (pA ts sy l i) 0 0 [] [false] (s + 2) := by
  unfold pA
  by_cases z : 1000 ≤ tK ts i
  · rw [if_pos z]
    have b := G.2.1 i
    refine gR_1 G (by omega) (fun τ hτ => ?_)
    unfold tc
    rw [if_pos (Or.inl (by omega))]
    exact if_pos (show τ.length < 100 by omega)
  · rw [if_neg z]
    by_cases y : tK ts i = 40
    · rw [if_pos y]
      have i1 := G.1 i (by omega)
      cases l with
      | none => exact gR_F hi (by decide) (by decide)
      | some g =>
        have W := gR_le (s' := s + 2) ((hl.2 g rfl) _ i1).1 (Nat.le_refl _) (by omega)
        refine gR_le (gR_s (gR_bind W (fun z => gR_E G (gR_j W z) (by decide)))) (by omega) (Nat.le_refl _)
    · rw [if_neg y]
      by_cases x : tK ts i = 209
      · rw [if_pos x]
        have i1 := G.1 i (by omega)
        cases l with
        | none => exact gR_F hi (by decide) (by decide)
        | some g => exact gR_le (gR_s (g_pIf G (hl.2 g rfl) i1)) (by omega) (Nat.le_refl _)
      · rw [if_neg x]
        cases w : wO sy (tK ts i) with
        | none => exact gR_F hi (by decide) (by decide)
        | some k =>
          have := wO_lt w
          refine gR_1 G this.2.1 (fun τ hτ => ?_)
          unfold tc
          rw [if_pos (by rcases this.2.2 with h | ⟨h1, h2, h3⟩; exact Or.inr (Or.inl ⟨by omega, by omega⟩); exact Or.inr (Or.inr ⟨h1, by omega, by omega⟩))]
          exact if_pos (show τ.length < 100 by omega)
theorem g_pM {ts : List (Nat × Nat)} {sy : Bool} {l : pG_} {s i : Nat} (G : gT ts) (hl : gO ts sy l s) (hi : i < ts.length) : gR ts sy i (pM ts sy l i) 0 0 [] [false] (s + 3) := by
  refine gR_L G (s := s + 2) (fun j hj => g_pA G hl hj) (fun t c h => ?_) _ _ _ (gR_le (g_pA G hl hi) (by omega) (by omega))
  unfold qM at h
  split at h
  · cases h; exact ⟨by omega, fun τ => by cases sy <;> rfl⟩
  · cases h
theorem g_pS {ts : List (Nat × Nat)} {sy : Bool} {l : pG_} {s i : Nat} (G : gT ts) (hl : gO ts sy l s) (hi : i < ts.length) : gR ts sy i (pS ts sy l i) 0 0 [] [false] (s + 4) := by
  refine gR_L G (s := s + 3) (fun j hj => g_pM G hl hj) (fun t c h => ?_) _ _ _ (gR_le (g_pM G hl hi) (by omega) (by omega))
  unfold qS at h
  split at h
  · cases h; exact ⟨by omega, fun τ => by cases sy <;> rfl⟩
  · split at h
    · cases h; exact ⟨by omega, fun τ => by cases sy <;> rfl⟩
    · cases h
theorem g_pK {ts : List (Nat × Nat)} {sy : Bool} {l : pG_} {s i : Nat} (G : gT ts) (hl : gO ts sy l s) (hi : i < ts.length) : gR ts sy i (pK ts sy l i) 0 0 [false] [true] (s + 5) := by
  unfold pK
  cases w : qC (tK ts i) with
  | none => exact gR_F hi (by decide) (by decide)
  | some c =>
    have h : ¬ tK ts i = 1 ∧ ∀ τ, tc sy c (false :: false :: τ) = some (true :: τ) := by
      unfold qC at w
      split at w
      · cases w; exact ⟨by omega, fun τ => by cases sy <;> rfl⟩
      · split at w
        · cases w; exact ⟨by omega, fun τ => by cases sy <;> rfl⟩
        · split at w
          · cases w; exact ⟨by omega, fun τ => by cases sy <;> rfl⟩
          · cases w
    have i1 := G.1 i h.1
    have W := gR_up (c := [false]) (g_pS G hl i1)
    exact gR_le (gR_s (gR_bind W (fun z => gR_O (b := [true]) (gR_j W z) (fun τ => h.2 τ)))) (by omega) (by show s + 4 + 1 ≤ s + 5; omega)
theorem g_pU {ts : List (Nat × Nat)} {sy : Bool} {l : pG_} {s i : Nat} (G : gT ts) (hl : gO ts sy l s) (hi : i < ts.length) : gR ts sy i (pU ts sy l i) 0 0 [] [true] (s + 5) := by
  unfold pU
  by_cases z : tK ts i = 217
  · rw [if_pos z]
    have i1 := G.1 i (by omega)
    cases l with
    | none => exact gR_F hi (by decide) (by decide)
    | some g =>
      have W := gR_le (s' := s + 5) ((hl.2 g rfl) _ i1).2.2 (Nat.le_refl _) (by omega)
      exact gR_le (gR_s (gR_bind W (fun z => gR_O (b := [true]) (gR_j W z) (fun τ => by cases sy <;> rfl)))) (by omega) (Nat.le_refl _)
  · rw [if_neg z]
    by_cases y : tK ts i = 91
    · rw [if_pos y]
      have i1 := G.1 i (by omega)
      cases l with
      | none => exact gR_F hi (by decide) (by decide)
      | some g =>
        have W := gR_le (s' := s + 5) ((hl.2 g rfl) _ i1).2.1 (Nat.le_refl _) (by omega)
        exact gR_le (gR_s (gR_bind W (fun z => gR_E G (gR_j W z) (by decide)))) (by omega) (Nat.le_refl _)
    · rw [if_neg y]
      have W := gR_le (s' := s + 5) (g_pS G hl hi) (Nat.le_refl _) (by omega)
      exact gR_bind W (fun z => g_pK G hl (gR_j W z))
theorem g_pH {ts : List (Nat × Nat)} {sy : Bool} {l : pG_} {s i : Nat} (G : gT ts) (hl : gO ts sy l s) (hi : i < ts.length) : gR ts sy i (pH ts sy l i) 0 0 [] [true] (s + 6) := by
  refine gR_L G (s := s + 5) (fun j hj => g_pU G hl hj) (fun t c h => ?_) _ _ _ (gR_le (g_pU G hl hi) (by omega) (by omega))
  unfold qA at h
  split at h
  · cases h; exact ⟨by omega, fun τ => by cases sy <;> rfl⟩
  · cases h
theorem g_pT {ts : List (Nat × Nat)} {sy : Bool} {l : pG_} {s i : Nat} (G : gT ts) (hl : gO ts sy l s) (hi : i < ts.length) : gR ts sy i (pTr ts sy l i) 0 0 [] [true] (s + 7) := by
  refine gR_L G (s := s + 6) (fun j hj => g_pH G hl hj) (fun t c h => ?_) _ _ _ (gR_le (g_pH G hl hi) (by omega) (by omega))
  unfold qO at h
  split at h
  · cases h; exact ⟨by omega, fun τ => by cases sy <;> rfl⟩
  · cases h
theorem g_lo {ts : List (Nat × Nat)} {sy : Bool} (G : gT ts) : ∀ n, gO ts sy (lo ts sy n) (7 * n + 1) := by
  intro n
  induction n with
  | zero => exact ⟨by omega, fun g e => by cases e⟩
  | succ n ih =>
    refine ⟨by omega, fun g e i hi => ?_⟩
    cases e
    exact ⟨gR_le (g_pS G ih hi) (by omega) (by omega), gR_le (g_pT G ih hi) (by omega) (by omega), gR_le (g_pU G ih hi) (by omega) (by omega)⟩
