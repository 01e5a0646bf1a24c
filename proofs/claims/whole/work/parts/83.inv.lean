/-! ===== what stands between two calls ===== -/
/-- facts, the law of what is said, of what is seen, lines -/
abbrev ho_S : Type := fa_S × Option (List Nat) × Option (List Nat) × Nat
/-- the house; facts of the past; images; trays; the tape; the last fault, its place -/
abbrev St : Type := ho_S × List fa_S × (Nat → Option ho_S) × tr_S × List Nat × Int32 × Int32
abbrev s_H (S : St) : ho_S := S.1
abbrev s_f (S : St) : fa_S := S.1.1
abbrev s_p (S : St) : List fa_S := S.2.1
abbrev s_i (S : St) : Nat → Option ho_S := S.2.2.1
abbrev s_t (S : St) : tr_S := S.2.2.2.1
abbrev s_b (S : St) : List Nat := S.2.2.2.2.1
abbrev s_e (S : St) : Int32 × Int32 := S.2.2.2.2.2
def ho_ok (H : ho_S) : Prop := hk H.1 H.2.1 H.2.2.1 ∧ H.2.2.2 ≤ 1000
def St_ok (S : St) : Prop := ho_ok (s_H S) ∧ ((s_p S).length ≤ 10 ∧ ∀ g ∈ s_p S, fa_gd g ∧ f_n g = f_n (s_f S)) ∧ (∀ i H, s_i S i = some H → ho_ok H) ∧ (s_b S).length ≤ 900 ∧ ∀ x ∈ s_b S, x < 256
/-! repairs and lots: what is kept of them -/
def lo_at (f : fa_S) (c : Nat) : Nat := sm (fun k => (f_p f k).length) c
/-- the parents without the links of a row -/
def wo_p (f : fa_S) (ks : List Nat) (c : Nat) : List Nat := lw (f_p f c) (fun i => ks.contains (lo_at f c + i)) (f_p f c).length
def wh (f : fa_S) (ks : List Nat) : Bool := (List.range (f_n f)).all (fun c => (od (wo_p f ks) (f_n f) c).1 == 0)
def fo {α : Type} (g : Nat → Option α) (n k : Nat) : Option α := if k < n then (match g k with
  | some x => some x
  | none => fo g n (k + 1)) else none
  termination_by n - k
def rbs (f : fa_S) : Nat → Nat → List Nat → Option (List Nat)
  | 0, _, ks => if wh f ks then some ks else none
  | m + 1, a, ks => fo (fun l => rbs f m (l + 1) (ks ++ [l])) (f_lk f) a
def rpl (f : fa_S) : Option (List Nat) := fo (fun m => rbs f m 0 []) 4 0
/-- the number of a link: its class, its parent -/
def lkn (f : fa_S) (l : Nat) : Nat := match fi (fun c => decide (l < lo_at f (c + 1))) 10 0 with
  | some c => 10 * c + (f_p f c).getD (l - lo_at f c) 0
  | none => 0
def mnA (h : am_H) (f : fa_S) : Prop := h_i h 56 4 = nI 0 ∨ (h_i h 56 4 = nI 1 ∧ match rpl f with
  | none => h_i h 56 3 = mI
  | some ks => h_i h 56 3 = nI ks.length ∧ ks.length ≤ 3 ∧ ∀ i, i < ks.length → h_i h 68 i = nI (lkn f (ks.getD i 0)))
def swB (f : fa_S) (B : Nat → Bool) (c : Nat) : List Nat := if B c = true then sw2 (f_p f c) else f_p f c
def lcnt (f : fa_S) (B : Nat → Bool) : Nat := ct (fun c => (od (swB f B) (f_n f) c).1 == 0) (f_n f)
def tog (B : Nat → Bool) (x k : Nat) : Bool := xor (B k) (decide (k = x))
def lS (g : (Nat → Bool) → Nat) : Nat → (Nat → Bool) → Nat
  | 0, B => g B
  | n + 1, B => sm (fun x => lS g n (tog B x)) 10
def lO (f : fa_S) (n : Nat) : Nat := lS (lcnt f) n (fun _ => false)
def lA (f : fa_S) (n : Nat) : Nat := lS (fun B => if lcnt f B = f_n f then 1 else 0) n (fun _ => false)
def ltA (h : am_H) (f : fa_S) : Prop := h_i h 69 5 = mI ∨ ∃ n, n ≤ 3 ∧ h_i h 69 5 = nI n ∧ h_i h 69 2 = nI (10 ^ n) ∧ h_i h 69 3 = nI (lA f n) ∧ h_i h 69 4 = nI (lO f n)
/-! the class -/
/-- whose a cell behind the first ones is: 0 a law's, 1 + j a row's of the past, 11 + i an image's -/
def ow (W : Nat → Nat) (o n t : Nat) : Prop := 118 ≤ o ∧ ∀ k, k < n → W (o + k) = t
def lwA (h : am_H) (W : Nat → Nat) (o r : Nat) (c : Option (List Nat)) : Prop := match c with
  | none => h_r h o r = none
  | some l => ∃ q, h_r h o r = some q ∧ ow W q 1 0 ∧ la_at h q l
def hoA (h : am_H) (W : Nat → Nat) (o : Nat) (H : ho_S) : Prop := y_House h o ∧ fa_at h (o + 1) H.1 ∧ lwA h W o 1 H.2.1 ∧ lwA h W o 2 H.2.2.1 ∧ h_i h o 3 = nI H.2.2.2
def paA (h : am_H) (W : Nat → Nat) (e : Nat) (l : List fa_S) : Prop := h_i h 25 1 = nI e ∧ e < 10 ∧ h_i h 25 2 = nI l.length ∧ (∀ j, j < 10 → h_r h 26 j = none ∨ ∃ o, h_r h 26 j = some o ∧ y_Facts h o ∧ ow W o 4 (1 + j)) ∧ ∀ k, k < l.length → ∃ o, h_r h 26 ((e + k) % 10) = some o ∧ fa_at h o (l.getD k f_0)
def imA (h : am_H) (W : Nat → Nat) (im : Nat → Option ho_S) : Prop := ∀ i, i < 2 → match im i with
  | none => h_r h 84 i = none
  | some H => ∃ o, h_r h 84 i = some o ∧ ow W o 5 (11 + i) ∧ hoA h W o H
def b8 (n : Nat) : Int32 := (nI n).toInt8.toInt32
def tpA (h : am_H) (b : List Nat) : Prop := h_i h 0 1 = nI b.length ∧ ∀ k, k < b.length → h_i h 1 k = b8 (b.getD k 0)
def cI (h : am_H) (S : St) : Prop := Lay h ∧ or_at h 15 (fT (s_f S)) (f_n (s_f S)) ∧ (∃ W e, hoA h W 10 (s_H S) ∧ paA h W e (s_p S) ∧ imA h W (s_i S)) ∧ tyA h (s_t S) ∧ tpA h (s_b S) ∧ (h_i h 0 2 = (s_e S).1 ∧ h_i h 0 3 = (s_e S).2) ∧ mnA h (s_f S) ∧ ltA h (s_f S)
/-! the reference -/
def rsb (h : am_H) (b law : Nat) (o : Option (List Nat)) : Prop := match o with
  | none => h_i h 94 (b + (2 + law)) = nI 0
  | some l => h_i h 94 (b + (2 + law)) = nI 1 ∧ ∃ s, s + l.length ≤ 900 ∧ h_i h 94 (b + (4 + law)) = nI s ∧ h_i h 94 (b + (6 + law)) = nI l.length ∧ ∀ k, k < l.length → h_i h 94 (b + (1451 + s + k)) = nI (l.getD k 0)
def rhA (h : am_H) (b : Nat) (H : ho_S) : Prop := h_i h 94 (b + 0) = nI H.2.2.2 ∧ h_i h 94 (b + 1) = nI (f_n H.1) ∧ fb h 94 (b + 8) H.1 ∧ rsb h b 0 H.2.1 ∧ rsb h b 1 H.2.2.1
def riA (h : am_H) (im : Nat → Option ho_S) : Prop := ∀ i, i < 2 → match im i with
  | none => h_i h 95 i = nI 0
  | some H => h_i h 95 i = nI 1 ∧ rhA h (2351 * (i + 1)) H
def rtp (h : am_H) (b : List Nat) : Prop := h_i h 93 5 = nI b.length ∧ ∀ k, k < b.length → h_i h 96 k = nI (b.getD k 0)
def rI (h : am_H) (S : St) : Prop := Lay h ∧ rhA h 0 (s_H S) ∧ rpa h (s_p S) ∧ riA h (s_i S) ∧ rtA h (s_t S) ∧ rtp h (s_b S) ∧ h_i h 93 13 = (s_e S).1 ∧ h_i h 93 14 = (s_e S).2
/-! frames -/
theorem gf.house {h h' : am_H} {P J R : Nat → Nat → Prop} (g : gf h h' P J R) {o : Nat} (F : y_House h o) (hr : ¬ R o 0) (hr1 : ∀ k, ¬ R (o + 1) k) : y_House h' o := by
  refine ⟨fun k t hk => g.c (F.1 k hk), fun q hq => ?_⟩
  have c0 : o < h_n h := (F.1 0 rfl).1
  have c1 : o + 1 < h_n h := (F.1 1 rfl).1
  have := F.2 q hq
  have qs : q = (0, 0, 1) ∨ q = (1, 2, 2) ∨ q = (1, 3, 3) ∨ q = (1, 4, 4) := by simpa [y_House_r] using hq
  rcases qs with rfl | rfl | rfl | rfl
  · exact (g.r c0 hr).trans this
  · exact (g.r c1 (hr1 _)).trans this
  · exact (g.r c1 (hr1 _)).trans this
  · exact (g.r c1 (hr1 _)).trans this
theorem gf.lwA {h h' : am_H} {P J R : Nat → Nat → Prop} (g : gf h h' P J R) {W : Nat → Nat} {o r : Nat} {c : Option (List Nat)} (A : lwA h W o r c) (ho : o < h_n h) (hr : ¬ R o r) (hp : ∀ a k, 118 ≤ a → W a = 0 → ¬ P a k) : lwA h' W o r c := by
  cases c with
  | none => exact (g.r ho hr).trans A
  | some l =>
    obtain ⟨q, e, w, A⟩ := A
    exact ⟨q, (g.r ho hr).trans e, w, g.la A (fun k => hp q k w.1 (w.2 0 (by omega)))⟩
theorem fa_len {f : fa_S} (gd : fa_gd f) (c : Nat) : (f_p f c).length ≤ 4 := (gd.1.2 c).1
theorem gf.hoA {h h' : am_H} {P J R : Nat → Nat → Prop} (g : gf h h' P J R) {W : Nat → Nat} {o : Nat} {H : ho_S} (ok : ho_ok H) (A : hoA h W o H) (hr : ∀ a k, o ≤ a → a ≤ o + 1 → ¬ R a k) (hp : ∀ a k, 118 ≤ a → W a = 0 → ¬ P a k) (hq : ∀ a k, o ≤ a → a < o + 5 → ¬ P a k) : hoA h' W o H := by
  obtain ⟨Y, F, l1, l2, e⟩ := A
  have c0 : o < h_n h := (Y.1 0 rfl).1
  exact ⟨g.house Y (hr _ _ (by omega) (by omega)) (fun k => hr _ _ (by omega) (by omega)), g.fa (fa_len ok.1.1) F (fun a k h1 h2 => hq a k (by omega) (by omega)) (fun k => hr _ _ (by omega) (by omega)), g.lwA l1 c0 (hr _ _ (by omega) (by omega)) hp, g.lwA l2 c0 (hr _ _ (by omega) (by omega)) hp, (g.i c0 (hq _ _ (by omega) (by omega))).trans e⟩
theorem gf.paA {h h' : am_H} {P J R : Nat → Nat → Prop} (g : gf h h' P J R) (L : Lay h) {W : Nat → Nat} {e : Nat} {l : List fa_S} (okl : ∀ q ∈ l, fa_gd q) (A : paA h W e l) (h1 : ¬ P 25 1) (h2 : ¬ P 25 2) (hr : ∀ k, ¬ R 26 k) (hp : ∀ a k, 118 ≤ a → 1 ≤ W a → W a ≤ 10 → ¬ P a k ∧ ¬ R a k) : paA h' W e l := by
  obtain ⟨e1, e10, e2, A1, A2⟩ := A
  refine ⟨(g.i (la_n L (by omega)) h1).trans e1, e10, (g.i (la_n L (by omega)) h2).trans e2, fun j hj => ?_, fun k hk => ?_⟩
  · rw [g.r (la_n L (by omega)) (hr j)]
    rcases A1 j hj with z | ⟨o, z, Y, w⟩
    · exact Or.inl z
    · refine Or.inr ⟨o, z, g.facts Y (fun k => ?_), w⟩
      have w0 := w.2 0 (by omega)
      rw [Nat.add_zero] at w0
      exact (hp o k w.1 (by omega) (by omega)).2
  · obtain ⟨o, z, F⟩ := A2 k hk
    have hj : (e + k) % 10 < 10 := Nat.mod_lt _ (by omega)
    rcases A1 _ hj with y | ⟨o', y, Y, w⟩
    · rw [y] at z; cases z
    · rw [z] at y
      cases y
      have w0 : ∀ a, o ≤ a → a < o + 4 → W a = 1 + (e + k) % 10 := fun a h1 h2 => by
        have := w.2 (a - o) (by omega)
        rwa [Nat.add_sub_cancel' h1] at this
      have w1 := w.1
      refine ⟨o, by rw [g.r (la_n L (by omega)) (hr _)]; exact z, g.fa (fa_len (okl _ (gdF_mem hk))) F (fun a j h1 h2 => ?_) (fun j => ?_)⟩
      · have := w0 a h1 h2
        exact (hp a j (by omega) (by omega) (by omega)).1
      · have := w0 o (by omega) (by omega)
        exact (hp o j (by omega) (by omega) (by omega)).2
theorem gf.imA {h h' : am_H} {P J R : Nat → Nat → Prop} (g : gf h h' P J R) (L : Lay h) {W : Nat → Nat} {im : Nat → Option ho_S} (oki : ∀ i H, im i = some H → ho_ok H) (A : imA h W im) (hr : ∀ k, ¬ R 84 k) (hp0 : ∀ a k, 118 ≤ a → W a = 0 → ¬ P a k) (hp : ∀ a k, 118 ≤ a → 11 ≤ W a → W a ≤ 12 → ¬ P a k ∧ ¬ R a k) : imA h' W im := by
  intro i hi
  have A := A i hi
  cases z : im i with
  | none =>
    rw [z] at A
    exact (g.r (la_n L (by omega)) (hr i)).trans A
  | some H =>
    rw [z] at A
    obtain ⟨o, e, w, B⟩ := A
    have w0 : ∀ a, o ≤ a → a < o + 5 → W a = 11 + i := fun a h1 h2 => by
      have := w.2 (a - o) (by omega)
      rwa [Nat.add_sub_cancel' h1] at this
    have w1 := w.1
    refine ⟨o, (g.r (la_n L (by omega)) (hr i)).trans e, w, g.hoA (oki i H z) B (fun a k h1 h2 => ?_) hp0 (fun a k h1 h2 => ?_)⟩
    · have := w0 a h1 (by omega)
      exact (hp a k (by omega) (by omega) (by omega)).2
    · have := w0 a h1 h2
      exact (hp a k (by omega) (by omega) (by omega)).1
theorem gf.tpA {h h' : am_H} {P J R : Nat → Nat → Prop} (g : gf h h' P J R) (L : Lay h) {b : List Nat} (A : tpA h b) (h0 : ¬ P 0 1) (h1 : ∀ k, ¬ P 1 k) : tpA h' b := ⟨(g.i (la_n L (by omega)) h0).trans A.1, fun k hk => (g.i (la_n L (by omega)) (h1 k)).trans (A.2 k hk)⟩
theorem gf.mnA {h h' : am_H} {P J R : Nat → Nat → Prop} (g : gf h h' P J R) (L : Lay h) {f : fa_S} (A : mnA h f) (h0 : ∀ k, 3 ≤ k → k ≤ 4 → ¬ P 56 k) (h1 : ∀ k, ¬ P 68 k) : mnA h' f := by
  have e4 := g.i (la_n L (a := 56) (by omega)) (h0 4 (by omega) (by omega))
  have e3 := g.i (la_n L (a := 56) (by omega)) (h0 3 (by omega) (by omega))
  rcases A with A | ⟨A, B⟩
  · exact Or.inl (e4.trans A)
  · refine Or.inr ⟨e4.trans A, ?_⟩
    cases z : rpl f with
    | none => rw [z] at B; exact e3.trans B
    | some ks =>
      rw [z] at B
      exact ⟨e3.trans B.1, B.2.1, fun i hi => (g.i (la_n L (by omega)) (h1 i)).trans (B.2.2 i hi)⟩
theorem gf.ltA {h h' : am_H} {P J R : Nat → Nat → Prop} (g : gf h h' P J R) (L : Lay h) {f : fa_S} (A : ltA h f) (h0 : ∀ k, 2 ≤ k → ¬ P 69 k) : ltA h' f := by
  have e := fun k hk => g.i (la_n L (a := 69) (by omega)) (h0 k hk)
  rcases A with A | ⟨n, hn, A5, A2, A3, A4⟩
  · exact Or.inl ((e 5 (by omega)).trans A)
  · exact Or.inr ⟨n, hn, (e 5 (by omega)).trans A5, (e 2 (by omega)).trans A2, (e 3 (by omega)).trans A3, (e 4 (by omega)).trans A4⟩
theorem gf.tyA {h h' : am_H} {P J R : Nat → Nat → Prop} (g : gf h h' P J R) (L : Lay h) {tr : tr_S} (T : tyA h tr) (hp : ∀ a k, 85 ≤ a → a ≤ 92 → ¬ P a k) (hj : ∀ a k, 85 ≤ a → a ≤ 92 → ¬ J a k) : tyA h' tr := fun t ht => by
  obtain ⟨a1, a2, a3, a4⟩ := T t ht
  exact ⟨(g.i (la_n L (by omega)) (hp _ _ (by omega) (by omega))).trans a1, (g.i (la_n L (by omega)) (hp _ _ (by omega) (by omega))).trans a2, a3, fun k hk => (g.j (la_n L (by omega)) (hj _ _ (by omega) (by omega))).trans (a4 k hk)⟩
/-- what cI speaks of -/
def cK (a k : Nat) : Prop := a = 0 ∨ a = 1 ∨ a = 10 ∨ (11 ≤ a ∧ a ≤ 14) ∨ a = 15 ∨ ((a = 16 ∨ a = 17) ∧ k < 10) ∨ (a = 18 ∧ k < 110) ∨ a = 25 ∨ a = 26 ∨ a = 56 ∨ a = 68 ∨ a = 69 ∨ (83 ≤ a ∧ a ≤ 92) ∨ 118 ≤ a
theorem fT_l11 {f : fa_S} (ok : fa_ok f) : ∀ c, c < f_n f → (fT f c).2.length ≤ 11 := fun c hc => by have := (fT_ok ok c hc).2.2.2.2; omega
theorem cI.fr {h h' : am_H} {S : St} {P J R : Nat → Nat → Prop} (ok : St_ok S) (C : cI h S) (g : gf h h' P J R) (hp : ∀ a k, cK a k → ¬ P a k) (hj : ∀ a k, cK a k → ¬ J a k) (hr : ∀ a k, a < 93 ∨ 118 ≤ a → ¬ R a k) (hl : ∀ q ∈ y_ref, ¬ R q.1 q.2.1) : cI h' S := by
  obtain ⟨L, O, ⟨W, e, C1, C2, C3⟩, C4, C5, C6, C7, C8⟩ := C
  have hf := ok.1.1.1
  have n10 : f_n (s_f S) ≤ 10 := hf.1.1
  exact ⟨g.lay hl L, g.or O (fT_l11 hf.1) (fun c hc => ⟨hp _ _ (by unfold cK; omega), hp _ _ (by unfold cK; omega), fun k hk => hp _ _ (by unfold cK; omega)⟩) (fun k => hr _ _ (by omega)), ⟨W, e, g.hoA ok.1 C1 (fun a k h1 h2 => hr a k (by omega)) (fun a k h1 _ => hp a k (by unfold cK; omega)) (fun a k h1 h2 => hp a k (by unfold cK; omega)), g.paA L (fun q hq => (ok.2.1.2 q hq).1) C2 (hp _ _ (by unfold cK; omega)) (hp _ _ (by unfold cK; omega)) (fun k => hr _ _ (by omega)) (fun a k h1 _ _ => ⟨hp a k (by unfold cK; omega), hr a k (by omega)⟩), g.imA L ok.2.2.1 C3 (fun k => hr _ _ (by omega)) (fun a k h1 _ => hp a k (by unfold cK; omega)) (fun a k h1 _ _ => ⟨hp a k (by unfold cK; omega), hr a k (by omega)⟩)⟩, g.tyA L C4 (fun a k h1 h2 => hp a k (by unfold cK; omega)) (fun a k h1 h2 => hj a k (by unfold cK; omega)), g.tpA L C5 (hp _ _ (by unfold cK; omega)) (fun k => hp _ _ (by unfold cK; omega)), ⟨(g.i (la_n L (by omega)) (hp _ _ (by unfold cK; omega))).trans C6.1, (g.i (la_n L (by omega)) (hp _ _ (by unfold cK; omega))).trans C6.2⟩, g.mnA L C7 (fun k _ _ => hp _ _ (by unfold cK; omega)) (fun k => hp _ _ (by unfold cK; omega)), g.ltA L C8 (fun k _ => hp _ _ (by unfold cK; omega))⟩
theorem cI.q {h h' : am_H} {S : St} (ok : St_ok S) (C : cI h S) (fr : am_fr h h' cS) : cI h' S := C.fr ok (fr.g (J := N0) (R := N0)) (fun a k z => by unfold cK at z; unfold cS; omega) (fun _ _ _ z => z) (fun _ _ _ z => z) N0_ref
def pR (a _ : Nat) : Prop := 93 ≤ a ∧ a < 118
def pC (a _ : Nat) : Prop := a < 93 ∨ 118 ≤ a
theorem cI.R {h h' : am_H} {S : St} (ok : St_ok S) (C : cI h S) (g : gj h h' pR pR N0) : cI h' S := C.fr ok g.2 (fun a k z => by unfold cK at z; unfold pR; omega) (fun a k z => by unfold cK at z; unfold pR; omega) (fun _ _ _ z => z) N0_ref
theorem cI.cQ {h : am_H} {S : St} (C : cI h S) : cQ h (s_f S) := by
  obtain ⟨L, O, ⟨W, e, C1, C2, C3⟩, -⟩ := C
  exact ⟨L, C1.2.1, O⟩
theorem lwA.hsn {h : am_H} {W : Nat → Nat} {r : Nat} {c : Option (List Nat)} (A : lwA h W 10 r c) : hsn h r c := by
  cases c with
  | none => exact A
  | some l =>
    obtain ⟨q, e, w, A⟩ := A
    exact ⟨q, e, w.1, A⟩
theorem cI.cH {h : am_H} {S : St} (C : cI h S) : cH h (s_f S) (s_H S).2.1 (s_H S).2.2.1 := by
  have q := C.cQ
  obtain ⟨L, O, ⟨W, e, C1, C2, C3⟩, -⟩ := C
  exact ⟨q, C1.2.2.1.hsn, C1.2.2.2.1.hsn⟩
/-! the reference's frames -/
theorem gf.fb {h h' : am_H} {P J R : Nat → Nat → Prop} (g : gf h h' P J R) (L : Lay h) {b : Nat} {f : fa_S} (h4 : ∀ c, (f_p f c).length ≤ 4) (F : fb h 94 b f) (hp : ∀ k, b ≤ k → k ≤ b + 130 → ¬ P 94 k) : fb h' 94 b f := by
  obtain ⟨a1, a2, a3, a4⟩ := F
  have n := la_n L (a := 94) (by omega)
  exact ⟨fun c hc => (g.i n (hp _ (by omega) (by omega))).trans (a1 c hc), fun c hc k hk => (g.i n (hp _ (by omega) (by have := h4 c; omega))).trans (a2 c hc k hk), fun c m hc hm => (g.i n (hp _ (by omega) (by omega))).trans (a3 c m hc hm), (g.i n (hp _ (by omega) (by omega))).trans a4⟩
theorem gf.rsb {h h' : am_H} {P J R : Nat → Nat → Prop} (g : gf h h' P J R) (L : Lay h) {b law : Nat} {o : Option (List Nat)} (A : rsb h b law o) (hl : law < 2) (hp : ∀ k, (2 ≤ k ∧ k < 8) ∨ (1451 ≤ k ∧ k < 2351) → ¬ P 94 (b + k)) : rsb h' b law o := by
  have n := la_n L (a := 94) (by omega)
  cases o with
  | none => exact (g.i n (hp _ (by omega))).trans A
  | some l =>
    obtain ⟨e1, s, hs, e2, e3, e4⟩ := A
    exact ⟨(g.i n (hp _ (by omega))).trans e1, s, hs, (g.i n (hp _ (by omega))).trans e2, (g.i n (hp _ (by omega))).trans e3, fun k hk => (g.i n (hp _ (by omega))).trans (e4 k hk)⟩
theorem gf.rhA {h h' : am_H} {P J R : Nat → Nat → Prop} (g : gf h h' P J R) (L : Lay h) {b : Nat} {H : ho_S} (ok : ho_ok H) (A : rhA h b H) (hp : ∀ k, k < 139 ∨ (1451 ≤ k ∧ k < 2351) → ¬ P 94 (b + k)) : rhA h' b H := by
  obtain ⟨e0, e1, F, l0, l1⟩ := A
  have n := la_n L (a := 94) (by omega)
  exact ⟨(g.i n (hp _ (by omega))).trans e0, (g.i n (hp _ (by omega))).trans e1, g.fb L (fa_len ok.1.1) F (fun k h1 h2 => by have := hp (k - b) (by omega); rwa [Nat.add_sub_cancel' (by omega)] at this), g.rsb L l0 (by omega) (fun k hk => hp k (by omega)), g.rsb L l1 (by omega) (fun k hk => hp k (by omega))⟩
theorem gf.rpa {h h' : am_H} {P J R : Nat → Nat → Prop} (g : gf h h' P J R) (L : Lay h) {l : List fa_S} (okl : ∀ q ∈ l, fa_gd q) (A : rpa h l) (hp : ∀ k, 139 ≤ k → k ≤ 1449 → ¬ P 94 k) : rpa h' l := by
  obtain ⟨e1, e2, e3⟩ := A
  exact ⟨(g.i (la_n L (by omega)) (hp _ (by omega) (by omega))).trans e1, e2, fun k hk => g.fb L (fa_len (okl _ (gdF_mem hk))) (e3 k hk) (fun j h1 h2 => hp j (by omega) (by omega))⟩
theorem gf.riA {h h' : am_H} {P J R : Nat → Nat → Prop} (g : gf h h' P J R) (L : Lay h) {im : Nat → Option ho_S} (oki : ∀ i H, im i = some H → ho_ok H) (A : riA h im) (h5 : ∀ k, ¬ P 95 k) (hp : ∀ k, 2351 ≤ k → ¬ P 94 k) : riA h' im := by
  intro i hi
  have A := A i hi
  cases z : im i with
  | none => rw [z] at A; exact (g.i (la_n L (by omega)) (h5 i)).trans A
  | some H =>
    rw [z] at A
    exact ⟨(g.i (la_n L (by omega)) (h5 i)).trans A.1, g.rhA L (oki i H z) A.2 (fun k hk => hp _ (by omega))⟩
theorem gf.rtA {h h' : am_H} {P J R : Nat → Nat → Prop} (g : gf h h' P J R) (L : Lay h) {tr : tr_S} (T : rtA h tr) (hp : ∀ a k, 115 ≤ a → a ≤ 116 → ¬ P a k) (hj : ∀ k, ¬ J 117 k) : rtA h' tr := fun t ht => by
  obtain ⟨a1, a2, a3, a4⟩ := T t ht
  exact ⟨(g.i (la_n L (by omega)) (hp _ _ (by omega) (by omega))).trans a1, (g.i (la_n L (by omega)) (hp _ _ (by omega) (by omega))).trans a2, a3, fun k hk => (g.j (la_n L (by omega)) (hj _)).trans (a4 k hk)⟩
def rK2 (a k : Nat) : Prop := a = 94 ∨ a = 95 ∨ a = 96 ∨ a = 115 ∨ a = 116 ∨ a = 117 ∨ (a = 93 ∧ (k = 5 ∨ k = 13 ∨ k = 14))
theorem rI.fr {h h' : am_H} {S : St} {P J R : Nat → Nat → Prop} (ok : St_ok S) (C : rI h S) (g : gf h h' P J R) (hp : ∀ a k, rK2 a k → ¬ P a k) (hj : ∀ a k, rK2 a k → ¬ J a k) (L' : Lay h') : rI h' S := by
  obtain ⟨L, C1, C2, C3, C4, C5, C6, C7⟩ := C
  exact ⟨L', g.rhA L ok.1 C1 (fun k _ => hp _ _ (by unfold rK2; omega)), g.rpa L (fun q hq => (ok.2.1.2 q hq).1) C2 (fun k _ _ => hp _ _ (by unfold rK2; omega)), g.riA L ok.2.2.1 C3 (fun k => hp _ _ (by unfold rK2; omega)) (fun k _ => hp _ _ (by unfold rK2; omega)), g.rtA L C4 (fun a k h1 h2 => hp _ _ (by unfold rK2; omega)) (fun k => hj _ _ (by unfold rK2; omega)), ⟨(g.i (la_n L (by omega)) (hp _ _ (by unfold rK2; omega))).trans C5.1, fun k hk => (g.i (la_n L (by omega)) (hp _ _ (by unfold rK2; omega))).trans (C5.2 k hk)⟩, (g.i (la_n L (by omega)) (hp _ _ (by unfold rK2; omega))).trans C6, (g.i (la_n L (by omega)) (hp _ _ (by unfold rK2; omega))).trans C7⟩
theorem rI.q {h h' : am_H} {S : St} (ok : St_ok S) (C : rI h S) (fr : am_fr h h' rS) : rI h' S := C.fr ok (fr.g (J := N0) (R := N0)) (fun a k z => by unfold rK2 at z; unfold rS; omega) (fun _ _ _ z => z) (fr.lay C.1)
theorem rI.C {h h' : am_H} {S : St} (ok : St_ok S) (C : rI h S) (g : gf h h' pC pC pC) (L' : Lay h') : rI h' S := C.fr ok g (fun a k z => by unfold rK2 at z; unfold pC; omega) (fun a k z => by unfold rK2 at z; unfold pC; omega) L'
theorem rsb0 {h : am_H} {law : Nat} {o : Option (List Nat)} : rsb h 0 law o ↔ rsn h law o := by
  cases o with
  | none =>
    show h_i h 94 (0 + (2 + law)) = nI 0 ↔ h_i h 94 (2 + law) = nI 0
    rw [Nat.zero_add]
  | some l => simp only [rsb, rsn, rl_at, Nat.zero_add]
theorem rI.rH {h : am_H} {S : St} (C : rI h S) : rH h (s_f S) (s_H S).2.1 (s_H S).2.2.1 := by
  obtain ⟨L, C1, -⟩ := C
  exact ⟨⟨L, C1.2.1, C1.2.2.1⟩, rsb0.1 C1.2.2.2.1, rsb0.1 C1.2.2.2.2⟩
theorem rS.R {a k : Nat} (z : rS a k) : pR a k := by unfold rS at z; unfold pR; omega
theorem cS.C {a k : Nat} (z : cS a k) : pC a k := by unfold cS at z; unfold pC; omega
