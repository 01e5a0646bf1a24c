theorem cls_0 : am_cls 0 := by
  refine ⟨show ∀ w ∈ _, w ∈ am_wd from List.forall_mem_cons.mpr ⟨wd_377, List.forall_mem_cons.mpr ⟨wd_379, List.forall_mem_cons.mpr ⟨wd_381, List.forall_mem_cons.mpr ⟨wd_383, List.forall_mem_cons.mpr ⟨wd_385, List.forall_mem_cons.mpr ⟨wd_387, List.forall_mem_cons.mpr ⟨wd_389, List.forall_mem_cons.mpr ⟨wd_391, List.forall_mem_cons.mpr ⟨wd_393, fun _ h => absurd h List.not_mem_nil⟩⟩⟩⟩⟩⟩⟩⟩⟩, tyX0_ok, nmX0, wd_363, wd_159, rfl, rfl, ?_⟩
  intro k hk
  have hk : k < 9 := hk
  match k, hk with
  | 0, _ => exact Or.inr (Or.inr ⟨rfl, Or.inl ⟨_, rfl⟩⟩)
  | 1, _ => exact Or.inr (Or.inr ⟨rfl, Or.inl ⟨_, rfl⟩⟩)
  | 2, _ => exact Or.inl ⟨rfl, Or.inl rfl⟩
  | 3, _ => exact Or.inr (Or.inr ⟨rfl, Or.inr ⟨_, rfl⟩⟩)
  | 4, _ => exact Or.inr (Or.inr ⟨rfl, Or.inr ⟨_, rfl⟩⟩)
  | 5, _ => exact Or.inr (Or.inr ⟨rfl, Or.inr ⟨_, rfl⟩⟩)
  | 6, _ => exact Or.inr (Or.inr ⟨rfl, Or.inr ⟨_, rfl⟩⟩)
  | 7, _ => exact Or.inl ⟨rfl, Or.inl rfl⟩
  | 8, _ => exact Or.inr (Or.inr ⟨rfl, Or.inr ⟨_, rfl⟩⟩)
  | k + 9, hk => exact absurd hk (by omega)
theorem cls_1 : am_cls 1 := by
  refine ⟨show ∀ w ∈ _, w ∈ am_wd from List.forall_mem_cons.mpr ⟨wd_210, List.forall_mem_cons.mpr ⟨wd_212, List.forall_mem_cons.mpr ⟨wd_214, List.forall_mem_cons.mpr ⟨wd_216, List.forall_mem_cons.mpr ⟨wd_218, fun _ h => absurd h List.not_mem_nil⟩⟩⟩⟩⟩, tyX1_ok, nmX1, wd_190, wd_155, rfl, rfl, ?_⟩
  intro k hk
  have hk : k < 5 := hk
  match k, hk with
  | 0, _ => exact Or.inl ⟨rfl, Or.inl rfl⟩
  | 1, _ => exact Or.inl ⟨rfl, Or.inl rfl⟩
  | 2, _ => exact Or.inr (Or.inr ⟨rfl, Or.inr ⟨_, rfl⟩⟩)
  | 3, _ => exact Or.inr (Or.inr ⟨rfl, Or.inr ⟨_, rfl⟩⟩)
  | 4, _ => exact Or.inr (Or.inr ⟨rfl, Or.inr ⟨_, rfl⟩⟩)
  | k + 5, hk => exact absurd hk (by omega)
theorem cls_2 : am_cls 2 := by
  refine ⟨show ∀ w ∈ _, w ∈ am_wd from List.forall_mem_cons.mpr ⟨wd_298, List.forall_mem_cons.mpr ⟨wd_300, List.forall_mem_cons.mpr ⟨wd_302, List.forall_mem_cons.mpr ⟨wd_304, fun _ h => absurd h List.not_mem_nil⟩⟩⟩⟩, tyX2_ok, nmX2, wd_278, wd_156, rfl, rfl, ?_⟩
  intro k hk
  have hk : k < 4 := hk
  match k, hk with
  | 0, _ => exact Or.inr (Or.inr ⟨rfl, Or.inl ⟨_, rfl⟩⟩)
  | 1, _ => exact Or.inr (Or.inr ⟨rfl, Or.inr ⟨_, rfl⟩⟩)
  | 2, _ => exact Or.inr (Or.inr ⟨rfl, Or.inr ⟨_, rfl⟩⟩)
  | 3, _ => exact Or.inl ⟨rfl, Or.inl rfl⟩
  | k + 4, hk => exact absurd hk (by omega)
theorem cls_3 : am_cls 3 := by
  refine ⟨show ∀ w ∈ _, w ∈ am_wd from List.forall_mem_cons.mpr ⟨wd_505, List.forall_mem_cons.mpr ⟨wd_507, List.forall_mem_cons.mpr ⟨wd_509, List.forall_mem_cons.mpr ⟨wd_511, List.forall_mem_cons.mpr ⟨wd_513, List.forall_mem_cons.mpr ⟨wd_515, fun _ h => absurd h List.not_mem_nil⟩⟩⟩⟩⟩⟩, tyX3_ok, nmX3, wd_488, wd_163, rfl, rfl, ?_⟩
  intro k hk
  have hk : k < 6 := hk
  match k, hk with
  | 0, _ => exact Or.inr (Or.inr ⟨rfl, Or.inl ⟨_, rfl⟩⟩)
  | 1, _ => exact Or.inr (Or.inr ⟨rfl, Or.inr ⟨_, rfl⟩⟩)
  | 2, _ => exact Or.inl ⟨rfl, Or.inl rfl⟩
  | 3, _ => exact Or.inl ⟨rfl, Or.inl rfl⟩
  | 4, _ => exact Or.inl ⟨rfl, Or.inl rfl⟩
  | 5, _ => exact Or.inl ⟨rfl, Or.inl rfl⟩
  | k + 6, hk => exact absurd hk (by omega)
theorem cls_4 : am_cls 4 := by
  refine ⟨show ∀ w ∈ _, w ∈ am_wd from List.forall_mem_cons.mpr ⟨wd_476, List.forall_mem_cons.mpr ⟨wd_478, List.forall_mem_cons.mpr ⟨wd_480, List.forall_mem_cons.mpr ⟨wd_482, List.forall_mem_cons.mpr ⟨wd_484, fun _ h => absurd h List.not_mem_nil⟩⟩⟩⟩⟩, tyX4_ok, nmX4, wd_462, wd_162, rfl, rfl, ?_⟩
  intro k hk
  have hk : k < 5 := hk
  match k, hk with
  | 0, _ => exact Or.inr (Or.inr ⟨rfl, Or.inl ⟨_, rfl⟩⟩)
  | 1, _ => exact Or.inr (Or.inr ⟨rfl, Or.inr ⟨_, rfl⟩⟩)
  | 2, _ => exact Or.inr (Or.inr ⟨rfl, Or.inr ⟨_, rfl⟩⟩)
  | 3, _ => exact Or.inl ⟨rfl, Or.inl rfl⟩
  | 4, _ => exact Or.inl ⟨rfl, Or.inr rfl⟩
  | k + 5, hk => exact absurd hk (by omega)
theorem cls_5 : am_cls 5 := by
  refine ⟨show ∀ w ∈ _, w ∈ am_wd from List.forall_mem_cons.mpr ⟨wd_405, List.forall_mem_cons.mpr ⟨wd_407, List.forall_mem_cons.mpr ⟨wd_409, fun _ h => absurd h List.not_mem_nil⟩⟩⟩, tyX5_ok, nmX5, wd_397, wd_160, rfl, rfl, ?_⟩
  intro k hk
  have hk : k < 3 := hk
  match k, hk with
  | 0, _ => exact Or.inr (Or.inr ⟨rfl, Or.inr ⟨_, rfl⟩⟩)
  | 1, _ => exact Or.inr (Or.inr ⟨rfl, Or.inr ⟨_, rfl⟩⟩)
  | 2, _ => exact Or.inr (Or.inr ⟨rfl, Or.inr ⟨_, rfl⟩⟩)
  | k + 3, hk => exact absurd hk (by omega)
theorem cls_6 : am_cls 6 := by
  refine ⟨show ∀ w ∈ _, w ∈ am_wd from List.forall_mem_cons.mpr ⟨wd_322, List.forall_mem_cons.mpr ⟨wd_324, List.forall_mem_cons.mpr ⟨wd_326, List.forall_mem_cons.mpr ⟨wd_328, List.forall_mem_cons.mpr ⟨wd_330, List.forall_mem_cons.mpr ⟨wd_332, List.forall_mem_cons.mpr ⟨wd_334, List.forall_mem_cons.mpr ⟨wd_336, List.forall_mem_cons.mpr ⟨wd_338, fun _ h => absurd h List.not_mem_nil⟩⟩⟩⟩⟩⟩⟩⟩⟩, tyX6_ok, nmX6, wd_308, wd_157, rfl, rfl, ?_⟩
  intro k hk
  have hk : k < 9 := hk
  match k, hk with
  | 0, _ => exact Or.inr (Or.inr ⟨rfl, Or.inr ⟨_, rfl⟩⟩)
  | 1, _ => exact Or.inr (Or.inr ⟨rfl, Or.inr ⟨_, rfl⟩⟩)
  | 2, _ => exact Or.inr (Or.inr ⟨rfl, Or.inr ⟨_, rfl⟩⟩)
  | 3, _ => exact Or.inr (Or.inr ⟨rfl, Or.inr ⟨_, rfl⟩⟩)
  | 4, _ => exact Or.inr (Or.inr ⟨rfl, Or.inr ⟨_, rfl⟩⟩)
  | 5, _ => exact Or.inr (Or.inr ⟨rfl, Or.inr ⟨_, rfl⟩⟩)
  | 6, _ => exact Or.inr (Or.inr ⟨rfl, Or.inr ⟨_, rfl⟩⟩)
  | 7, _ => exact Or.inr (Or.inr ⟨rfl, Or.inr ⟨_, rfl⟩⟩)
  | 8, _ => exact Or.inr (Or.inr ⟨rfl, Or.inr ⟨_, rfl⟩⟩)
  | k + 9, hk => exact absurd hk (by omega)
theorem cls_7 : am_cls 7 := by
  refine ⟨show ∀ w ∈ _, w ∈ am_wd from List.forall_mem_cons.mpr ⟨wd_353, List.forall_mem_cons.mpr ⟨wd_355, List.forall_mem_cons.mpr ⟨wd_357, fun _ h => absurd h List.not_mem_nil⟩⟩⟩, tyX7_ok, nmX7, wd_342, wd_158, rfl, rfl, ?_⟩
  intro k hk
  have hk : k < 3 := hk
  match k, hk with
  | 0, _ => exact Or.inr (Or.inr ⟨rfl, Or.inr ⟨_, rfl⟩⟩)
  | 1, _ => exact Or.inl ⟨rfl, Or.inl rfl⟩
  | 2, _ => exact Or.inl ⟨rfl, Or.inl rfl⟩
  | k + 3, hk => exact absurd hk (by omega)
theorem cls_8 : am_cls 8 := by
  refine ⟨show ∀ w ∈ _, w ∈ am_wd from List.forall_mem_cons.mpr ⟨wd_242, List.forall_mem_cons.mpr ⟨wd_244, List.forall_mem_cons.mpr ⟨wd_246, List.forall_mem_cons.mpr ⟨wd_248, List.forall_mem_cons.mpr ⟨wd_250, List.forall_mem_cons.mpr ⟨wd_252, List.forall_mem_cons.mpr ⟨wd_254, List.forall_mem_cons.mpr ⟨wd_256, List.forall_mem_cons.mpr ⟨wd_258, List.forall_mem_cons.mpr ⟨wd_260, List.forall_mem_cons.mpr ⟨wd_262, List.forall_mem_cons.mpr ⟨wd_264, List.forall_mem_cons.mpr ⟨wd_266, List.forall_mem_cons.mpr ⟨wd_268, List.forall_mem_cons.mpr ⟨wd_270, List.forall_mem_cons.mpr ⟨wd_272, List.forall_mem_cons.mpr ⟨wd_274, fun _ h => absurd h List.not_mem_nil⟩⟩⟩⟩⟩⟩⟩⟩⟩⟩⟩⟩⟩⟩⟩⟩⟩, tyX8_ok, nmX8, wd_184, wd_154, rfl, rfl, ?_⟩
  intro k hk
  have hk : k < 17 := hk
  match k, hk with
  | 0, _ => exact Or.inr (Or.inr ⟨rfl, Or.inr ⟨_, rfl⟩⟩)
  | 1, _ => exact Or.inl ⟨rfl, Or.inl rfl⟩
  | 2, _ => exact Or.inr (Or.inr ⟨rfl, Or.inr ⟨_, rfl⟩⟩)
  | 3, _ => exact Or.inr (Or.inr ⟨rfl, Or.inr ⟨_, rfl⟩⟩)
  | 4, _ => exact Or.inl ⟨rfl, Or.inl rfl⟩
  | 5, _ => exact Or.inl ⟨rfl, Or.inl rfl⟩
  | 6, _ => exact Or.inl ⟨rfl, Or.inl rfl⟩
  | 7, _ => exact Or.inl ⟨rfl, Or.inl rfl⟩
  | 8, _ => exact Or.inl ⟨rfl, Or.inl rfl⟩
  | 9, _ => exact Or.inr (Or.inr ⟨rfl, Or.inl ⟨_, rfl⟩⟩)
  | 10, _ => exact Or.inl ⟨rfl, Or.inl rfl⟩
  | 11, _ => exact Or.inr (Or.inr ⟨rfl, Or.inr ⟨_, rfl⟩⟩)
  | 12, _ => exact Or.inr (Or.inr ⟨rfl, Or.inr ⟨_, rfl⟩⟩)
  | 13, _ => exact Or.inr (Or.inr ⟨rfl, Or.inr ⟨_, rfl⟩⟩)
  | 14, _ => exact Or.inl ⟨rfl, Or.inl rfl⟩
  | 15, _ => exact Or.inl ⟨rfl, Or.inr rfl⟩
  | 16, _ => exact Or.inl ⟨rfl, Or.inl rfl⟩
  | k + 17, hk => exact absurd hk (by omega)
theorem cls_9 : am_cls 9 := by
  refine ⟨show ∀ w ∈ _, w ∈ am_wd from List.forall_mem_cons.mpr ⟨wd_530, List.forall_mem_cons.mpr ⟨wd_532, List.forall_mem_cons.mpr ⟨wd_534, fun _ h => absurd h List.not_mem_nil⟩⟩⟩, tyX9_ok, nmX9, wd_521, wd_164, rfl, rfl, ?_⟩
  intro k hk
  have hk : k < 3 := hk
  match k, hk with
  | 0, _ => exact Or.inl ⟨rfl, Or.inl rfl⟩
  | 1, _ => exact Or.inl ⟨rfl, Or.inl rfl⟩
  | 2, _ => exact Or.inr (Or.inr ⟨rfl, Or.inr ⟨_, rfl⟩⟩)
  | k + 3, hk => exact absurd hk (by omega)
theorem cls_10 : am_cls 10 := by
  refine ⟨show ∀ w ∈ _, w ∈ am_wd from List.forall_mem_cons.mpr ⟨wd_432, List.forall_mem_cons.mpr ⟨wd_434, List.forall_mem_cons.mpr ⟨wd_436, List.forall_mem_cons.mpr ⟨wd_438, List.forall_mem_cons.mpr ⟨wd_440, List.forall_mem_cons.mpr ⟨wd_442, List.forall_mem_cons.mpr ⟨wd_444, List.forall_mem_cons.mpr ⟨wd_446, List.forall_mem_cons.mpr ⟨wd_448, List.forall_mem_cons.mpr ⟨wd_450, List.forall_mem_cons.mpr ⟨wd_452, List.forall_mem_cons.mpr ⟨wd_454, List.forall_mem_cons.mpr ⟨wd_456, List.forall_mem_cons.mpr ⟨wd_458, fun _ h => absurd h List.not_mem_nil⟩⟩⟩⟩⟩⟩⟩⟩⟩⟩⟩⟩⟩⟩, tyX10_ok, nmX10, wd_413, wd_161, rfl, rfl, ?_⟩
  intro k hk
  have hk : k < 14 := hk
  match k, hk with
  | 0, _ => exact Or.inr (Or.inr ⟨rfl, Or.inl ⟨_, rfl⟩⟩)
  | 1, _ => exact Or.inr (Or.inr ⟨rfl, Or.inl ⟨_, rfl⟩⟩)
  | 2, _ => exact Or.inr (Or.inr ⟨rfl, Or.inr ⟨_, rfl⟩⟩)
  | 3, _ => exact Or.inl ⟨rfl, Or.inl rfl⟩
  | 4, _ => exact Or.inr (Or.inr ⟨rfl, Or.inr ⟨_, rfl⟩⟩)
  | 5, _ => exact Or.inr (Or.inr ⟨rfl, Or.inr ⟨_, rfl⟩⟩)
  | 6, _ => exact Or.inr (Or.inr ⟨rfl, Or.inr ⟨_, rfl⟩⟩)
  | 7, _ => exact Or.inl ⟨rfl, Or.inl rfl⟩
  | 8, _ => exact Or.inl ⟨rfl, Or.inl rfl⟩
  | 9, _ => exact Or.inl ⟨rfl, Or.inl rfl⟩
  | 10, _ => exact Or.inl ⟨rfl, Or.inl rfl⟩
  | 11, _ => exact Or.inl ⟨rfl, Or.inl rfl⟩
  | 12, _ => exact Or.inl ⟨rfl, Or.inl rfl⟩
  | 13, _ => exact Or.inl ⟨rfl, Or.inl rfl⟩
  | k + 14, hk => exact absurd hk (by omega)
theorem cls_11 : am_cls 11 := by
  refine ⟨show ∀ w ∈ _, w ∈ am_wd from List.forall_mem_cons.mpr ⟨wd_557, List.forall_mem_cons.mpr ⟨wd_559, List.forall_mem_cons.mpr ⟨wd_561, List.forall_mem_cons.mpr ⟨wd_563, List.forall_mem_cons.mpr ⟨wd_565, List.forall_mem_cons.mpr ⟨wd_567, List.forall_mem_cons.mpr ⟨wd_569, List.forall_mem_cons.mpr ⟨wd_571, List.forall_mem_cons.mpr ⟨wd_573, List.forall_mem_cons.mpr ⟨wd_575, List.forall_mem_cons.mpr ⟨wd_577, List.forall_mem_cons.mpr ⟨wd_579, List.forall_mem_cons.mpr ⟨wd_581, List.forall_mem_cons.mpr ⟨wd_583, List.forall_mem_cons.mpr ⟨wd_585, List.forall_mem_cons.mpr ⟨wd_587, List.forall_mem_cons.mpr ⟨wd_589, List.forall_mem_cons.mpr ⟨wd_591, List.forall_mem_cons.mpr ⟨wd_593, fun _ h => absurd h List.not_mem_nil⟩⟩⟩⟩⟩⟩⟩⟩⟩⟩⟩⟩⟩⟩⟩⟩⟩⟩⟩, tyX11_ok, nmX11, wd_176, wd_153, rfl, rfl, ?_⟩
  intro k hk
  have hk : k < 19 := hk
  match k, hk with
  | 0, _ => exact Or.inr (Or.inr ⟨rfl, Or.inr ⟨_, rfl⟩⟩)
  | 1, _ => exact Or.inl ⟨rfl, Or.inl rfl⟩
  | 2, _ => exact Or.inl ⟨rfl, Or.inl rfl⟩
  | 3, _ => exact Or.inl ⟨rfl, Or.inl rfl⟩
  | 4, _ => exact Or.inr (Or.inr ⟨rfl, Or.inl ⟨_, rfl⟩⟩)
  | 5, _ => exact Or.inr (Or.inr ⟨rfl, Or.inl ⟨_, rfl⟩⟩)
  | 6, _ => exact Or.inr (Or.inr ⟨rfl, Or.inl ⟨_, rfl⟩⟩)
  | 7, _ => exact Or.inr (Or.inr ⟨rfl, Or.inl ⟨_, rfl⟩⟩)
  | 8, _ => exact Or.inr (Or.inr ⟨rfl, Or.inl ⟨_, rfl⟩⟩)
  | 9, _ => exact Or.inr (Or.inr ⟨rfl, Or.inl ⟨_, rfl⟩⟩)
  | 10, _ => exact Or.inr (Or.inr ⟨rfl, Or.inl ⟨_, rfl⟩⟩)
  | 11, _ => exact Or.inr (Or.inr ⟨rfl, Or.inl ⟨_, rfl⟩⟩)
  | 12, _ => exact Or.inr (Or.inr ⟨rfl, Or.inl ⟨_, rfl⟩⟩)
  | 13, _ => exact Or.inr (Or.inr ⟨rfl, Or.inl ⟨_, rfl⟩⟩)
  | 14, _ => exact Or.inr (Or.inr ⟨rfl, Or.inl ⟨_, rfl⟩⟩)
  | 15, _ => exact Or.inr (Or.inr ⟨rfl, Or.inr ⟨_, rfl⟩⟩)
  | 16, _ => exact Or.inr (Or.inr ⟨rfl, Or.inr ⟨_, rfl⟩⟩)
  | 17, _ => exact Or.inr (Or.inr ⟨rfl, Or.inr ⟨_, rfl⟩⟩)
  | 18, _ => exact Or.inr (Or.inr ⟨rfl, Or.inr ⟨_, rfl⟩⟩)
  | k + 19, hk => exact absurd hk (by omega)
theorem cls_12 : am_cls 12 := by
  refine ⟨show ∀ w ∈ _, w ∈ am_wd from List.forall_mem_cons.mpr ⟨wd_1588, List.forall_mem_cons.mpr ⟨wd_1590, List.forall_mem_cons.mpr ⟨wd_1592, List.forall_mem_cons.mpr ⟨wd_1594, List.forall_mem_cons.mpr ⟨wd_1596, List.forall_mem_cons.mpr ⟨wd_1598, List.forall_mem_cons.mpr ⟨wd_1600, List.forall_mem_cons.mpr ⟨wd_1602, List.forall_mem_cons.mpr ⟨wd_1604, List.forall_mem_cons.mpr ⟨wd_1606, List.forall_mem_cons.mpr ⟨wd_1608, List.forall_mem_cons.mpr ⟨wd_1610, List.forall_mem_cons.mpr ⟨wd_1612, List.forall_mem_cons.mpr ⟨wd_1614, List.forall_mem_cons.mpr ⟨wd_1616, List.forall_mem_cons.mpr ⟨wd_1618, List.forall_mem_cons.mpr ⟨wd_1620, List.forall_mem_cons.mpr ⟨wd_1622, List.forall_mem_cons.mpr ⟨wd_1624, List.forall_mem_cons.mpr ⟨wd_1626, List.forall_mem_cons.mpr ⟨wd_1628, List.forall_mem_cons.mpr ⟨wd_1630, List.forall_mem_cons.mpr ⟨wd_1632, List.forall_mem_cons.mpr ⟨wd_1634, List.forall_mem_cons.mpr ⟨wd_1636, List.forall_mem_cons.mpr ⟨wd_1638, List.forall_mem_cons.mpr ⟨wd_1640, List.forall_mem_cons.mpr ⟨wd_1642, List.forall_mem_cons.mpr ⟨wd_1644, List.forall_mem_cons.mpr ⟨wd_1646, List.forall_mem_cons.mpr ⟨wd_1648, List.forall_mem_cons.mpr ⟨wd_1650, List.forall_mem_cons.mpr ⟨wd_1652, List.forall_mem_cons.mpr ⟨wd_1654, List.forall_mem_cons.mpr ⟨wd_1656, List.forall_mem_cons.mpr ⟨wd_1658, List.forall_mem_cons.mpr ⟨wd_1660, List.forall_mem_cons.mpr ⟨wd_1662, List.forall_mem_cons.mpr ⟨wd_1664, List.forall_mem_cons.mpr ⟨wd_1666, List.forall_mem_cons.mpr ⟨wd_1668, List.forall_mem_cons.mpr ⟨wd_1670, List.forall_mem_cons.mpr ⟨wd_1672, List.forall_mem_cons.mpr ⟨wd_1674, fun _ h => absurd h List.not_mem_nil⟩⟩⟩⟩⟩⟩⟩⟩⟩⟩⟩⟩⟩⟩⟩⟩⟩⟩⟩⟩⟩⟩⟩⟩⟩⟩⟩⟩⟩⟩⟩⟩⟩⟩⟩⟩⟩⟩⟩⟩⟩⟩⟩⟩, tyX12_ok, nmX12, wd_1536, wd_165, rfl, rfl, ?_⟩
  intro k hk
  have hk : k < 44 := hk
  match k, hk with
  | 0, _ => exact Or.inl ⟨rfl, Or.inl rfl⟩
  | 1, _ => exact Or.inr (Or.inr ⟨rfl, Or.inr ⟨_, rfl⟩⟩)
  | 2, _ => exact Or.inr (Or.inr ⟨rfl, Or.inr ⟨_, rfl⟩⟩)
  | 3, _ => exact Or.inr (Or.inr ⟨rfl, Or.inr ⟨_, rfl⟩⟩)
  | 4, _ => exact Or.inr (Or.inr ⟨rfl, Or.inr ⟨_, rfl⟩⟩)
  | 5, _ => exact Or.inl ⟨rfl, Or.inl rfl⟩
  | 6, _ => exact Or.inl ⟨rfl, Or.inl rfl⟩
  | 7, _ => exact Or.inl ⟨rfl, Or.inl rfl⟩
  | 8, _ => exact Or.inl ⟨rfl, Or.inl rfl⟩
  | 9, _ => exact Or.inl ⟨rfl, Or.inl rfl⟩
  | 10, _ => exact Or.inl ⟨rfl, Or.inl rfl⟩
  | 11, _ => exact Or.inl ⟨rfl, Or.inl rfl⟩
  | 12, _ => exact Or.inl ⟨rfl, Or.inl rfl⟩
  | 13, _ => exact Or.inl ⟨rfl, Or.inl rfl⟩
  | 14, _ => exact Or.inl ⟨rfl, Or.inl rfl⟩
  | 15, _ => exact Or.inl ⟨rfl, Or.inl rfl⟩
  | 16, _ => exact Or.inr (Or.inr ⟨rfl, Or.inr ⟨_, rfl⟩⟩)
  | 17, _ => exact Or.inr (Or.inr ⟨rfl, Or.inr ⟨_, rfl⟩⟩)
  | 18, _ => exact Or.inr (Or.inr ⟨rfl, Or.inr ⟨_, rfl⟩⟩)
  | 19, _ => exact Or.inr (Or.inr ⟨rfl, Or.inr ⟨_, rfl⟩⟩)
  | 20, _ => exact Or.inr (Or.inr ⟨rfl, Or.inr ⟨_, rfl⟩⟩)
  | 21, _ => exact Or.inr (Or.inr ⟨rfl, Or.inr ⟨_, rfl⟩⟩)
  | 22, _ => exact Or.inr (Or.inr ⟨rfl, Or.inr ⟨_, rfl⟩⟩)
  | 23, _ => exact Or.inl ⟨rfl, Or.inl rfl⟩
  | 24, _ => exact Or.inr (Or.inr ⟨rfl, Or.inr ⟨_, rfl⟩⟩)
  | 25, _ => exact Or.inl ⟨rfl, Or.inl rfl⟩
  | 26, _ => exact Or.inl ⟨rfl, Or.inl rfl⟩
  | 27, _ => exact Or.inr (Or.inr ⟨rfl, Or.inr ⟨_, rfl⟩⟩)
  | 28, _ => exact Or.inr (Or.inr ⟨rfl, Or.inr ⟨_, rfl⟩⟩)
  | 29, _ => exact Or.inr (Or.inr ⟨rfl, Or.inr ⟨_, rfl⟩⟩)
  | 30, _ => exact Or.inr (Or.inr ⟨rfl, Or.inr ⟨_, rfl⟩⟩)
  | 31, _ => exact Or.inl ⟨rfl, Or.inl rfl⟩
  | 32, _ => exact Or.inr (Or.inr ⟨rfl, Or.inr ⟨_, rfl⟩⟩)
  | 33, _ => exact Or.inr (Or.inr ⟨rfl, Or.inr ⟨_, rfl⟩⟩)
  | 34, _ => exact Or.inr (Or.inr ⟨rfl, Or.inr ⟨_, rfl⟩⟩)
  | 35, _ => exact Or.inl ⟨rfl, Or.inl rfl⟩
  | 36, _ => exact Or.inr (Or.inr ⟨rfl, Or.inr ⟨_, rfl⟩⟩)
  | 37, _ => exact Or.inl ⟨rfl, Or.inl rfl⟩
  | 38, _ => exact Or.inr (Or.inr ⟨rfl, Or.inr ⟨_, rfl⟩⟩)
  | 39, _ => exact Or.inr (Or.inl ⟨rfl, rfl⟩)
  | 40, _ => exact Or.inr (Or.inl ⟨rfl, rfl⟩)
  | 41, _ => exact Or.inr (Or.inr ⟨rfl, Or.inr ⟨_, rfl⟩⟩)
  | 42, _ => exact Or.inr (Or.inr ⟨rfl, Or.inr ⟨_, rfl⟩⟩)
  | 43, _ => exact Or.inr (Or.inr ⟨rfl, Or.inr ⟨_, rfl⟩⟩)
  | k + 44, hk => exact absurd hk (by omega)
theorem cls_r0 : ∀ j, j < 13 → am_cls (0 + j) := by
  intro j hj
  match j, hj with
  | 0, _ => exact cls_0
  | 1, _ => exact cls_1
  | 2, _ => exact cls_2
  | 3, _ => exact cls_3
  | 4, _ => exact cls_4
  | 5, _ => exact cls_5
  | 6, _ => exact cls_6
  | 7, _ => exact cls_7
  | 8, _ => exact cls_8
  | 9, _ => exact cls_9
  | 10, _ => exact cls_10
  | 11, _ => exact cls_11
  | 12, _ => exact cls_12
  | j + 13, hj => exact absurd hj (by omega)
set_option maxRecDepth 100000 in
theorem cls_all : ∀ j, j < 13 → am_cls j := by
  intro j hn
  rcases Nat.lt_or_ge j 13 with h | h
  · have z := cls_r0 (j - 0) (by omega)
    rwa [show 0 + (j - 0) = j by omega] at z
  omega
theorem am_gls : am_gl := ⟨wd_181, wd_182, (List.mem_filter.mp (show _ ∈ am_wd from wd_897)).1, wd_896, wd_173, wd_616, wd_613, wd_166, wd_617, wd_614⟩
