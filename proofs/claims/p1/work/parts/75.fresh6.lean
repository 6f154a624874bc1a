/-! p1: hinges, rests, led, year -/
theorem chinges_in {k : HS → DS → Int32 → Int32 → Int32 → Int32 → Int32 → Option (Int32 × DS)} (d : DS) (x y : Int32) {r : Nat} (hr : r < 3) : it (X8_hinges_B53 k) (fun _ _ _ _ _ _ _ _ => none) FU q0c d x y 0 (-6) (nI r) (nI (r + 1)) = k q0c d x y 0 (-6) (nI (r + 1)) := by
  obtain ⟨N, hN, hFU⟩ := FU_ex
  rw [hFU]
  refine it_rule (bot := fun _ _ _ _ _ _ _ _ => none) 3 (fun _ (_ : Unit) => True) (fun k' i _ => k' q0c d x y 0 (-6) (nI r) (nI i) = k q0c d x y 0 (-6) (nI (r + 1))) ?_ ?_ N (r + 1) () (by omega) (by omega) trivial
  · intro k' _ _
    unfold X8_hinges_B53
    rw [q0_Hz0.2.1, if_pos (by decide), nI_1]
  · intro k' i _ hi _ hk
    have e : f_X1_widthOf q0c (nI r) (nI i) = some 0 := by
      unfold f_X1_widthOf
      have e6 : nI r * (6 : Int32) + nI i = nI (r * 6 + i) := by rw [show (6 : Int32) = nI 6 from rfl, pk_mul, nI_add]
      rw [e6, chk_nI (by omega) (by decide), nI_clamp (by omega), q0_Hc.2.2.2.2.1 r i (by omega) (by omega)]
      rfl
    unfold X8_hinges_B53 X8_hinges_J92 X8_hinges_J113
    rw [q0_Hz0.2.1, if_neg (show ¬ (3 : Int32) ≤ nI i from nlit (by decide) hi), e, Option.bind_some, if_pos (Int32.le_refl _), if_pos (Int32.le_refl _), nI_1]
    exact hk () trivial
theorem chinges_0 (d : DS) (x y : Int32) : it X8_hinges_B35 (fun _ _ _ _ _ _ _ => none) FU q0c d x y 0 (-6) 0 = some (if y = 0 then 0 else -6, d) := by
  obtain ⟨N, hN, hFU⟩ := FU_ex
  rw [hFU]
  refine it_rule (bot := fun _ _ _ _ _ _ _ => none) 3 (fun _ (_ : Unit) => True) (fun k i _ => k q0c d x y 0 (-6) (nI i) = some (if y = 0 then 0 else -6, d)) ?_ ?_ N 0 () (by omega) (by omega) trivial
  · intro k _ _
    unfold X8_hinges_B35
    rw [q0_Hz0.2.1, if_pos (by decide)]
    by_cases c : y = 0
    · rw [if_pos c, if_pos c]
    · rw [if_neg c, if_neg c]
  · intro k i _ hi _ hk
    unfold X8_hinges_B35
    rw [q0_Hz0.2.1, if_neg (show ¬ (3 : Int32) ≤ nI i from nlit (by decide) hi), nI_1, chinges_in d x y hi]
    exact hk () trivial
theorem rhinges_in {k : MS → Int32 → Int32 → Int32 → Int32 → Int32 → Option (Int32 × MS)} {z : MS} (h : Fz0 z) (x y : Int32) {r : Nat} (hr : r < 3) : it (X9_hinges_B58 k) (fun _ _ _ _ _ _ _ => none) FU z x y 0 (-6) (nI r) (nI (r + 1)) = k z x y 0 (-6) (nI (r + 1)) := by
  obtain ⟨N, hN, hFU⟩ := FU_ex
  rw [hFU]
  refine it_rule (bot := fun _ _ _ _ _ _ _ => none) 3 (fun _ (_ : Unit) => True) (fun k' i _ => k' z x y 0 (-6) (nI r) (nI i) = k z x y 0 (-6) (nI (r + 1))) ?_ ?_ N (r + 1) () (by omega) (by omega) trivial
  · intro k' _ _
    unfold X9_hinges_B58
    rw [h.rm, if_pos (by decide), nI_1]
  · intro k' i _ hi _ hk
    have e6 : (6 : Int32) * nI r + nI i = nI (6 * r + i) := by rw [show (6 : Int32) = nI 6 from rfl, pk_mul, nI_add]
    unfold X9_hinges_B58 X9_hinges_J144
    rw [h.rm, if_neg (show ¬ (3 : Int32) ≤ nI i from nlit (by decide) hi), e6, chk_nI (by omega) (by decide), nI_clamp (by omega), h.wd (by omega) (by omega), if_pos (Int32.le_refl _), nI_1]
    exact hk () trivial
theorem rhinges_0 {z : MS} (h : Fz0 z) (x y : Int32) : it X9_hinges_B43 (fun _ _ _ _ _ _ => none) FU z x y 0 (-6) 0 = some (if y = 0 then 0 else -6, z) := by
  obtain ⟨N, hN, hFU⟩ := FU_ex
  rw [hFU]
  refine it_rule (bot := fun _ _ _ _ _ _ => none) 3 (fun _ (_ : Unit) => True) (fun k i _ => k z x y 0 (-6) (nI i) = some (if y = 0 then 0 else -6, z)) ?_ ?_ N 0 () (by omega) (by omega) trivial
  · intro k _ _
    unfold X9_hinges_B43
    rw [h.rm, if_pos (by decide)]
    by_cases c : y = 0
    · rw [if_pos c, if_pos c]
    · rw [if_neg c, if_neg c]
  · intro k i _ hi _ hk
    unfold X9_hinges_B43
    rw [h.rm, if_neg (show ¬ (3 : Int32) ≤ nI i from nlit (by decide) hi), nI_1, rhinges_in h x y hi]
    exact hk () trivial
theorem p1_hinges : SimN_hinges Rz0 Rz1 := by
  intro S z x y h_R; rw [h_R.1, h_R.2]
  by_cases hx : (x < 0 ∨ nI 21 ≤ x) ∨ (y < 0 ∨ nI 2 ≤ y)
  · refine ⟨(-2, zD0), (-2, w0c), ?_, ?_, rfl, trivial⟩
    · show f_X8_hinges q0c zD0 x y = _; unfold f_X8_hinges
      rcases out_20 hx with (a | ⟨a, b⟩) | ⟨⟨a, b⟩, c | ⟨c, c'⟩⟩
      · rw [if_pos a]
      · rw [if_neg a, if_pos b]
      · rw [if_neg a, if_neg b, if_pos c]
      · rw [if_neg a, if_neg b, if_neg c, if_neg c']
    · unfold f_X9_hinges; exact rin_20 hx _ _
  · obtain ⟨m, hm, rfl⟩ := (num_cases x (n := 21) (by decide)).resolve_right (fun q => hx (Or.inl q))
    obtain ⟨j, hj, rfl⟩ := (num_cases y (n := 2) (by decide)).resolve_right (fun q => hx (Or.inr q))
    obtain ⟨d1, e1, h1⟩ := cbehind_0 (m := m) (by omega) zD0
    obtain ⟨w1, w2, g1, g2, h2⟩ := rbehind_0 (m := m) (by omega)
    refine ⟨(if nI j = 0 then 0 else -6, d1), (if nI j = 0 then 0 else -6, w2), ?_, ?_, rfl, trivial⟩
    · show f_X8_hinges q0c zD0 (nI m) (nI j) = _; unfold f_X8_hinges
      rw [if_neg (nI_pos (by omega)), if_neg (show ¬ (20 : Int32) < nI m from nI_nlt (a := 20) (by omega) (by omega)), if_neg (nI_pos (by omega)), if_pos (show nI j ≤ (1 : Int32) from le_in (b := 1) (by omega) (by decide)), e1, Option.bind_some]
      exact chinges_0 d1 _ _
    · unfold f_X9_hinges
      rw [show f_X9_in (nI m) 0 20 = some 1 from in_nI (n := 21) hm (by decide), Option.bind_some, if_neg (by decide), show f_X9_in (nI j) 0 1 = some 1 from in_nI (n := 2) hj (by decide), Option.bind_some, if_neg (by decide), g1, Option.bind_some, g2, Option.bind_some, rfull_0 h2, Option.bind_some]
      exact rhinges_0 h2 _ _
set_option maxRecDepth 100000 in
theorem and_dec : ∀ i : Fin 256, (nI i.val &&& ((0 : Int32) ^^^ (-1 : Int32)) = 0 ↔ i.val = 0) := by decide +kernel
theorem and_0 {i : Nat} (hi : i < 256) : (nI i &&& ((0 : Int32) ^^^ (-1 : Int32)) = 0 ↔ i = 0) := and_dec ⟨i, hi⟩
theorem sh_0 {g : Nat} (hg : g < 8) : ¬ (((0 : Int32) >>> (nI g &&& 31)) &&& 1) = 1 := fun q => by
  have := (bit_1 (T := 0) (by decide) hg).mp q; rw [Nat.zero_testBit] at this; cases this
theorem isIn_0 (x : Int32) : f_X8_isIn 0 x = some 0 := by
  unfold f_X8_isIn
  rcases num_cases x (n := 8) (by decide) with ⟨g, hg, rfl⟩ | hx
  · rw [if_neg (nI_pos (by omega)), if_neg (show ¬ (8 : Int32) ≤ nI g from nlit (by decide) hg), if_neg (sh_0 hg)]
  · by_cases c : x < 0
    · rw [if_pos c]
    · rw [if_neg c, if_pos (show (8 : Int32) ≤ x from hx.resolve_left c)]
set_option maxRecDepth 100000 in
theorem rests_c : same (f_X8_rests q0c zT0 0 (-1)) (f_X9_rests w0c 0 (-1)) = true := by rw [q0_k, w0_k]; decide +kernel
theorem p1_rests : SimN_rests Rz0 Rz1 := by
  intro S z x y h_R; rw [h_R.1, h_R.2]
  rcases num_cases x (n := 256) (by decide) with ⟨j, hj, rfl⟩ | hx
  · by_cases c0 : j = 0
    · subst c0
      by_cases c1 : y = -1
      · subst c1; exact same_ex rests_c
      · refine ⟨(-1, zT0), (-1, w0c), ?_, ?_, rfl, trivial⟩
        · show f_X8_rests q0c zT0 0 y = _; unfold f_X8_rests
          rw [if_neg (by decide), if_neg (by decide), q0_Hz0.1, if_pos (by decide), if_neg c1, isIn_0, Option.bind_some, if_pos rfl]
        · show f_X9_rests w0c 0 y = _; unfold f_X9_rests
          rw [show f_X9_in 0 0 255 = some 1 from by decide +kernel, Option.bind_some, if_neg (by decide), w0_Fz0.th, if_pos (by decide), show f_X9_bits 0 = some 0 from by decide +kernel, Option.bind_some, if_pos (by decide), if_neg c1]
          rcases num_cases y (n := 8) (by decide) with ⟨g, hg, rfl⟩ | hx
          · rw [show f_X9_in (nI g) 0 7 = some 1 from in_nI (n := 8) hg (by decide), Option.bind_some, if_neg (by decide), has_z hg, Option.bind_some, if_pos rfl]
          · rw [show f_X9_in y 0 7 = some 0 from in_no (n := 8) (by decide) (by decide) hx, Option.bind_some, if_pos rfl]
    · have hn : ¬ nI j &&& ((0 : Int32) ^^^ (-1 : Int32)) = 0 := fun q => c0 ((and_0 hj).mp q)
      refine ⟨(-2, zT0), (-2, w0c), ?_, ?_, rfl, trivial⟩
      · show f_X8_rests q0c zT0 (nI j) y = _; unfold f_X8_rests
        rw [if_neg (nI_pos (by omega)), if_neg (show ¬ (255 : Int32) < nI j from nI_nlt (a := 255) (by omega) (by omega)), q0_Hz0.1, if_neg hn]
      · unfold f_X9_rests
        rw [show f_X9_in (nI j) 0 255 = some 1 from in_nI (n := 256) hj (by decide), Option.bind_some, if_neg (by decide), w0_Fz0.th, if_neg hn]
  · refine ⟨(-2, zT0), (-2, w0c), ?_, ?_, rfl, trivial⟩
    · show f_X8_rests q0c zT0 x y = _; unfold f_X8_rests
      by_cases c : x < 0
      · rw [if_pos c]
      · rw [if_neg c, if_pos (show (255 : Int32) < x from Int32.lt_of_lt_of_le (by decide) (hx.resolve_left c))]
    · unfold f_X9_rests
      rw [show f_X9_in x 0 255 = some 0 from in_no (n := 256) (by decide) (by decide) hx, Option.bind_some, if_pos rfl]
