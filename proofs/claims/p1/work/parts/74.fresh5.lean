/-! p1: minutes in which nobody is there -/
theorem le_out {x : Int32} {n b : Nat} (hb : b < n) (hn : n < 2 ^ 31) (h : nI n ≤ x) : ¬ x ≤ nI b := fun q => absurd (Int32.lt_of_le_of_lt q (nI_lt hb hn)) (Int32.not_lt.mpr h)
theorem le_in {j b : Nat} (h : j ≤ b) (hb : b < 2 ^ 31) : nI j ≤ nI b := (nI_leI (by omega) hb).mpr h
theorem p1_crowd : SimN_crowd Rz0 Rz1 := by
  intro S z x y h_R; rw [h_R.1, h_R.2]
  rcases rm_cases Iz3 q0_Hc w0_Mc x with ⟨r, hr, rfl, a1, a2⟩ | ⟨-, a1, a2⟩
  · rcases num_cases y (n := 100) (by decide) with ⟨m, hm, rfl⟩ | hx
    · obtain ⟨d1, e1, h1⟩ := begin_0 zD0
      obtain ⟨d2, e2, h2⟩ := run_0 h1 m hm
      obtain ⟨w1, g1, k1, -⟩ := asNow_spec w0c
      obtain ⟨w2, g2, k2⟩ := goMin_0 (w0_Fz0.to k1.1) hm
      refine ⟨(0, d2), (0, w2), ?_, ?_, rfl, trivial⟩
      · show f_X8_crowd q0c zD0 (nI r) (nI m) = _; unfold f_X8_crowd
        rw [a1, Option.bind_some, if_neg (by decide), if_neg (nI_pos (by omega)), if_pos (show nI m ≤ (99 : Int32) from le_in (b := 99) (by omega) (by decide)), e1, Option.bind_some, e2, Option.bind_some, bitsIn_0 h2.1, Option.bind_some]
      · unfold f_X9_crowd
        rw [a2, Option.bind_some, if_neg (by decide), show f_X9_in (nI m) 0 99 = some 1 from in_nI (n := 100) hm (by decide), Option.bind_some, if_neg (by decide), g1, Option.bind_some, g2, Option.bind_some, crowdIn_0 ((w0_Fz0.to k1.1).to k2), Option.bind_some]
    · refine ⟨(-2, zD0), (-2, w0c), ?_, ?_, rfl, trivial⟩
      · show f_X8_crowd q0c zD0 (nI r) y = _; unfold f_X8_crowd
        rw [a1, Option.bind_some, if_neg (by decide)]
        by_cases c : y < 0
        · rw [if_pos c]
        · rw [if_neg c, if_neg (show ¬ y ≤ (99 : Int32) from le_out (b := 99) (n := 100) (by decide) (by decide) (hx.resolve_left c))]
      · unfold f_X9_crowd
        rw [a2, Option.bind_some, if_neg (by decide), show f_X9_in y 0 99 = some 0 from in_no (n := 100) (by decide) (by decide) hx, Option.bind_some, if_pos rfl]
  · refine ⟨(-1, zD0), (-1, w0c), ?_, ?_, rfl, trivial⟩
    · show f_X8_crowd q0c zD0 x y = _; unfold f_X8_crowd
      rw [a1, Option.bind_some, if_pos rfl]
    · unfold f_X9_crowd; rw [a2, Option.bind_some, if_pos rfl]
theorem cthrong_0 {d : DS} (hd : Dz0 d) {m : Nat} (hm : m < 100) : ∃ d', it X8_throng_B29 (fun _ _ _ _ _ => none) FU q0c d (nI m) 0 0 = some (0, d') := by
  obtain ⟨N, hN, hFU⟩ := FU_ex
  rw [hFU]
  refine it_rule (bot := fun _ _ _ _ _ => none) m (fun _ (d : DS) => Dz0 d) (fun k i d => ∃ d', k q0c d (nI m) 0 (nI i) = some (0, d')) ?_ ?_ N 0 d (by omega) (by omega) hd
  · intro k d _
    exact ⟨d, by unfold X8_throng_B29; rw [if_pos (Int32.le_refl _)]⟩
  · intro k i d hi hd hk
    obtain ⟨d1, e1, h1⟩ := minute_0 hd
    obtain ⟨d2, e2⟩ := hk d1 h1
    refine ⟨d2, ?_⟩
    unfold X8_throng_B29
    rw [if_neg (nI_ge hi (by omega)), e1, Option.bind_some]
    show (f_X0_fullest d1).bind _ = _
    rw [cfull_0 h1, Option.bind_some, if_neg (by decide), nI_1]
    exact e2
theorem rthrong_0 {z : MS} (h : Fz0 z) {m : Nat} (hm : m < 100) : ∃ w, it X9_throng_B21 (fun _ _ _ _ => none) FU z (nI m) 0 0 = some (0, w) := by
  obtain ⟨N, hN, hFU⟩ := FU_ex
  rw [hFU]
  refine it_rule (bot := fun _ _ _ _ => none) m (fun _ (y : MS) => Fz0 y) (fun k i y => ∃ w, k y (nI m) 0 (nI i) = some (0, w)) ?_ ?_ N 0 z (by omega) (by omega) h
  · intro k y _
    exact ⟨y, by unfold X9_throng_B21; rw [if_pos (Int32.le_refl _)]⟩
  · intro k i y hi hy hk
    obtain ⟨w1, e1, h1⟩ := pass_0 hy
    obtain ⟨w2, e2⟩ := hk w1 (hy.to h1)
    refine ⟨w2, ?_⟩
    unfold X9_throng_B21 X9_throng_J49
    rw [if_neg (nI_ge hi (by omega)), e1, Option.bind_some]
    show (f_X9_fullest w1).bind _ = _
    rw [rfull_0 (hy.to h1), Option.bind_some, if_pos (Int32.le_refl _), nI_1]
    exact e2
theorem p1_throng : SimN_throng Rz0 Rz1 := by
  intro S z x h_R; rw [h_R.1, h_R.2]
  have out : (x < 1 ∨ ¬ x ≤ 99) → ∃ q w, f_X8_throng (K_now S0c) (K_drift S0c) x = some q ∧ f_X9_throng w0c x = some w ∧ q.1 = w.1 ∧ Rz1 (K_set_drift S0c q.2) w.2 := by
    intro hx
    refine ⟨(-2, zD0), (-2, w0c), ?_, ?_, rfl, trivial⟩
    · show f_X8_throng q0c zD0 x = _; unfold f_X8_throng
      by_cases c : x < 1
      · rw [if_pos c]
      · rw [if_neg c, if_neg (hx.resolve_left c)]
    · unfold f_X9_throng
      rw [show f_X9_in x 1 99 = some 0 from in_0 (hx.imp id Int32.not_le.mp), Option.bind_some, if_pos rfl]
  by_cases c1 : x < 1
  · exact out (Or.inl c1)
  · by_cases c2 : x ≤ 99
    · obtain ⟨m, hm', rfl⟩ := nI_of (x := x) (fun q => c1 (Int32.lt_of_lt_of_le q (by decide)))
      have hm : m < 100 := Nat.lt_succ_of_le ((nI_leI hm' (b := 99) (by decide)).mp c2)
      obtain ⟨d1, e1, h1⟩ := begin_0 zD0
      obtain ⟨d2, e2⟩ := cthrong_0 h1 hm
      obtain ⟨w1, g1, k1, -⟩ := asNow_spec w0c
      obtain ⟨w2, g2⟩ := rthrong_0 (w0_Fz0.to k1.1) hm
      refine ⟨(0, d2), (0, w2), ?_, ?_, rfl, trivial⟩
      · show f_X8_throng q0c zD0 (nI m) = _; unfold f_X8_throng
        rw [if_neg c1, if_pos c2, e1, Option.bind_some]; exact e2
      · unfold f_X9_throng
        rw [in_1 c1 (Int32.not_lt.mpr c2), Option.bind_some, if_neg (by decide), g1, Option.bind_some]; exact g2
    · exact out (Or.inr c2)
theorem cbehind_0 {m : Nat} (hm : m < 100) (d : DS) : ∃ d', f_X8_fullestBehind q0c d (nI m) = some (0, d') ∧ Dz0 d' := by
  obtain ⟨d1, e1, h1⟩ := begin_0 d
  obtain ⟨d2, e2, h2⟩ := run_0 h1 m hm
  refine ⟨d2, ?_, h2⟩
  unfold f_X8_fullestBehind
  rw [e1, Option.bind_some, e2, Option.bind_some, cfull_0 h2, Option.bind_some]
theorem rbehind_0 {m : Nat} (hm : m < 100) : ∃ w1 w2, f_X9_asNow w0c = some w1 ∧ f_X9_goMinutes w1 (nI m) = some w2 ∧ Fz0 w2 := by
  obtain ⟨w1, g1, k1, -⟩ := asNow_spec w0c
  obtain ⟨w2, g2, k2⟩ := goMin_0 (w0_Fz0.to k1.1) hm
  exact ⟨w1, w2, g1, g2, (w0_Fz0.to k1.1).to k2⟩
set_option maxRecDepth 100000 in
theorem can_dec : ∀ i : Fin 144, (f_X1_isRoom q0c (nI i.val / 24) = some 0 ∨ (f_X1_isRoom q0c (nI i.val / 24) = some 1 ∧ (f_X1_isRoom q0c ((nI i.val / 4) - (nI i.val / 4) / 6 * 6) = some 0 ∨ (f_X1_isRoom q0c ((nI i.val / 4) - (nI i.val / 4) / 6 * 6) = some 1 ∧ f_X1_whyNotCarry q0c (nI i.val / 24) ((nI i.val / 4) - (nI i.val / 4) / 6 * 6) (nI i.val - nI i.val / 4 * 4) = some 6)))) := by simp only [q0_k]; decide +kernel
set_option maxRecDepth 100000 in
theorem div_dec : ∀ i : Fin 144, nI i.val / 24 = nI (i.val / 24) ∧ (nI i.val / 4) - (nI i.val / 4) / 6 * 6 = nI (i.val / 4 % 6) ∧ nI i.val - nI i.val / 4 * 4 = nI (i.val % 4) := by decide +kernel
theorem ccarried_0 (d : DS) (x y : Int32) : it X8_carried_B34 (fun _ _ _ _ _ _ _ => none) FU q0c d x y 0 0 0 = some (0, d) := by
  obtain ⟨N, hN, hFU⟩ := FU_ex
  rw [hFU]
  refine it_rule (bot := fun _ _ _ _ _ _ _ => none) 144 (fun _ (_ : Unit) => True) (fun k i _ => k q0c d x y 0 0 (nI i) = some (0, d)) ?_ ?_ N 0 () (by omega) (by omega) trivial
  · intro k _ _
    unfold X8_carried_B34
    rw [if_pos (by decide), ite_self]
  · intro k i _ hi _ hk
    have hk' := hk () trivial
    unfold X8_carried_B34 X8_carried_J108 X8_carried_J109 X8_carried_J131 X8_carried_J160
    rw [if_neg (show ¬ (144 : Int32) ≤ nI i from nlit (by decide) hi)]
    rcases can_dec ⟨i, hi⟩ with h1 | ⟨h1, h2 | ⟨h2, h3⟩⟩
    · rw [h1, Option.bind_some, if_pos rfl, if_pos rfl, if_pos (Int32.le_refl _), nI_1]; exact hk'
    · rw [h1, Option.bind_some, if_neg (by decide), h2, Option.bind_some, if_pos rfl, if_pos rfl, if_pos (Int32.le_refl _), nI_1]; exact hk'
    · rw [h1, Option.bind_some, if_neg (by decide), h2, Option.bind_some, if_neg (by decide), h3, Option.bind_some, if_neg (by decide), if_pos rfl, if_pos (Int32.le_refl _), nI_1]; exact hk'
theorem rcarried_0 {z : MS} (h : Fz0 z) (x y : Int32) : ∃ w, it X9_carried_B42 (fun _ _ _ _ _ _ => none) FU z x y 0 0 0 = some (0, w) := by
  obtain ⟨N, hN, hFU⟩ := FU_ex
  rw [hFU]
  refine it_rule (bot := fun _ _ _ _ _ _ => none) 144 (fun _ (z : MS) => Fz0 z) (fun k i z => ∃ w, k z x y 0 0 (nI i) = some (0, w)) ?_ ?_ N 0 z (by omega) (by omega) h
  · intro k z _
    exact ⟨z, by unfold X9_carried_B42; rw [if_pos (by decide), ite_self]⟩
  · intro k i z hi hz hk
    obtain ⟨w1, g1, k1, -⟩ := asNow_spec z
    have h1 := hz.to k1.1
    obtain ⟨w2, e2⟩ := hk w1 h1
    refine ⟨w2, ?_⟩
    obtain ⟨d1, d2, d3⟩ := div_dec ⟨i, hi⟩
    have d1 : nI i / 24 = nI (i / 24) := d1
    have d2 : (nI i / 4) - (nI i / 4) / 6 * 6 = nI (i / 4 % 6) := d2
    have d3 : nI i - nI i / 4 * 4 = nI (i % 4) := d3
    unfold X9_carried_B42 X9_carried_J170
    rw [if_neg (show ¬ (144 : Int32) ≤ nI i from nlit (by decide) hi), g1, Option.bind_some, h1.rm, d1, d2, d3]
    by_cases c1 : (3 : Int32) ≤ nI (i / 24)
    · rw [if_pos c1, nI_1]; exact e2
    · rw [if_neg c1]
      by_cases c2 : (3 : Int32) ≤ nI (i / 4 % 6)
      · rw [if_pos c2, nI_1]; exact e2
      · rw [if_neg c2]
        have hr : i / 24 < 3 := by
          rcases Nat.lt_or_ge (i / 24) 3 with q | q
          · exact q
          · exact absurd (le_in q (by omega)) c1
        have hw : f_X9_whyNotCarry w1 (nI (i / 24)) (nI (i / 4 % 6)) (nI (i % 4)) = some 6 := by
          unfold f_X9_whyNotCarry X9_whyNotCarry_J33
          by_cases c3 : nI (i / 24) = nI (i / 4 % 6)
          · rw [if_pos c3]
          · have e4 : (4 : Int32) * nI (i / 24) + nI (i % 4) = nI (4 * (i / 24) + i % 4) := ix4' ..
            rw [if_neg c3, e4, chk_nI (by omega) (by decide), nI_clamp (by omega), if_pos ?_]
            rw [k1.2.2 _ (by omega)]
            exact (hz.2.2.2.1 (i / 24) (by omega)).1 (i % 4) (by omega)
        rw [hw, Option.bind_some, if_neg (by decide), nI_1]; exact e2
theorem out_20 {x y : Int32} (h : (x < 0 ∨ nI 21 ≤ x) ∨ (y < 0 ∨ nI 2 ≤ y)) : (x < 0 ∨ (¬ x < 0 ∧ (20 : Int32) < x)) ∨ ((¬ x < 0 ∧ ¬ (20 : Int32) < x) ∧ (y < 0 ∨ (¬ y < 0 ∧ ¬ y ≤ (1 : Int32)))) := by
  by_cases a : x < 0
  · exact Or.inl (Or.inl a)
  · by_cases b : (20 : Int32) < x
    · exact Or.inl (Or.inr ⟨a, b⟩)
    · refine Or.inr ⟨⟨a, b⟩, ?_⟩
      have hy : y < 0 ∨ nI 2 ≤ y := by
        rcases h with (q | q) | q
        · exact absurd q a
        · exact absurd (Int32.lt_of_lt_of_le (show (20 : Int32) < nI 21 by decide) q) b
        · exact q
      by_cases c : y < 0
      · exact Or.inl c
      · exact Or.inr ⟨c, le_out (b := 1) (n := 2) (by decide) (by decide) (hy.resolve_left c)⟩
theorem rin_20 {α : Type} {x y : Int32} (h : (x < 0 ∨ nI 21 ≤ x) ∨ (y < 0 ∨ nI 2 ≤ y)) (a : α) (k : Option α) : ((f_X9_in x (0 : Int32) (20 : Int32)).bind fun q4 => (if q4 = 0 then some a else ((f_X9_in y (0 : Int32) (1 : Int32)).bind fun q13 => (if q13 = 0 then some a else k)))) = some a := by
  by_cases hx : x < 0 ∨ nI 21 ≤ x
  · rw [show f_X9_in x 0 20 = some 0 from in_no (n := 21) (by decide) (by decide) hx, Option.bind_some, if_pos rfl]
  · obtain ⟨j, hj, rfl⟩ := (num_cases x (n := 21) (by decide)).resolve_right hx
    rw [show f_X9_in (nI j) 0 20 = some 1 from in_nI (n := 21) hj (by decide), Option.bind_some, if_neg (by decide), show f_X9_in y 0 1 = some 0 from in_no (n := 2) (by decide) (by decide) (h.resolve_left hx), Option.bind_some, if_pos rfl]
theorem p1_carried : SimN_carried Rz0 Rz1 := by
  intro S z x y h_R; rw [h_R.1, h_R.2]
  by_cases hx : (x < 0 ∨ nI 21 ≤ x) ∨ (y < 0 ∨ nI 2 ≤ y)
  · refine ⟨(-2, zD0), (-2, w0c), ?_, ?_, rfl, trivial⟩
    · show f_X8_carried q0c zD0 x y = _; unfold f_X8_carried
      rcases out_20 hx with (a | ⟨a, b⟩) | ⟨⟨a, b⟩, c | ⟨c, c'⟩⟩
      · rw [if_pos a]
      · rw [if_neg a, if_pos b]
      · rw [if_neg a, if_neg b, if_pos c]
      · rw [if_neg a, if_neg b, if_neg c, if_neg c']
    · unfold f_X9_carried; exact rin_20 hx _ _
  · obtain ⟨m, hm, rfl⟩ := (num_cases x (n := 21) (by decide)).resolve_right (fun q => hx (Or.inl q))
    obtain ⟨j, hj, rfl⟩ := (num_cases y (n := 2) (by decide)).resolve_right (fun q => hx (Or.inr q))
    obtain ⟨d1, e1, h1⟩ := cbehind_0 (m := m) (by omega) zD0
    obtain ⟨w1, w2, g1, g2, h2⟩ := rbehind_0 (m := m) (by omega)
    obtain ⟨w3, g3⟩ := rcarried_0 h2 (nI m) (nI j)
    refine ⟨(0, d1), (0, w3), ?_, ?_, rfl, trivial⟩
    · show f_X8_carried q0c zD0 (nI m) (nI j) = _; unfold f_X8_carried
      rw [if_neg (nI_pos (by omega)), if_neg (show ¬ (20 : Int32) < nI m from nI_nlt (a := 20) (by omega) (by omega)), if_neg (nI_pos (by omega)), if_pos (show nI j ≤ (1 : Int32) from le_in (b := 1) (by omega) (by decide)), e1, Option.bind_some]
      exact ccarried_0 d1 _ _
    · unfold f_X9_carried
      rw [show f_X9_in (nI m) 0 20 = some 1 from in_nI (n := 21) hm (by decide), Option.bind_some, if_neg (by decide), show f_X9_in (nI j) 0 1 = some 1 from in_nI (n := 2) hj (by decide), Option.bind_some, if_neg (by decide), g1, Option.bind_some, g2, Option.bind_some, rfull_0 h2, Option.bind_some]
      exact g3
