theorem ccarried_spec {h : HS} {a : AS} (hI : Inv a) (hH : Hc h a) (d : DS) {m : Nat} (hm : m < 1000) (x2 : Int32) : ∃ d', it X8_carried_B34 (fun _ _ _ _ _ _ _ => none) FU h d (nI m) x2 (nI (cdA a m 0).1) 0 0 = some (if x2 = 0 then nI (cdA a m 144).1 else nI (cdA a m 144).2, d') := by
  obtain ⟨N, hN, hFU⟩ := FU_ex
  have hR6 := hI.1.2.1
  rw [hFU]
  refine it_rule (bot := fun _ _ _ _ _ _ _ => none) 144 (fun _ (_ : DS) => True) (fun k i s => ∃ d', k h s (nI m) x2 (nI (cdA a m i).1) (nI (cdA a m i).2) (nI i) = some (if x2 = 0 then nI (cdA a m 144).1 else nI (cdA a m 144).2, d')) ?_ ?_ N 0 d (by omega) (by omega) trivial
  · intro k s _
    refine ⟨s, ?_⟩
    unfold X8_carried_B34
    rw [if_pos (by decide)]
    by_cases c : x2 = 0
    · rw [if_pos c, if_pos c]
    · rw [if_neg c, if_neg c]
  · intro k i s hi _ hk
    have l1 : i / 24 < 6 := by omega
    have l2 : i / 4 % 6 < 6 := Nat.mod_lt _ (by decide)
    have l3 : i % 4 < 4 := Nat.mod_lt _ (by decide)
    have h8 := cdA_le a m i
    rw [cdA_s] at hk
    have skip : cnB a i = false → ∃ d', X8_carried_J108 k h s (nI m) x2 (nI (cdA a m i).1) (nI (cdA a m i).2) (nI i) (nI (i / 24)) (nI (i / 4 % 6)) (nI (i % 4)) = some (if x2 = 0 then nI (cdA a m 144).1 else nI (cdA a m 144).2, d') := by
      intro hc
      rw [if_neg (fun h => by rw [hc] at h; cases h.1)] at hk
      unfold X8_carried_J108 X8_carried_J109 X8_carried_J131 X8_carried_J160
      rw [if_pos rfl, if_pos (Int32.le_refl _), nI_1]
      exact hk s trivial
    unfold X8_carried_B34
    rw [if_neg (show ¬ (144 : Int32) ≤ nI i from nlit (by decide) hi), dv24 hi, dv46 hi, md4 hi, isRoom_at hI hH (by omega), Option.bind_some, isRoom_at hI hH (by omega), Option.bind_some, cwnc_spec hI hH l1 l2 l3, Option.bind_some]
    by_cases c1 : i / 24 < a_R a
    · rw [if_pos c1, if_neg (by decide)]
      by_cases c2 : i / 4 % 6 < a_R a
      · rw [if_pos c2, if_neg (by decide)]
        rcases wnc_or a (i / 24) (i / 4 % 6) (i % 4) with hw | hw
        · have hc : cnB a i = true := by unfold cnB; simp [c1, c2, hw]
          obtain ⟨d1, f1⟩ := ccarrying_spec hI hH s hm l1 l2 l3 hw
          have g8 : fcA a m i ≤ 8 := mxA_le _ _
          have f1 : f_X8_fullestCarrying h s (nI (i / 24)) (nI (i / 4 % 6)) (nI (i % 4)) (nI m) = some (nI (fcA a m i), d1) := f1
          rw [hw, if_pos (by decide)]
          unfold X8_carried_J109 X8_carried_J131 X8_carried_J160
          rw [if_neg (show ¬ (1 : Int32) = 0 by decide), f1, Option.bind_some]
          show ∃ d', (if nI (cdA a m i).1 ≤ nI (fcA a m i) then k h d1 (nI m) x2 (nI (cdA a m i).1) (nI (cdA a m i).2) (nI i + 1) else k h d1 (nI m) x2 (nI (fcA a m i)) (((100 : Int32) * (nI (i / 24) + 1)) + ((10 : Int32) * nI (i / 4 % 6)) + nI (i % 4)) (nI i + 1)) = _
          rw [code_i, nI_1]
          by_cases c3 : fcA a m i < (cdA a m i).1
          · rw [if_pos ⟨hc, c3⟩] at hk
            rw [if_neg (nI_ge c3 (by omega))]
            exact hk d1 trivial
          · rw [if_neg (fun h => c3 h.2)] at hk
            rw [if_pos (nI_le (by omega) (by omega))]
            exact hk d1 trivial
        · rw [hw, if_neg (by decide)]
          exact skip (by unfold cnB; simp [hw])
      · rw [if_neg c2, if_pos rfl]
        exact skip (by unfold cnB; simp [c2])
    · rw [if_neg c1, if_pos rfl]
      exact skip (by unfold cnB; simp [c1])
theorem rcarried_spec {z : MS} {a : AS} (hI : Inv a) {w : MS} (hk0 : mkeep w = mkeep z) (hM : Mc (mcore z) a) {m : Nat} (hm : m < 1000) (x2 : Int32) : ∃ w', it X9_carried_B42 (fun _ _ _ _ _ _ => none) FU w (nI m) x2 (nI (cdA a m 0).1) 0 0 = some (if x2 = 0 then nI (cdA a m 144).1 else nI (cdA a m 144).2, w') ∧ mkeep w' = mkeep z := by
  obtain ⟨N, hN, hFU⟩ := FU_ex
  have hR6 := hI.1.2.1
  rw [hFU]
  refine it_rule (bot := fun _ _ _ _ _ _ => none) 144 (fun _ (s : MS) => mkeep s = mkeep z) (fun k i s => ∃ w', k s (nI m) x2 (nI (cdA a m i).1) (nI (cdA a m i).2) (nI i) = some (if x2 = 0 then nI (cdA a m 144).1 else nI (cdA a m 144).2, w') ∧ mkeep w' = mkeep z) ?_ ?_ N 0 w (by omega) (by omega) hk0
  · intro k s hs
    refine ⟨s, ?_, hs⟩
    unfold X9_carried_B42
    rw [if_pos (by decide)]
    by_cases c : x2 = 0
    · rw [if_pos c, if_pos c]
    · rw [if_neg c, if_neg c]
  · intro k i s hi hs hk
    have l1 : i / 24 < 6 := by omega
    have l2 : i / 4 % 6 < 6 := Nat.mod_lt _ (by decide)
    have l3 : i % 4 < 4 := Nat.mod_lt _ (by decide)
    have h8 := cdA_le a m i
    have hMs : Mc (mcore s) a := by rw [show mcore s = mcore z from congrArg (fun m => m.1) hs]; exact hM
    obtain ⟨s1, e1, e2, e3⟩ := asNow_Mx hMs
    have er : M_rooms s1 = nI (a_R a) := e3.1.1
    rw [cdA_s] at hk
    have skip : cnB a i = false → ∃ w', k s1 (nI m) x2 (nI (cdA a m i).1) (nI (cdA a m i).2) (nI (i + 1)) = some (if x2 = 0 then nI (cdA a m 144).1 else nI (cdA a m 144).2, w') ∧ mkeep w' = mkeep z := by
      intro hc
      rw [if_neg (fun h => by rw [hc] at h; cases h.1)] at hk
      exact hk s1 (e2.trans hs)
    unfold X9_carried_B42 X9_carried_J170
    rw [if_neg (show ¬ (144 : Int32) ≤ nI i from nlit (by decide) hi), e1, Option.bind_some, er, dv24 hi, dv46 hi, md4 hi, rwnc_spec hI e3.1 l1 l2 l3, Option.bind_some, nI_1]
    by_cases c1 : i / 24 < a_R a
    · rw [if_neg (nI_ge c1 (by omega))]
      by_cases c2 : i / 4 % 6 < a_R a
      · rw [if_neg (nI_ge c2 (by omega))]
        rcases wnc_or a (i / 24) (i / 4 % 6) (i % 4) with hw | hw
        · have hc : cnB a i = true := by unfold cnB; simp [c1, c2, hw]
          obtain ⟨s2, f1, f2, f3, -⟩ := rcarry_spec e3 l1 l2 l3 hw
          have hIc := Inv_cr hI l1 l2 l3 hw
          obtain ⟨s3, g1, g2, g3⟩ := goMin_spec hIc (Lo0 _) f3 hm
          have ef := rfull_spec (Inv_minN hIc lo0 m) g3.1
          rw [(minN_keep hIc lo0 m).1] at ef
          have ef : f_X9_fullest s3 = some (nI (fcA a m i)) := ef
          have g8 : fcA a m i ≤ 8 := mxA_le _ _
          rw [hw, if_pos (by decide), f1, Option.bind_some, g1, Option.bind_some, ef, Option.bind_some]
          unfold X9_carried_J155 X9_carried_J169 X9_carried_J170
          rw [code_i, nI_1]
          by_cases c3 : fcA a m i < (cdA a m i).1
          · rw [if_pos ⟨hc, c3⟩] at hk
            rw [if_neg (nI_ge c3 (by omega)), if_neg (nI_ge c3 (by omega))]
            exact hk s3 (((g2.trans f2).trans e2).trans hs)
          · rw [if_neg (fun h => c3 h.2)] at hk
            rw [if_pos (nI_le (by omega) (by omega)), if_pos (nI_le (by omega) (by omega))]
            exact hk s3 (((g2.trans f2).trans e2).trans hs)
        · rw [hw, if_neg (by decide)]
          exact skip (by unfold cnB; simp [hw])
      · rw [if_pos (nI_le (by omega) (by omega))]
        exact skip (by unfold cnB; simp [c2])
    · rw [if_pos (nI_le (by omega) (by omega))]
      exact skip (by unfold cnB; simp [c1])
theorem out_20 {x y : Int32} (h : (x < 0 ∨ nI 21 ≤ x) ∨ (y < 0 ∨ nI 2 ≤ y)) : (x < 0 ∨ (¬ x < 0 ∧ (20 : Int32) < x)) ∨ ((¬ x < 0 ∧ ¬ (20 : Int32) < x) ∧ (y < 0 ∨ (¬ y < 0 ∧ ¬ y ≤ (1 : Int32)))) := by
  by_cases a : x < 0
  · exact Or.inl (Or.inl a)
  · by_cases b : (20 : Int32) < x
    · exact Or.inl (Or.inr ⟨a, b⟩)
    · refine Or.inr ⟨⟨a, b⟩, ?_⟩
      have hy : y < 0 ∨ nI 2 ≤ y := by
        rcases h with (q | q) | q
        · exact absurd q a
        · exact absurd (Int32.lt_of_lt_of_le (show (20 : Int32) < nI 21 by decide) q) b
        · exact q
      by_cases c : y < 0
      · exact Or.inl c
      · exact Or.inr ⟨c, fun q => absurd (hy.resolve_left c) (Int32.not_le.mpr (Int32.lt_of_le_of_lt q (by decide)))⟩
theorem rin_20 {α : Type} {x y : Int32} (h : (x < 0 ∨ nI 21 ≤ x) ∨ (y < 0 ∨ nI 2 ≤ y)) (a : α) (k : Option α) : ((f_X9_in x (0 : Int32) (20 : Int32)).bind fun q4 => (if q4 = 0 then some a else ((f_X9_in y (0 : Int32) (1 : Int32)).bind fun q13 => (if q13 = 0 then some a else k)))) = some a := by
  by_cases hx : x < 0 ∨ nI 21 ≤ x
  · rw [show f_X9_in x 0 20 = some 0 from in_no (n := 21) (by decide) (by decide) hx, Option.bind_some, if_pos rfl]
  · obtain ⟨j, hj, rfl⟩ := (num_cases x (n := 21) (by decide)).resolve_right hx
    rw [show f_X9_in (nI j) 0 20 = some 1 from in_nI (n := 21) hj (by decide), Option.bind_some, if_neg (by decide), show f_X9_in y 0 1 = some 0 from in_no (n := 2) (by decide) (by decide) (h.resolve_left hx), Option.bind_some, if_pos rfl]
theorem sim_carried : Sim_carried Rel := by
  intro S z x y h
  obtain ⟨⟨a, hI, hH, hM⟩, h3⟩ := id h
  have hH : Hc (K_now S) a := hH
  have hM : Mc (mcore z) a := hM
  by_cases hx : (x < 0 ∨ nI 21 ≤ x) ∨ (y < 0 ∨ nI 2 ≤ y)
  · refine ⟨(-2, K_drift S), (-2, z), ?_, ?_, rfl, h⟩
    · unfold f_X8_carried
      rcases out_20 hx with (a | ⟨a, b⟩) | ⟨⟨a, b⟩, c | ⟨c, c'⟩⟩
      · rw [if_pos a]
      · rw [if_neg a, if_pos b]
      · rw [if_neg a, if_neg b, if_pos c]
      · rw [if_neg a, if_neg b, if_neg c, if_neg c']
    · unfold f_X9_carried; exact rin_20 hx _ _
  · obtain ⟨m, hm, rfl⟩ := (num_cases x (n := 21) (by decide)).resolve_right (fun q => hx (Or.inl q))
    obtain ⟨j, hj, rfl⟩ := (num_cases y (n := 2) (by decide)).resolve_right (fun q => hx (Or.inr q))
    obtain ⟨d1, e1⟩ := cbehind_spec hI hH (K_drift S) (m := m) (by omega)
    obtain ⟨d2, e2⟩ := ccarried_spec hI hH d1 (m := m) (by omega) (nI j)
    obtain ⟨w1, g1, g2, g3⟩ := asNow_Mx hM
    obtain ⟨w2, k1, k2, k3⟩ := goMin_spec hI (Lo0 a) g3 (m := m) (by omega)
    have ef := rfull_spec (Inv_minN hI lo0 m) k3.1
    rw [(minN_keep hI lo0 m).1] at ef
    obtain ⟨w3, r1, r2⟩ := rcarried_spec hI (k2.trans g2) hM (m := m) (by omega) (nI j)
    refine ⟨(if nI j = 0 then nI (cdA a m 144).1 else nI (cdA a m 144).2, d2), (if nI j = 0 then nI (cdA a m 144).1 else nI (cdA a m 144).2, w3), ?_, ?_, rfl, h.to rfl r2⟩
    · unfold f_X8_carried
      rw [if_neg (nI_pos (by omega)), if_neg (show ¬ (20 : Int32) < nI m from nI_nlt (a := 20) (by omega) (by omega)), if_neg (nI_pos (by omega)), if_pos (show nI j ≤ (1 : Int32) from nI_le (b := 1) (by omega) (by decide)), e1, Option.bind_some]
      exact e2
    · unfold f_X9_carried
      rw [show f_X9_in (nI m) 0 20 = some 1 from in_nI (n := 21) hm (by decide), Option.bind_some, if_neg (by decide), show f_X9_in (nI j) 0 1 = some 1 from in_nI (n := 2) hj (by decide), Option.bind_some, if_neg (by decide), g1, Option.bind_some, k1, Option.bind_some, ef, Option.bind_some]
      exact r1
