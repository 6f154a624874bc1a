def fdA : Option Nat → Int32
  | none => -6
  | some s => nI s
section RL3
variable {a : AS} {r k m : Nat}
theorem rled_out {w : MS} (x4 x5 : Int32) {s : Nat} {k50 : MS → Int32 → Int32 → Int32 → Int32 → Int32 → Int32 → Option (Int32 × MS)} : it (X9_led_B102 k50) (fun _ _ _ _ _ _ _ _ _ => none) FU w (nI r) (nI k) (nI m) x4 x5 (nI s) 0 0 = k50 w (nI r) (nI k) (nI m) x4 x5 (nI (s + 1)) := by
  obtain ⟨N, hN, hFU⟩ := FU_ex
  obtain ⟨n, rfl⟩ : ∃ n, N = n + 1 := ⟨N - 1, by omega⟩
  rw [hFU, it_s]
  unfold X9_led_B102 X9_led_J203 X9_led_J233 X9_led_J234 X9_led_J267
  rw [if_pos (show (0 : Int32) = 0 from rfl), if_pos (show (0 : Int32) = 0 from rfl), if_pos (show (0 : Int32) = 0 from rfl), ite_self, nI_1]
theorem rled_spec {z w : MS} (hI : Inv a) (hMz : Mc (mcore z) a) (hw : mkeep w = mkeep z) (hr : r < a_R a) (hm : m < 1000) (hk : k < 1000) {x4 : Int32} (hx4 : x4 = 0 ∨ x4 = 1) : ∃ w', it X9_led_B50 (fun _ _ _ _ _ _ _ => none) FU w (nI r) (nI k) (nI m) x4 (-6) 0 = some (ledV x4 (rfA a r k m 256), w') ∧ mkeep w' = mkeep z := by
  obtain ⟨N, hN, hFU⟩ := FU_ex
  have hT := hI.1.2.2.1
  rw [hFU]
  refine it_rule (bot := fun _ _ _ _ _ _ _ => none) 256 (fun _ (y : MS) => mkeep y = mkeep z) (fun kk i y => ∃ w', kk y (nI r) (nI k) (nI m) x4 (fdA (rfA a r k m i)) (nI i) = some (ledV x4 (rfA a r k m 256), w') ∧ mkeep w' = mkeep z) ?_ ?_ N 0 w (by omega) (by omega) hw
  · intro kk y hy
    refine ⟨y, ?_, hy⟩
    unfold X9_led_B50 X9_led_J284
    rw [if_pos (by decide)]
    cases e : rfA a r k m 256 with
    | none => rw [show fdA none = -6 from rfl, if_pos (by decide)]; rfl
    | some s =>
      have hs := (rf_some 256 s e).1
      have hb : f_X9_bits (nI s) = some (nI (pc s)) := bits_spec hs
      rw [show fdA (some s) = nI s from rfl, if_neg (nI_pos (by omega)), hb, Option.bind_some]
      show _ = some (if x4 = 1 then nI s else nI (pc s), y)
      by_cases c : x4 = 1
      · rw [if_pos c, if_pos c]
      · rw [if_neg c, if_neg c]
  · intro kk i y hi hy hk2
    have hMy : Mc (mcore y) a := by rw [show mcore y = mcore z from congrArg (fun m => m.1) hy]; exact hMz
    obtain ⟨y1, e1, e2, e3⟩ := asNow_Mx hMy
    have hy1 := e2.trans hy
    have skip : ¬ (gdB a r k m i = true ∧ ∀ t, rfA a r k m i = some t → pc i < pc t) → ∃ w', X9_led_J92 kk y (nI r) (nI k) (nI m) x4 (fdA (rfA a r k m i)) (nI i) = some (ledV x4 (rfA a r k m 256), w') ∧ mkeep w' = mkeep z := by
      intro hn
      have := hk2 y1 hy1
      rw [rfA_n hn] at this
      unfold X9_led_J92 X9_led_J93
      rw [e1, Option.bind_some, rled_out]
      exact this
    have tryit : i &&& a_T a = i → (∀ t, rfA a r k m i = some t → pc i < pc t) → ∃ w', X9_led_J88 kk y (nI r) (nI k) (nI m) x4 (fdA (rfA a r k m i)) (nI i) = some (ledV x4 (rfA a r k m 256), w') ∧ mkeep w' = mkeep z := by
      intro hsub hpc
      obtain ⟨w2, k1, k2⟩ := rled_in2 hI hr hm hk hi hy1 e3 hsub x4 (fdA (rfA a r k m i)) (k50 := kk)
      have := hk2 w2 k1
      unfold X9_led_J88 X9_led_J93
      rw [e1, Option.bind_some, k2]
      cases e : gdB a r k m i
      · rw [rfA_n (fun h => by rw [e] at h; cases h.1)] at this; exact this
      · rw [rfA_y e hpc] at this; exact this
    unfold X9_led_B50
    rw [if_neg (show ¬ (256 : Int32) ≤ nI i from nlit (by decide) hi), m_there hMy]
    by_cases c : i &&& a_T a = i
    · rw [if_pos ((sub_1 hi).mpr c)]
      cases e : rfA a r k m i with
      | none =>
        rw [e] at tryit
        rw [show fdA none = -6 from rfl, if_pos (by decide)]
        exact tryit c (fun t h => by cases h)
      | some t =>
        have ht := (rf_some i t e).1
        have b1 : f_X9_bits (nI i) = some (nI (pc i)) := bits_spec hi
        have b2 : f_X9_bits (nI t) = some (nI (pc t)) := bits_spec (show t < 256 by omega)
        have p1 := pc_le i
        have p2 := pc_le t
        rw [e] at tryit skip
        rw [show fdA (some t) = nI t from rfl, if_neg (nI_pos (by omega)), b1, Option.bind_some, b2, Option.bind_some]
        by_cases c2 : pc t ≤ pc i
        · rw [if_pos (nI_le c2 (by omega))]
          exact skip (fun h => by have := h.2 t rfl; omega)
        · rw [if_neg (nI_ge (by omega) (by omega))]
          exact tryit c (fun u h => by cases h; omega)
    · rw [if_neg (fun q => c ((sub_1 hi).mp q))]
      refine skip (fun h => c ?_)
      have hg := h.1
      unfold gdB at hg
      simp only [Bool.and_eq_true, decide_eq_true_eq] at hg
      exact (sub_bit hi).mpr (fun j hj hb => (idl_bit hi hg.1 hj hb).1)
end RL3
theorem sim_led : Sim_led Rel := by
  intro S z x1 x2 x3 x4 h
  obtain ⟨⟨a, hI, hH, hM⟩, h3⟩ := id h
  have hH : Hc (K_now S) a := hH
  have hM : Mc (mcore z) a := hM
  have n10 : ¬ (1 : Int32) = 0 := by decide
  have out : ∀ v : Int32, f_X8_led (K_now S) (K_drift S) x1 x2 x3 x4 = some (v, K_drift S) → f_X9_led z x1 x2 x3 x4 = some (v, z) → ∃ q w, f_X8_led (K_now S) (K_drift S) x1 x2 x3 x4 = some q ∧ f_X9_led z x1 x2 x3 x4 = some w ∧ q.1 = w.1 ∧ Rel (K_set_drift S q.2) w.2 := fun v e1 e2 => ⟨_, _, e1, e2, rfl, h.to rfl rfl⟩
  rcases rm_cases hI hH hM x1 with ⟨r, hr, rfl, a1, a2⟩ | ⟨-, a1, a2⟩
  · by_cases b1 : x2 < 1
    · exact out (-2) (by unfold f_X8_led; rw [a1, Option.bind_some, if_neg n10, if_pos b1]) (by unfold f_X9_led; rw [a2, Option.bind_some, if_neg n10, in_0 (Or.inl b1), Option.bind_some, if_pos rfl])
    · by_cases b2 : (8 : Int32) < x2
      · exact out (-2) (by unfold f_X8_led; rw [a1, Option.bind_some, if_neg n10, if_neg b1, if_pos b2]) (by unfold f_X9_led; rw [a2, Option.bind_some, if_neg n10, in_0 (Or.inr b2), Option.bind_some, if_pos rfl])
      · by_cases b3 : x3 < 0
        · exact out (-2) (by unfold f_X8_led; rw [a1, Option.bind_some, if_neg n10, if_neg b1, if_neg b2, if_pos b3]) (by unfold f_X9_led; rw [a2, Option.bind_some, if_neg n10, in_1 b1 b2, Option.bind_some, if_neg n10, in_0 (Or.inl b3), Option.bind_some, if_pos rfl])
        · by_cases b4 : (20 : Int32) < x3
          · exact out (-2) (by unfold f_X8_led; rw [a1, Option.bind_some, if_neg n10, if_neg b1, if_neg b2, if_neg b3, if_pos b4]) (by unfold f_X9_led; rw [a2, Option.bind_some, if_neg n10, in_1 b1 b2, Option.bind_some, if_neg n10, in_0 (Or.inr b4), Option.bind_some, if_pos rfl])
          · by_cases b5 : x4 < 0
            · exact out (-2) (by unfold f_X8_led; rw [a1, Option.bind_some, if_neg n10, if_neg b1, if_neg b2, if_neg b3, if_neg b4, if_pos b5]) (by unfold f_X9_led; rw [a2, Option.bind_some, if_neg n10, in_1 b1 b2, Option.bind_some, if_neg n10, in_1 b3 b4, Option.bind_some, if_neg n10, in_0 (Or.inl b5), Option.bind_some, if_pos rfl])
            · by_cases b6 : x4 ≤ 1
              · obtain ⟨k, hk', rfl⟩ := nI_of (x := x2) (fun q => b1 (Int32.lt_of_lt_of_le q (by decide)))
                obtain ⟨m, hm', rfl⟩ := nI_of b3
                have hk8 : k ≤ 8 := (nI_leI hk' (b := 8) (by decide)).mp (Int32.not_lt.mp b2)
                have hm20 : m ≤ 20 := (nI_leI hm' (b := 20) (by decide)).mp (Int32.not_lt.mp b4)
                have hx4 : x4 = 0 ∨ x4 = 1 := by
                  obtain ⟨j, hj', rfl⟩ := nI_of b5
                  have hj : j ≤ 1 := (nI_leI hj' (b := 1) (by decide)).mp b6
                  rcases (show j = 0 ∨ j = 1 by omega) with rfl | rfl
                  · exact Or.inl rfl
                  · exact Or.inr rfl
                obtain ⟨d', e1⟩ := cled_spec hI hH hr (show k < 1000 by omega) (show m < 1000 by omega) hx4 (K_drift S)
                obtain ⟨w', e2, e3⟩ := rled_spec (z := z) (w := z) hI hM rfl hr (show m < 1000 by omega) (show k < 1000 by omega) hx4
                refine ⟨(ledV x4 (rfA a r k m 256), d'), (ledV x4 (rfA a r k m 256), w'), ?_, ?_, rfl, h.to rfl e3⟩
                · unfold f_X8_led
                  rw [a1, Option.bind_some, if_neg n10, if_neg b1, if_neg b2, if_neg b3, if_neg b4, if_neg b5, if_pos b6, idle_spec hI hH, Option.bind_some]
                  exact e1
                · unfold f_X9_led
                  rw [a2, Option.bind_some, if_neg n10, in_1 b1 b2, Option.bind_some, if_neg n10, in_1 b3 b4, Option.bind_some, if_neg n10, in_1 b5 (Int32.not_lt.mpr b6), Option.bind_some, if_neg n10]
                  exact e2
              · exact out (-2) (by unfold f_X8_led; rw [a1, Option.bind_some, if_neg n10, if_neg b1, if_neg b2, if_neg b3, if_neg b4, if_neg b5, if_neg b6]) (by unfold f_X9_led; rw [a2, Option.bind_some, if_neg n10, in_1 b1 b2, Option.bind_some, if_neg n10, in_1 b3 b4, Option.bind_some, if_neg n10, in_0 (Or.inr (Int32.not_le.mp b6)), Option.bind_some, if_pos rfl])
  · exact out (-1) (by unfold f_X8_led; rw [a1, Option.bind_some, if_pos rfl]) (by unfold f_X9_led; rw [a2, Option.bind_some, if_pos rfl])
