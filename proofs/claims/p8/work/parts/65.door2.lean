/-- a state with other widths -/
def a_setWd (a : AS) (f : Nat → Nat → Nat) : AS := (a_R a, a_T a, a_k a, a_th a, a_sz a, a_ch a, f, a_lk a, a_pl a, a_bs a, a_mt a, a_lf a, a_sg a, a_sr a)
def dw (a : AS) (r q v : Nat) (r' q' : Nat) : Nat := if (r' = r ∧ q' = q) ∨ (r' = q ∧ q' = r) then v else a_wd a r' q'
theorem Inv_door {a : AS} (hI : Inv a) {r q v : Nat} (hr : r < a_R a) (hq : q < a_R a) (hrq : r ≠ q) (hv : v ≤ 3) (h0 : v = 0 → jam a r q = 0) : Inv (a_setWd a (dw a r q v)) := by
  obtain ⟨i1, i2, i3, i4, i5, i6, i7, i8, i9, i10, i11⟩ := id hI
  refine ⟨i1, i2, ?_, ?_, i5, i6, i7, i8, ?_, i10, i11⟩
  · intro r' q' hr' hq'
    show dw a r q v r' q' ≤ 3 ∧ dw a r q v r' q' = dw a r q v q' r' ∧ (a_R a ≤ r' → dw a r q v r' q' = 0)
    obtain ⟨w1, w2, w3⟩ := i3 r' q' hr' hq'
    unfold dw
    by_cases c : (r' = r ∧ q' = q) ∨ (r' = q ∧ q' = r)
    · rw [if_pos c, if_pos (show (q' = r ∧ r' = q) ∨ (q' = q ∧ r' = r) by omega)]
      exact ⟨hv, rfl, fun _ => by omega⟩
    · rw [if_neg c, if_neg (show ¬ ((q' = r ∧ r' = q) ∨ (q' = q ∧ r' = r)) by omega)]
      exact ⟨w1, w2, w3⟩
  · intro r' hr'
    show dw a r q v r' r' = 0
    unfold dw
    rw [if_neg (by omega)]; exact i4 r' hr'
  · intro g hg hb
    obtain ⟨hl, j, j1, j2, j3, j4⟩ := i9 g hg hb
    refine ⟨hl, j, j1, j2, j3, ?_⟩
    show 1 ≤ dw a r q v (a_pl a g) j
    unfold dw
    by_cases c : (a_pl a g = r ∧ j = q) ∨ (a_pl a g = q ∧ j = r)
    · rw [if_pos c]
      rcases Nat.eq_zero_or_pos v with hv0 | hv0
      · exfalso
        have hj := h0 hv0
        have : 0 < jam a r q := jam_pos.mpr ⟨g, hg, by
          unfold stn
          have hb : a_bs a g = 3 := hb
          have j3 : a_mt a g = (j : Int) := j3
          rw [hb, j3]
          rcases c with ⟨c1, c2⟩ | ⟨c1, c2⟩
          · rw [c1, c2]; simp
          · rw [c1, c2]; simp⟩
        omega
      · exact hv0
    · rw [if_neg c]; exact j4
theorem Hc_door {a : AS} {h : HS} (hH : Hc h a) {r q v : Nat} (hr : r < 6) (hq : q < 6) : Hc (H_set_width h (upd (upd (H_width h) (r * 6 + q) (nI v)) (q * 6 + r) (nI v))) (a_setWd a (dw a r q v)) := by
  obtain ⟨b1, b2, b3, b4, b5, b6, b7, b8⟩ := hH
  refine ⟨b1, b2, b3, b4, ?_, b6, b7, b8⟩
  intro r' q' hr' hq'
  show upd (upd (H_width h) (r * 6 + q) (nI v)) (q * 6 + r) (nI v) (r' * 6 + q') = nI (dw a r q v r' q')
  unfold dw
  by_cases c1 : r' = q ∧ q' = r
  · rw [if_pos (Or.inr c1), c1.1, c1.2, pk_us]
  · rw [pk_un (by omega)]
    by_cases c2 : r' = r ∧ q' = q
    · rw [if_pos (Or.inl c2), c2.1, c2.2, pk_us]
    · rw [if_neg (by omega), pk_un (by omega)]; exact b5 r' q' hr' hq'
theorem Mc_door {a : AS} {z z' : MS} (hM : Mc (mcore z) a) {r q v : Nat} (hr : r < 6) (hq : q < 6) (e : mcore z' = (M_rooms z, M_things z, M_size z, M_chairs z, upd (upd (M_width z) (6 * r + q) (nI v)) (6 * q + r) (nI v), M_there z, M_likes z, M_place z, M_busy z, M_with z, M_left z, M_sights z, M_sight z)) : Mc (mcore z') (a_setWd a (dw a r q v)) := by
  rw [e]
  obtain ⟨m1, m2, m3, m4, m5, m6, m7⟩ := hM
  refine ⟨m1, m2, m3, m4, ?_, m6, m7⟩
  intro r' q' hr' hq'
  show upd (upd (M_width z) (6 * r + q) (nI v)) (6 * q + r) (nI v) (6 * r' + q') = nI (dw a r q v r' q')
  unfold dw
  by_cases c1 : r' = q ∧ q' = r
  · rw [if_pos (Or.inr c1), c1.1, c1.2, pk_us]
  · rw [pk_un (by omega)]
    by_cases c2 : r' = r ∧ q' = q
    · rw [if_pos (Or.inl c2), c2.1, c2.2, pk_us]
    · rw [if_neg (by omega), pk_un (by omega)]; exact m5 r' q' hr' hq'
theorem rdoor_loop {a : AS} {z z2 : MS} (hI : Inv a) (hM : Mc (mcore z) a) {r q v : Nat} (hr : r < 6) (hq : q < 6) (hv : v < 2 ^ 31) (e2 : z2 = M_set_width (M_set_width z (upd (M_width z) (6 * r + q) (nI v))) (upd (upd (M_width z) (6 * r + q) (nI v)) (6 * q + r) (nI v))) : it X9_door_B38 (fun _ _ _ _ _ => none) FU z (nI r) (nI q) (nI v) 0 = if v = 0 ∧ 0 < jam a r q then some (-3, z) else some (nI (a_wd a r q), z2) := by
  obtain ⟨N, hN, hFU⟩ := FU_ex
  rw [hFU]
  refine it_rule (bot := fun _ _ _ _ _ => none) 8 (fun i (_ : Unit) => ∀ j, j < i → v = 0 → stn a r q j = false) (fun k i _ => k z (nI r) (nI q) (nI v) (nI i) = if v = 0 ∧ 0 < jam a r q then some (-3, z) else some (nI (a_wd a r q), z2)) ?_ ?_ N 0 () (by omega) (by omega) (fun j hj => absurd hj (Nat.not_lt_zero _))
  · intro k _ hs
    have hw : M_width z (6 * r + q) = nI (a_wd a r q) := hM.2.2.2.2.1 r q hr hq
    have hn : ¬ (v = 0 ∧ 0 < jam a r q) := by
      rintro ⟨h1, h2⟩
      obtain ⟨g, hg, h3⟩ := jam_pos.mp h2
      rw [hs g hg h1] at h3; cases h3
    rw [if_neg hn]
    unfold X9_door_B38
    rw [if_pos (by decide), ix6', ix6', chk_nI (by omega) (by decide), chk_nI (by omega) (by decide), nI_clamp (by omega), nI_clamp (by omega), ltA_eq, chk_nI (by omega) (by decide), ltA_eq, hw]
    rw [e2]; rfl
  · intro k i _ hi hs hk
    unfold X9_door_B38 X9_door_J63
    rw [if_neg (show ¬ (8 : Int32) ≤ nI i from nlit (by decide) hi)]
    by_cases c : v = 0
    · rw [if_pos (show nI v = 0 by rw [c]; rfl), stands_spec hI hM hi (by omega) (by omega), Option.bind_some, nI_1]
      cases e : stn a r q i
      · rw [if_pos (by decide)]
        refine hk () (fun j hj h0 => ?_)
        by_cases cj : j = i
        · subst cj; exact e
        · exact hs j (by omega) h0
      · rw [if_neg (by decide), if_pos ⟨c, jam_pos.mpr ⟨i, hi, e⟩⟩]
    · rw [if_neg (show ¬ nI v = 0 from fun h => c ((nI_eq hv (b := 0) (by decide)).mp h)), nI_1]
      exact hk () (fun j _ h0 => absurd h0 c)
theorem sim_door : Sim_door Rel := by
  intro S z x1 x2 x3 h
  obtain ⟨⟨a, hI, hH, hM⟩, h3⟩ := id h
  have hH : Hc (K_now S) a := hH
  have hM : Mc (mcore z) a := hM
  have hR6 := hI.1.2.1
  have out : ∀ v : Int32, f_X8_door (K_now S) x1 x2 x3 = some (v, K_now S) → f_X9_door z x1 x2 x3 = some (v, z) → ∃ q w, f_X8_door (K_now S) x1 x2 x3 = some q ∧ f_X9_door z x1 x2 x3 = some w ∧ q.1 = w.1 ∧ Rel (K_set_now S q.2) w.2 := fun v e1 e2 => ⟨_, _, e1, e2, rfl, h⟩
  rcases rm_cases hI hH hM x1 with ⟨r, hr, rfl, a1, a2⟩ | ⟨-, a1, a2⟩
  · rcases rm_cases hI hH hM x2 with ⟨q, hq, rfl, b1, b2⟩ | ⟨-, b1, b2⟩
    · by_cases c : r = q
      · subst c
        refine out (-1) ?_ ?_
        · unfold f_X8_door
          rw [a1, Option.bind_some, if_neg (show ¬ (1 : Int32) = 0 by decide), Option.bind_some, if_neg (show ¬ (1 : Int32) = 0 by decide), if_pos rfl]
        · unfold f_X9_door
          rw [a2, Option.bind_some, if_neg (show ¬ (1 : Int32) = 0 by decide), Option.bind_some, if_neg (show ¬ (1 : Int32) = 0 by decide), if_pos rfl]
      · have c' : ¬ nI r = nI q := fun e => c ((nI_eq (by omega) (by omega)).mp e)
        rcases num_cases x3 (n := 4) (by decide) with ⟨v, hv, rfl⟩ | hx
        · obtain ⟨z2, ez2⟩ : ∃ y, y = M_set_width (M_set_width z (upd (M_width z) (6 * r + q) (nI v))) (upd (upd (M_width z) (6 * r + q) (nI v)) (6 * q + r) (nI v)) := ⟨_, rfl⟩
          have k2 : mkeep z2 = ((M_rooms z, M_things z, M_size z, M_chairs z, upd (upd (M_width z) (6 * r + q) (nI v)) (6 * q + r) (nI v), M_there z, M_likes z, M_place z, M_busy z, M_with z, M_left z, M_sights z, M_sight z), M_signs z, M_pad z, M_image z, M_isKept z) := by rw [ez2]; rfl
          have g2 : f_X9_door z (nI r) (nI q) (nI v) = if v = 0 ∧ 0 < jam a r q then some (-3, z) else some (nI (a_wd a r q), z2) := by
            unfold f_X9_door
            rw [a2, Option.bind_some, if_neg (show ¬ (1 : Int32) = 0 by decide), b2, Option.bind_some, if_neg (show ¬ (1 : Int32) = 0 by decide), if_neg c', show f_X9_in (nI v) 0 3 = some 1 from in_nI (n := 4) hv (by decide), Option.bind_some, if_neg (show ¬ (1 : Int32) = 0 by decide)]
            exact rdoor_loop hI hM (by omega) (by omega) (by omega) ez2
          have g3 : X8_door_J60 (K_now S) (nI r) (nI q) (nI v) = some (nI (a_wd a r q), H_set_width (K_now S) (upd (upd (H_width (K_now S)) (r * 6 + q) (nI v)) (q * 6 + r) (nI v))) := by
            unfold X8_door_J60 f_X1_widthOf
            rw [ix6, ix6, chk_nI (by omega) (by decide), Option.bind_some, nI_clamp (by omega), nI_clamp (by omega), chk_nI (by omega) (by decide), ltA_eq, chk_nI (by omega) (by decide), ltA_eq, hH.2.2.2.2.1 r q (by omega) (by omega)]
          have g1 : f_X8_door (K_now S) (nI r) (nI q) (nI v) = if v = 0 ∧ 0 < jam a r q then some (-3, K_now S) else some (nI (a_wd a r q), H_set_width (K_now S) (upd (upd (H_width (K_now S)) (r * 6 + q) (nI v)) (q * 6 + r) (nI v))) := by
            unfold f_X8_door
            rw [a1, Option.bind_some, if_neg (show ¬ (1 : Int32) = 0 by decide), b1, Option.bind_some, if_neg (show ¬ (1 : Int32) = 0 by decide), if_neg c', if_neg (nI_pos (by omega)), if_pos (show nI v ≤ (3 : Int32) from nI_le (b := 3) (by omega) (by decide)), jam_spec hI hH (by omega) (by omega), Option.bind_some, g3]
            have hj := jam_le (a := a) (r := r) (q := q)
            by_cases c0 : v = 0
            · rw [if_pos (show nI v = 0 by rw [c0]; rfl)]
              by_cases c1 : 0 < jam a r q
              · rw [if_neg (show ¬ nI (jam a r q) ≤ 0 from nI_ge c1 (by omega)), if_pos ⟨c0, c1⟩]
              · rw [if_pos (show nI (jam a r q) ≤ 0 from nI_le (b := 0) (by omega) (by decide)), if_neg (by omega)]
            · rw [if_neg (show ¬ nI v = 0 from fun h => c0 ((nI_eq (by omega) (b := 0) (by decide)).mp h)), if_neg (by omega)]
          by_cases hc : v = 0 ∧ 0 < jam a r q
          · exact out (-3) (by rw [g1, if_pos hc]) (by rw [g2, if_pos hc])
          · refine ⟨_, _, by rw [g1, if_neg hc], by rw [g2, if_neg hc], rfl, ?_⟩
            unfold Rel
            rw [k2]
            exact ⟨⟨_, Inv_door hI hr hq c (by omega) (by omega), Hc_door hH (by omega) (by omega), k2 ▸ Mc_door hM (by omega) (by omega) (congrArg (fun m => m.1) k2)⟩, h3⟩
        · refine out (-2) ?_ ?_
          · unfold f_X8_door
            rw [a1, Option.bind_some, if_neg (show ¬ (1 : Int32) = 0 by decide), b1, Option.bind_some, if_neg (show ¬ (1 : Int32) = 0 by decide), if_neg c']
            by_cases c2 : x3 < 0
            · rw [if_pos c2]
            · rw [if_neg c2, if_neg (show ¬ x3 ≤ (3 : Int32) from fun q => absurd (hx.resolve_left c2) (Int32.not_le.mpr (Int32.lt_of_le_of_lt q (by decide))))]
          · unfold f_X9_door
            rw [a2, Option.bind_some, if_neg (show ¬ (1 : Int32) = 0 by decide), b2, Option.bind_some, if_neg (show ¬ (1 : Int32) = 0 by decide), if_neg c', show f_X9_in x3 0 3 = some 0 from in_no (n := 4) (by decide) (by decide) hx, Option.bind_some, if_pos rfl]
    · refine out (-1) ?_ ?_
      · unfold f_X8_door; rw [a1, Option.bind_some, if_neg (show ¬ (1 : Int32) = 0 by decide), b1, Option.bind_some, if_pos rfl]
      · unfold f_X9_door; rw [a2, Option.bind_some, if_neg (show ¬ (1 : Int32) = 0 by decide), b2, Option.bind_some, if_pos rfl]
  · refine out (-1) ?_ ?_
    · unfold f_X8_door; rw [a1, Option.bind_some, if_pos rfl]
    · unfold f_X9_door; rw [a2, Option.bind_some, if_pos rfl]
