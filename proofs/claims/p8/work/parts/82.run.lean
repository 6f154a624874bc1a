theorem tk_fix {b : AS} (h : ∀ j, j < 8 → a_bs b j ≠ 1) : tkI b 8 = b := by
  have e1 : (fun j => if j < 8 ∧ a_bs b j = 1 ∧ a_lf b j ≤ 1 then 0 else a_bs b j) = a_bs b := funext fun j => if_neg (fun q => h j q.1 q.2.1)
  have e2 : (fun j => if j < 8 ∧ a_bs b j = 1 ∧ a_lf b j ≤ 1 then -6 else a_mt b j) = a_mt b := funext fun j => if_neg (fun q => h j q.1 q.2.1)
  have e3 : (fun j => if j < 8 ∧ a_bs b j = 1 then a_lf b j - 1 else a_lf b j) = a_lf b := funext fun j => if_neg (fun q => h j q.1 q.2)
  unfold tkI
  rw [e1, e2, e3]
  rfl
theorem stil_min {lo : Nat → Nat → Bool} {b : AS} (h : stil lo b = true) : minA lo b = b := by
  unfold stil at h
  simp only [Bool.and_eq_true, beq_iff_eq, Bool.not_eq_true'] at h
  have e := mvA_0 8 (show (mvA lo b 8).2.2 = 0 from h.1)
  unfold minA
  rw [e]
  exact tk_fix (fun j hj => anyT_not h.2 hj)
theorem minN_fix {lo : Nat → Nat → Bool} {b : AS} {i : Nat} (h : minA lo (minN lo b i) = minN lo b i) : ∀ k, minN lo b (i + k) = minN lo b i
  | 0 => rfl
  | k + 1 => by rw [show i + (k + 1) = (i + k) + 1 by omega, minN_s, minN_fix h k, h]
theorem run_spec {d : DS} {b : AS} {gn : Nat → Nat → Nat} {lo : Nat → Nat → Bool} (hI : Inv b) (hL : LoOk b lo) (hD : Dx d b gn lo) {m : Nat} (hm : m < 1000) : ∃ d' gn', f_X0_run d (nI m) = some d' ∧ Dx d' (minN lo b m) gn' lo := by
  obtain ⟨N, hN, hFU⟩ := FU_ex
  unfold f_X0_run
  rw [hFU]
  refine it_rule (bot := fun _ _ _ => none) m (fun i (s : DS) => ∃ gn, Dx s (minN lo b i) gn lo) (fun k i s => ∃ d' gn', k s (nI m) (nI i) = some d' ∧ Dx d' (minN lo b m) gn' lo) ?_ ?_ N 0 d (by omega) (by omega) ⟨gn, hD⟩
  · intro k s ⟨gn, hs⟩
    exact ⟨s, gn, by unfold X0_run_B2; rw [if_pos (Int32.le_refl _)], hs⟩
  · intro k i s hi ⟨gn, hs⟩ hk
    obtain ⟨d1, gn1, e1, e2⟩ := stillMin_spec (Inv_minN hI lo i) (Lo_minN hI hL i) hs
    unfold X0_run_B2
    rw [if_neg (nI_ge hi (by omega)), e1, Option.bind_some, nI_1]
    cases c : stil lo (minN lo b i)
    · exact hk d1 ⟨gn1, e2⟩
    · refine ⟨d1, gn1, rfl, ?_⟩
      have q := stil_min c
      rw [q] at e2
      have := minN_fix q (m - i)
      rw [show i + (m - i) = m by omega] at this
      rw [this]; exact e2
/-- the fullest of the first n rooms -/
def mxA (b : AS) : Nat → Nat
  | 0 => 0
  | r + 1 => if mxA b r < a_in b r then a_in b r else mxA b r
theorem mxA_s (b : AS) (r : Nat) : mxA b (r + 1) = if mxA b r < a_in b r then a_in b r else mxA b r := rfl
theorem mxA_le (b : AS) : ∀ r, mxA b r ≤ 8
  | 0 => Nat.zero_le _
  | r + 1 => by
    rw [mxA_s]
    have h1 : a_in b r ≤ 8 := cnt_le _ 8
    have h2 := mxA_le b r
    split <;> omega
theorem cfull_spec {d : DS} {b : AS} {gn : Nat → Nat → Nat} {lo : Nat → Nat → Bool} (hI : Inv b) (hD : Dx d b gn lo) : f_X0_fullest d = some (nI (mxA b (a_R b))) := by
  obtain ⟨N, hN, hFU⟩ := FU_ex
  have hR6 := hI.1.2.1
  unfold f_X0_fullest
  rw [hFU]
  refine it_rule (bot := fun _ _ _ => none) (a_R b) (fun i (x : Int32) => x = nI (mxA b i)) (fun k i x => k d x (nI i) = some (nI (mxA b (a_R b)))) ?_ ?_ N 0 0 (by omega) (by omega) rfl
  · intro k x hx
    unfold X0_fullest_B4
    rw [hD.1.1, if_pos (Int32.le_refl _), hx]
  · intro k i x hi hx hk
    have h1 : a_in b i ≤ 8 := cnt_le _ 8
    have h2 := mxA_le b i
    unfold X0_fullest_B4
    rw [hD.1.1, if_neg (nI_ge hi (by omega)), chk_nI (show i < 6 by omega) (by decide), nI_clamp (by omega), hD.2.1 i (by omega), hx, nI_1]
    refine hk _ ?_
    rw [mxA_s]
    by_cases c : mxA b i < a_in b i
    · rw [if_pos (nI_lt c (by omega)), if_pos c]
    · rw [if_neg (nI_nlt (by omega) (by omega)), if_neg c]
theorem rfull_spec {w : MS} {b : AS} (hI : Inv b) (hM : Mc (mnow w) b) : f_X9_fullest w = some (nI (mxA b (a_R b))) := by
  obtain ⟨N, hN, hFU⟩ := FU_ex
  have hR6 := hI.1.2.1
  have er : M_rooms w = nI (a_R b) := hM.1
  unfold f_X9_fullest
  rw [hFU]
  refine it_rule (bot := fun _ _ _ => none) (a_R b) (fun i (x : Int32) => x = nI (mxA b i)) (fun k i x => k w x (nI i) = some (nI (mxA b (a_R b)))) ?_ ?_ N 0 0 (by omega) (by omega) rfl
  · intro k x hx
    unfold X9_fullest_B4
    rw [er, if_pos (Int32.le_refl _), hx]
  · intro k i x hi hx hk
    have h1 : a_in b i ≤ 8 := cnt_le _ 8
    have h2 := mxA_le b i
    unfold X9_fullest_B4 X9_fullest_J30
    rw [er, if_neg (nI_ge hi (by omega)), cin_all hI hM (by omega), Option.bind_some, hx, nI_1]
    by_cases c : mxA b i < a_in b i
    · rw [if_neg (nI_ge c (by omega))]
      exact hk _ (by rw [mxA_s, if_pos c])
    · rw [if_pos (nI_le (by omega) (by omega))]
      exact hk _ (by rw [mxA_s, if_neg c])
/-- the guests of a room, as bits, in the reference's present -/
theorem crowdIn_spec {w : MS} {b : AS} (hI : Inv b) (hM : Mc (mnow w) b) {r : Nat} (hr : r < 6) : f_X9_crowdIn w (nI r) = some (nI (msk (fun g => a_is b g && a_pl b g == r) 8)) := by
  obtain ⟨N, hN, hFU⟩ := FU_ex
  have hT := hI.1.2.2.1
  have et : M_there w = nI (a_T b) := hM.2.1
  unfold f_X9_crowdIn
  rw [hFU]
  refine it_rule (bot := fun _ _ _ _ => none) 8 (fun i (x : Int32) => x = nI (msk (fun g => a_is b g && a_pl b g == r) i)) (fun k i x => k w (nI r) x (nI i) = some (nI (msk (fun g => a_is b g && a_pl b g == r) 8))) ?_ ?_ N 0 0 (by omega) (by omega) rfl
  · intro k x hx
    unfold X9_crowdIn_B4
    rw [if_pos (by decide), hx]
  · intro k i x hi hx hk
    have k0 : (a_is b i && a_pl b i == r) = false → k w (nI r) (x ||| 0) (nI (i + 1)) = some (nI (msk (fun g => a_is b g && a_pl b g == r) 8)) := by
      intro h
      refine hk _ ?_
      rw [Int32.or_zero, hx]
      conv => rhs; unfold msk
      rw [h]; rfl
    unfold X9_crowdIn_B4 X9_crowdIn_J38 X9_crowdIn_J39
    rw [if_neg (show ¬ (8 : Int32) ≤ nI i from nlit (by decide) hi), et, has_b hT hi, Option.bind_some, nI_1]
    cases e : (a_T b).testBit i
    · have e' : a_is b i = false := e
      rw [if_pos (by decide)]; exact k0 (by rw [e']; rfl)
    · have e' : a_is b i = true := e
      have hpl := (hI.2.2.2.2.2.1 i hi e').1
      have hR6 := hI.1.2.1
      rw [if_neg (by decide), chk_nI hi (by decide), nI_clamp (by omega), (gt_now hM hi e').1]
      by_cases c : a_pl b i = r
      · rw [if_pos (by rw [c])]
        refine hk _ ?_
        rw [hx, or_bit hi (msk_lt _ i)]
        conv => rhs; unfold msk
        rw [e', c]; simp
      · rw [if_neg (fun h => c ((nI_eq (by omega) (by omega)).mp h))]; exact k0 (by rw [e']; simp [c])
theorem sim_goes : Sim_goes Rel := by
  intro S z x1 h
  obtain ⟨⟨a, hI, hH, hM⟩, h3⟩ := id h
  have hH : Hc (K_now S) a := hH
  have hM : Mc (mcore z) a := hM
  rcases th_cases hI hH hM x1 with ⟨g, hg, rfl, hg1, t1, t2⟩ | ⟨t1, t2⟩
  · obtain ⟨w, e1, e2, e3⟩ := asNow_Mx hM
    obtain ⟨w', s1, s2, s3⟩ := Mx_shut e3
    have hb := (hH.2.2.2.2.2.1 g hg).2.1
    have hb' : M_busyNow w' g = nI (a_bs a g) := (gt_now s3.1 hg hg1).2.1
    have hbs := bs_lt hI hg
    by_cases c : a_bs a g = 0
    · obtain ⟨d', b1, b2⟩ := begin_spec (d := K_drift S) hI hH
      refine ⟨(nI (toA a (fun _ _ => 0) lo0 g), d'), (nI (toA a (fun _ _ => 0) lo0 g), w'), ?_, ?_, rfl, h.to rfl (s2.trans e2)⟩
      · unfold f_X8_goes
        rw [t1, Option.bind_some, if_neg (show ¬ (1 : Int32) = 0 by decide), chk_nI hg (by decide), nI_clamp (by omega), hb, if_pos (show nI (a_bs a g) = 0 by rw [c]; rfl), b1, Option.bind_some, target_spec hI (Lo0 a) (fun _ _ _ _ => by decide) b2 hg hg1, Option.bind_some]
        rfl
      · unfold f_X9_goes f_X9_isBusy
        rw [t2, Option.bind_some, if_neg (show ¬ (1 : Int32) = 0 by decide), e1, Option.bind_some, s1, Option.bind_some, chk_nI hg (by decide), nI_clamp (by omega), hb', if_pos (show nI (a_bs a g) ≤ 0 by rw [c]; decide), Option.bind_some, if_pos rfl, goal_none hI (Lo0 a) (fun _ _ _ _ => by decide) s3 hg hg1, Option.bind_some]
        rfl
    · refine ⟨(-3, K_drift S), (-3, w'), ?_, ?_, rfl, h.to rfl (s2.trans e2)⟩
      · unfold f_X8_goes
        rw [t1, Option.bind_some, if_neg (show ¬ (1 : Int32) = 0 by decide), chk_nI hg (by decide), nI_clamp (by omega), hb, if_neg (show ¬ nI (a_bs a g) = 0 from fun h => c ((nI_eq (by omega) (b := 0) (by decide)).mp h))]
      · unfold f_X9_goes f_X9_isBusy
        rw [t2, Option.bind_some, if_neg (show ¬ (1 : Int32) = 0 by decide), e1, Option.bind_some, s1, Option.bind_some, chk_nI hg (by decide), nI_clamp (by omega), hb', if_neg (show ¬ nI (a_bs a g) ≤ 0 from nI_ge (a := 0) (by omega) (by omega)), Option.bind_some, if_neg (show ¬ (1 : Int32) = 0 by decide)]
  · refine ⟨(-1, K_drift S), (-1, z), ?_, ?_, rfl, h⟩
    · unfold f_X8_goes; rw [t1, Option.bind_some, if_pos rfl]
    · unfold f_X9_goes; rw [t2, Option.bind_some, if_pos rfl]
theorem sim_after : Sim_after Rel := by
  intro S z x1 x2 h
  obtain ⟨⟨a, hI, hH, hM⟩, h3⟩ := id h
  have hH : Hc (K_now S) a := hH
  have hM : Mc (mcore z) a := hM
  rcases th_cases hI hH hM x1 with ⟨g, hg, rfl, hg1, t1, t2⟩ | ⟨t1, t2⟩
  · rcases num_cases x2 (n := 100) (by decide) with ⟨m, hm, rfl⟩ | hx
    · obtain ⟨w, e1, e2, e3⟩ := asNow_Mx hM
      obtain ⟨w', s1, s2, s3⟩ := goMin_spec hI (Lo0 a) e3 (m := m) (by omega)
      obtain ⟨d', b1, b2⟩ := begin_spec (d := K_drift S) hI hH
      obtain ⟨d2, gn, c1, c2⟩ := run_spec hI (Lo0 a) b2 (m := m) (by omega)
      have hg2 : a_is (minN lo0 a m) g = true := by unfold a_is; rw [(minN_keep hI lo0 m).2.1]; exact hg1
      refine ⟨(nI (a_pl (minN lo0 a m) g), d2), (nI (a_pl (minN lo0 a m) g), w'), ?_, ?_, rfl, h.to rfl (s2.trans e2)⟩
      · unfold f_X8_after
        rw [t1, Option.bind_some, if_neg (show ¬ (1 : Int32) = 0 by decide), if_neg (nI_pos (by omega)), if_pos (show nI m ≤ (99 : Int32) from nI_le (b := 99) (by omega) (by decide)), b1, Option.bind_some, c1, Option.bind_some, chk_nI hg (by decide), nI_clamp (by omega), (c2.1.2.2.2.2.2.1 g hg).1]
      · unfold f_X9_after
        rw [t2, Option.bind_some, if_neg (show ¬ (1 : Int32) = 0 by decide), show f_X9_in (nI m) 0 99 = some 1 from in_nI (n := 100) hm (by decide), Option.bind_some, if_neg (show ¬ (1 : Int32) = 0 by decide), e1, Option.bind_some, s1, Option.bind_some, chk_nI hg (by decide), nI_clamp (by omega), (gt_now s3.1 hg hg2).1]
    · refine ⟨(-2, K_drift S), (-2, z), ?_, ?_, rfl, h⟩
      · unfold f_X8_after
        rw [t1, Option.bind_some, if_neg (show ¬ (1 : Int32) = 0 by decide)]
        by_cases c : x2 < 0
        · rw [if_pos c]
        · rw [if_neg c, if_neg (show ¬ x2 ≤ (99 : Int32) from fun q => absurd (hx.resolve_left c) (Int32.not_le.mpr (Int32.lt_of_le_of_lt q (by decide))))]
      · unfold f_X9_after
        rw [t2, Option.bind_some, if_neg (show ¬ (1 : Int32) = 0 by decide), show f_X9_in x2 0 99 = some 0 from in_no (n := 100) (by decide) (by decide) hx, Option.bind_some, if_pos rfl]
  · refine ⟨(-1, K_drift S), (-1, z), ?_, ?_, rfl, h⟩
    · unfold f_X8_after; rw [t1, Option.bind_some, if_pos rfl]
    · unfold f_X9_after; rw [t2, Option.bind_some, if_pos rfl]
theorem sim_crowd : Sim_crowd Rel := by
  intro S z x1 x2 h
  obtain ⟨⟨a, hI, hH, hM⟩, h3⟩ := id h
  have hH : Hc (K_now S) a := hH
  have hM : Mc (mcore z) a := hM
  have hR6 := hI.1.2.1
  rcases rm_cases hI hH hM x1 with ⟨r, hr, rfl, t1, t2⟩ | ⟨-, t1, t2⟩
  · rcases num_cases x2 (n := 100) (by decide) with ⟨m, hm, rfl⟩ | hx
    · obtain ⟨w, e1, e2, e3⟩ := asNow_Mx hM
      obtain ⟨w', s1, s2, s3⟩ := goMin_spec hI (Lo0 a) e3 (m := m) (by omega)
      obtain ⟨d', b1, b2⟩ := begin_spec (d := K_drift S) hI hH
      obtain ⟨d2, gn, c1, c2⟩ := run_spec hI (Lo0 a) b2 (m := m) (by omega)
      have hIm := Inv_minN hI lo0 m
      refine ⟨(nI (msk (fun g => a_is (minN lo0 a m) g && a_pl (minN lo0 a m) g == r) 8), d2), (nI (msk (fun g => a_is (minN lo0 a m) g && a_pl (minN lo0 a m) g == r) 8), w'), ?_, ?_, rfl, h.to rfl (s2.trans e2)⟩
      · unfold f_X8_crowd
        rw [t1, Option.bind_some, if_neg (show ¬ (1 : Int32) = 0 by decide), if_neg (nI_pos (by omega)), if_pos (show nI m ≤ (99 : Int32) from nI_le (b := 99) (by omega) (by decide)), b1, Option.bind_some, c1, Option.bind_some, bitsIn_spec hIm c2.1 (by omega), Option.bind_some]
      · unfold f_X9_crowd
        rw [t2, Option.bind_some, if_neg (show ¬ (1 : Int32) = 0 by decide), show f_X9_in (nI m) 0 99 = some 1 from in_nI (n := 100) hm (by decide), Option.bind_some, if_neg (show ¬ (1 : Int32) = 0 by decide), e1, Option.bind_some, s1, Option.bind_some, crowdIn_spec hIm s3.1 (by omega), Option.bind_some]
    · refine ⟨(-2, K_drift S), (-2, z), ?_, ?_, rfl, h⟩
      · unfold f_X8_crowd
        rw [t1, Option.bind_some, if_neg (show ¬ (1 : Int32) = 0 by decide)]
        by_cases c : x2 < 0
        · rw [if_pos c]
        · rw [if_neg c, if_neg (show ¬ x2 ≤ (99 : Int32) from fun q => absurd (hx.resolve_left c) (Int32.not_le.mpr (Int32.lt_of_le_of_lt q (by decide))))]
      · unfold f_X9_crowd
        rw [t2, Option.bind_some, if_neg (show ¬ (1 : Int32) = 0 by decide), show f_X9_in x2 0 99 = some 0 from in_no (n := 100) (by decide) (by decide) hx, Option.bind_some, if_pos rfl]
  · refine ⟨(-1, K_drift S), (-1, z), ?_, ?_, rfl, h⟩
    · unfold f_X8_crowd; rw [t1, Option.bind_some, if_pos rfl]
    · unfold f_X9_crowd; rw [t2, Option.bind_some, if_pos rfl]
