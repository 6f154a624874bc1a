/-! 90.events -/
section
/-! the events of a party, one by one -/
theorem Inv_sit {b : AS} (hI : Inv b) {g : Nat} (hg : g < 8) (ig : a_is b g = true) (bg : a_bs b g = 0) : Inv (eng b g 2 (-6) 0) := by
  obtain ⟨i1, i2, i3, i4, i5, i6, i7, i8, i9, i10, i11⟩ := id hI
  unfold Inv
  simp only [eng_R, eng_T, eng_k, eng_th, eng_sz, eng_ch, eng_wd, eng_lk, eng_pl, eng_sg, eng_sr, eng_is, eng_in, eng_bs, eng_mt, eng_lf]
  refine ⟨i1, i2, i3, i4, ?_, ?_, ?_, ?_, ?_, i10, i11⟩
  · intro j hj e
    have n1 : j ≠ g := fun h => by rw [h, ig] at e; cases e
    rw [if_neg n1]; exact i5 j hj e
  · intro j hj e
    obtain ⟨q1, q2, q3⟩ := i6 j hj e
    exact ⟨q1, by split; decide; exact q2, q3⟩
  · intro j hj e
    by_cases c : j = g
    · rw [if_pos c, if_pos c]; exact ⟨rfl, rfl⟩
    · rw [if_neg c] at e; rw [if_neg c, if_neg c]; exact i7 j hj e
  · intro j hj e
    have c : j ≠ g := fun h => by rw [if_pos h] at e; cases e
    rw [if_neg c] at e; rw [if_neg c, if_neg c]
    obtain ⟨i, k1, k2, k3, k4, k5, k6, k7⟩ := i8 j hj e
    have n1 : i ≠ g := fun h => by rw [h] at k5; omega
    refine ⟨i, k1, k2, k3, k4, ?_, ?_, ?_⟩
    · rw [if_neg n1]; exact k5
    · rw [if_neg n1]; exact k6
    · rw [if_neg n1]; exact k7
  · intro j hj e
    have c : j ≠ g := fun h => by rw [if_pos h] at e; cases e
    rw [if_neg c] at e; rw [if_neg c, if_neg c]; exact i9 j hj e
theorem Inv_blk {b : AS} (hI : Inv b) {g q : Nat} (hg : g < 8) (ig : a_is b g = true) (bg : a_bs b g = 0) (hq : q < a_R b) (hw : 1 ≤ a_wd b (a_pl b g) q) : Inv (eng b g 3 (q : Int) 0) := by
  obtain ⟨i1, i2, i3, i4, i5, i6, i7, i8, i9, i10, i11⟩ := id hI
  have hpl := (i6 g hg ig).1
  have hne : q ≠ a_pl b g := fun h => by rw [h, i4 _ (by omega)] at hw; omega
  unfold Inv
  simp only [eng_R, eng_T, eng_k, eng_th, eng_sz, eng_ch, eng_wd, eng_lk, eng_pl, eng_sg, eng_sr, eng_is, eng_in, eng_bs, eng_mt, eng_lf]
  refine ⟨i1, i2, i3, i4, ?_, ?_, ?_, ?_, ?_, i10, i11⟩
  · intro j hj e
    have n1 : j ≠ g := fun h => by rw [h, ig] at e; cases e
    rw [if_neg n1]; exact i5 j hj e
  · intro j hj e
    obtain ⟨q1, q2, q3⟩ := i6 j hj e
    exact ⟨q1, by split; decide; exact q2, q3⟩
  · intro j hj e
    have c : j ≠ g := fun h => by rw [if_pos h] at e; omega
    rw [if_neg c] at e; rw [if_neg c, if_neg c]; exact i7 j hj e
  · intro j hj e
    have c : j ≠ g := fun h => by rw [if_pos h] at e; cases e
    rw [if_neg c] at e; rw [if_neg c, if_neg c]
    obtain ⟨i, k1, k2, k3, k4, k5, k6, k7⟩ := i8 j hj e
    have n1 : i ≠ g := fun h => by rw [h] at k5; omega
    refine ⟨i, k1, k2, k3, k4, ?_, ?_, ?_⟩
    · rw [if_neg n1]; exact k5
    · rw [if_neg n1]; exact k6
    · rw [if_neg n1]; exact k7
  · intro j hj e
    by_cases c : j = g
    · rw [if_pos c, if_pos c]; exact ⟨rfl, q, hq, by rw [c]; exact hne, rfl, by rw [c]; exact hw⟩
    · rw [if_neg c] at e; rw [if_neg c, if_neg c]; exact i9 j hj e
theorem Inv_rs {b : AS} (hI : Inv b) {g : Nat} (hg : g < 8) : Inv (rs b g) := by
  obtain ⟨i1, i2, i3, i4, i5, i6, i7, i8, i9, i10, i11⟩ := id hI
  have e1 : ∀ j, a_is (rs b g) j = a_is b j := fun _ => rfl
  have e2 : ∀ r, a_in (rs b g) r = a_in b r := fun _ => rfl
  have hgg : offp b g g = true := by unfold offp; simp
  unfold Inv
  simp only [rs_R, rs_T, rs_k, rs_th, rs_sz, rs_ch, rs_wd, rs_lk, rs_pl, rs_sg, rs_sr, rs_bs, rs_mt, rs_lf, e1, e2]
  refine ⟨i1, i2, i3, i4, ?_, ?_, ?_, ?_, ?_, i10, i11⟩
  · intro j hj e
    obtain ⟨q1, q2, q3⟩ := i5 j hj e
    exact ⟨q1, by split; rfl; exact q2, q3⟩
  · intro j hj e
    obtain ⟨q1, q2, q3⟩ := i6 j hj e
    exact ⟨q1, by split; decide; exact q2, q3⟩
  · intro j hj e
    cases c : offp b g j
    · rw [c] at e; simp only [Bool.false_eq_true, if_false] at e ⊢; exact i7 j hj e
    · simp only [if_true]; exact ⟨trivial, trivial⟩
  · intro j hj e
    cases c : offp b g j
    · rw [c] at e
      simp only [Bool.false_eq_true, if_false] at e ⊢
      obtain ⟨i, k1, k2, k3, k4, k5, k6, k7⟩ := i8 j hj e
      have hjg : j ≠ g := fun q => by subst q; rw [hgg] at c; cases c
      have hig : i ≠ g := fun q => by
        subst q
        have := offp_sym hI hj e k3 hg; rw [this] at c; cases c
      have hio : offp b g i = false := by
        cases q : offp b g i
        · rfl
        · exfalso
          unfold offp at q
          simp only [Bool.or_eq_true, Bool.and_eq_true, beq_iff_eq] at q
          rcases q with q | ⟨q1, q2⟩
          · exact hig q
          · obtain ⟨i', l1, l2, l3, l4, l5, l6, -⟩ := i8 g hg q1
            have : i' = i := by omega
            subst this
            omega
      refine ⟨i, k1, k2, k3, k4, ?_⟩
      rw [hio]; simp only [Bool.false_eq_true, if_false]; exact ⟨k5, k6, k7⟩
    · rw [c] at e; simp at e
  · intro j hj e
    cases c : offp b g j
    · rw [c] at e
      simp only [Bool.false_eq_true, if_false] at e ⊢
      exact i9 j hj e
    · rw [c] at e; simp at e
/-- why one can't sit, rise, stand in a door -/
def wsA (b : AS) (g : Nat) : Nat := if a_is b g = false then 1 else if a_bs b g ≠ 0 then 2 else if a_sit b (a_pl b g) < a_ch b (a_pl b g) then 0 else 4
def wrA (b : AS) (g : Nat) : Nat := if a_is b g = false then 1 else if a_bs b g = 0 then 2 else 0
def wbA (b : AS) (g q : Nat) : Nat := if a_is b g = false then 1 else if a_bs b g ≠ 0 then 2 else if a_wd b (a_pl b g) q = 0 then 5 else 0
theorem cws_spec {h : HS} {b : AS} (hI : Inv b) (hH : Hc h b) {g : Nat} (hg : g < 8) : f_X1_whyNotSit h (nI g) = some (nI (wsA b g)) := by
  have hb := bs_lt hI hg
  have hp := pl_lt hI hg
  obtain ⟨p1, p2, -⟩ := hH.2.2.2.2.2.1 g hg
  have hc := (hH.2.2.2.1 (a_pl b g) hp).2.2
  have c9 := (hI.2.1 (a_pl b g) hp).2.2.2
  have s8 : a_sit b (a_pl b g) ≤ 8 := cnt_le _ 8
  unfold f_X1_whyNotSit wsA
  rw [th_at hI hH hg, Option.bind_some, chk_nI hg (by decide), chk_nI hg (by decide), nI_clamp (by omega), p1, p2, sitters_spec hI hH (by omega), Option.bind_some, show (5 : Int32) = nI 5 from rfl, ix6, chk_nI (by omega) (by decide), nI_clamp (by omega), hc, b10]
  simp (disch := omega) only [s_lit, p_eq, p_lt]
  cases a_is b g
  · rfl
  · by_cases c1 : a_bs b g = 0 <;> by_cases c2 : a_sit b (a_pl b g) < a_ch b (a_pl b g) <;> simp [c1, c2]
theorem cwr_spec {h : HS} {b : AS} (hI : Inv b) (hH : Hc h b) {g : Nat} (hg : g < 8) : f_X1_whyNotRise h (nI g) = some (nI (wrA b g)) := by
  have hb := bs_lt hI hg
  obtain ⟨p1, p2, -⟩ := hH.2.2.2.2.2.1 g hg
  unfold f_X1_whyNotRise wrA
  rw [th_at hI hH hg, Option.bind_some, chk_nI hg (by decide), nI_clamp (by omega), p2, b10]
  simp (disch := omega) only [s_lit, p_eq]
  cases a_is b g
  · rfl
  · by_cases c1 : a_bs b g = 0 <;> simp [c1]
theorem cwb_spec {h : HS} {b : AS} (hI : Inv b) (hH : Hc h b) {g q : Nat} (hg : g < 8) (hq : q < 6) : f_X1_whyNotBlock h (nI g) (nI q) = some (nI (wbA b g q)) := by
  have hb := bs_lt hI hg
  have hp := pl_lt hI hg
  have w3 := (hI.2.2.1 (a_pl b g) q hp hq).1
  obtain ⟨p1, p2, -⟩ := hH.2.2.2.2.2.1 g hg
  unfold f_X1_whyNotBlock wbA
  rw [th_at hI hH hg, Option.bind_some, chk_nI hg (by decide), chk_nI hg (by decide), nI_clamp (by omega), p1, p2, width_spec hH hp hq, Option.bind_some, b10]
  simp (disch := omega) only [s_lit, p_eq]
  cases a_is b g
  · rfl
  · by_cases c1 : a_bs b g = 0 <;> by_cases c2 : a_wd b (a_pl b g) q = 0 <;> simp [c1, c2]
theorem rsit_spec {w : MS} {b : AS} (hI : Inv b) (hM : Mc (mnow w) b) {r : Nat} (hr : r < 6) : f_X9_sittingIn w (nI r) = some (nI (a_sit b r)) := by
  obtain ⟨N, hN, hFU⟩ := FU_ex
  have hT := hI.1.2.2.1
  have et : M_there w = nI (a_T b) := hM.2.1
  unfold f_X9_sittingIn a_sit
  rw [hFU]
  refine it_rule (bot := fun _ _ _ _ => none) 8 (fun i (n : Int32) => n = nI (cnt (fun j => (a_is b j && a_pl b j == r) && a_bs b j == 2) i)) (fun k i n => k w (nI r) n (nI i) = some (nI (cnt (fun j => (a_is b j && a_pl b j == r) && a_bs b j == 2) 8))) ?_ ?_ N 0 0 (by omega) (by omega) rfl
  · intro k n hn
    unfold X9_sittingIn_B4
    rw [if_pos (by decide), hn]
  · intro k i n hi hn hk
    have k0 : ((a_is b i && a_pl b i == r) && a_bs b i == 2) = false → k w (nI r) (n + 0) (nI (i + 1)) = some (nI (cnt (fun j => (a_is b j && a_pl b j == r) && a_bs b j == 2) 8)) := fun h => hk _ (by rw [hn, cnt_s, h]; simp)
    have k1 : ((a_is b i && a_pl b i == r) && a_bs b i == 2) = true → k w (nI r) (n + 1) (nI (i + 1)) = some (nI (cnt (fun j => (a_is b j && a_pl b j == r) && a_bs b j == 2) 8)) := fun h => hk _ (by rw [hn, cnt_s, h, nI_1]; rfl)
    have hb := bs_lt hI hi
    have hp := pl_lt hI hi
    unfold X9_sittingIn_B4 X9_sittingIn_J46 X9_sittingIn_J47
    rw [if_neg (show ¬ (8 : Int32) ≤ nI i from nlit (by decide) hi), et, has_b hT hi, Option.bind_some, nI_1]
    cases e : (a_T b).testBit i
    · have e' : a_is b i = false := e
      rw [if_pos (by decide)]; exact k0 (by rw [e']; rfl)
    · have e' : a_is b i = true := e
      obtain ⟨p1, p2, -⟩ := gt_now hM hi e'
      rw [if_neg (by decide), chk_nI hi (by decide), chk_nI hi (by decide), nI_clamp (by omega), p1, p2]
      by_cases c1 : a_bs b i = 2
      · rw [if_pos (show nI (a_bs b i) = (2 : Int32) by rw [c1]; rfl)]
        by_cases c2 : a_pl b i = r
        · rw [if_pos (by rw [c2])]; exact k1 (by simp [e', c1, c2])
        · rw [if_neg (fun h => c2 ((nI_eq (by omega) (by omega)).mp h))]; exact k0 (by simp [c2])
      · rw [if_neg (show ¬ nI (a_bs b i) = (2 : Int32) from fun h => c1 ((nI_eq (by omega) (b := 2) (by decide)).mp h))]; exact k0 (by simp [c1])
/-- why the reference says that one can't do it -/
def wdA (b : AS) (g s : Nat) : Nat := if s = 95 then wsA b g else if s = 94 then wrA b g else wbA b g (s - 97)
theorem rwd_spec {w : MS} {b : AS} (hI : Inv b) (hM : Mc (mnow w) b) {g s : Nat} (hg : g < 8) (hs : s = 95 ∨ s = 94 ∨ isL (a_R b) s = true) : f_X9_whyNotDo w (nI g) (nI s) = some (nI (wdA b g s)) := by
  have hR6 := hI.1.2.1
  have hs2 : s ≤ 126 := by
    rcases hs with h | h | h
    · omega
    · omega
    · unfold isL at h; simp only [Bool.and_eq_true, decide_eq_true_eq] at h; omega
  have hb := bs_lt hI hg
  have hp := pl_lt hI hg
  unfold f_X9_whyNotDo
  rw [isTh_now hI hM hg, Option.bind_some, b10]
  cases ig : a_is b g
  · have e : wdA b g s = 1 := by unfold wdA wsA wrA wbA; rw [ig]; simp
    rw [e]; rfl
  · obtain ⟨p1, p2, -⟩ := gt_now hM hg ig
    have eb : f_X9_isBusy w (nI g) = some (nI (if a_bs b g = 0 then 0 else 1)) := by
      unfold f_X9_isBusy
      rw [chk_nI hg (by decide), nI_clamp (by omega), p2]
      by_cases c : a_bs b g = 0
      · rw [if_pos (show nI (a_bs b g) ≤ 0 by rw [c]; decide), if_pos c]; rfl
      · rw [if_neg (show ¬ nI (a_bs b g) ≤ 0 from nI_ge (a := 0) (by omega) (by omega)), if_neg c]; rfl
    simp only [if_true]
    rw [eb, Option.bind_some]
    unfold X9_whyNotDo_J26 X9_whyNotDo_J95
    have hch : M_chairs w (a_pl b g) = nI (a_ch b (a_pl b g)) := (hM.2.2.2.1 (a_pl b g) hp).2.2
    have c9 := (hI.2.1 (a_pl b g) hp).2.2.2
    have s8 : a_sit b (a_pl b g) ≤ 8 := cnt_le _ 8
    rcases hs with h | h | h
    · subst h
      rw [if_neg (show ¬ nI 95 = (94 : Int32) by decide)]
      by_cases c : a_bs b g = 0
      · rw [if_pos c, if_pos (show nI 0 = (0 : Int32) from rfl), if_pos (show nI 95 = (95 : Int32) from rfl), chk_nI hg (by decide), nI_clamp (by omega), p1, rsit_spec hI hM hp, Option.bind_some, chk_nI hg (by decide), chk_nI hp (by decide), nI_clamp (by omega), hch]
        by_cases c2 : a_sit b (a_pl b g) < a_ch b (a_pl b g)
        · have e : wdA b g 95 = 0 := by unfold wdA wsA; simp [ig, c, c2]
          rw [if_neg (nI_ge c2 (by omega)), e]; rfl
        · have e : wdA b g 95 = 4 := by unfold wdA wsA; simp [ig, c, c2]
          rw [if_pos (nI_le (by omega) (by omega)), e]; rfl
      · have e : wdA b g 95 = 2 := by unfold wdA wsA; simp [ig, c]
        rw [if_neg c, if_neg (show ¬ nI 1 = (0 : Int32) by decide), e]; rfl
    · subst h
      rw [if_pos (show nI 94 = (94 : Int32) from rfl)]
      by_cases c : a_bs b g = 0
      · have e : wdA b g 94 = 2 := by unfold wdA wrA; simp [ig, c]
        rw [if_pos c, if_neg (show ¬ nI 0 = (1 : Int32) by decide), e]; rfl
      · have e : wdA b g 94 = 0 := by unfold wdA wrA; simp [ig, c]
        rw [if_neg c, if_pos (show nI 1 = (1 : Int32) from rfl), if_neg (show ¬ nI 94 = (95 : Int32) by decide), if_pos (show nI 94 = (94 : Int32) from rfl), e]; rfl
    · have hl : 97 ≤ s ∧ s < 97 + a_R b := by unfold isL at h; simp only [Bool.and_eq_true, decide_eq_true_eq] at h; exact h
      have n1 : ¬ nI s = (94 : Int32) := fun q => by have := (nI_eq (by omega) (b := 94) (by decide)).mp q; omega
      have n2 : ¬ nI s = (95 : Int32) := fun q => by have := (nI_eq (by omega) (b := 95) (by decide)).mp q; omega
      have e6 : ((6 : Int32) * nI (a_pl b g) + nI s) - 97 = nI (6 * a_pl b g + (s - 97)) := by
        rw [ix6', show nI (6 * a_pl b g + s) - (97 : Int32) = nI (6 * a_pl b g + s - 97) from pk_sub (b := 97) (by omega), show 6 * a_pl b g + s - 97 = 6 * a_pl b g + (s - 97) by omega]
      have hwd : M_width w (6 * a_pl b g + (s - 97)) = nI (a_wd b (a_pl b g) (s - 97)) := hM.2.2.2.2.1 _ _ hp (by omega)
      have w3 := (hI.2.2.1 (a_pl b g) (s - 97) hp (by omega)).1
      have m1 : s ≠ 95 := by omega
      have m2 : s ≠ 94 := by omega
      rw [if_neg n1]
      by_cases c : a_bs b g = 0
      · rw [if_pos c, if_pos (show nI 0 = (0 : Int32) from rfl), if_neg n2, if_neg n1, chk_nI hg (by decide), nI_clamp (by omega), p1, e6, chk_nI (by omega) (by decide), nI_clamp (by omega), hwd]
        by_cases c2 : a_wd b (a_pl b g) (s - 97) = 0
        · have e : wdA b g s = 5 := by unfold wdA wbA; simp [ig, c, c2, m1, m2]
          rw [if_pos (show nI (a_wd b (a_pl b g) (s - 97)) ≤ 0 by rw [c2]; decide), e]; rfl
        · have e : wdA b g s = 0 := by unfold wdA wbA; simp [ig, c, c2, m1, m2]
          rw [if_neg (show ¬ nI (a_wd b (a_pl b g) (s - 97)) ≤ 0 from nI_ge (a := 0) (by omega) (by omega)), e]; rfl
      · have e : wdA b g s = 2 := by unfold wdA wbA; simp [ig, c, m1, m2]
        rw [if_neg c, if_neg (show ¬ nI 1 = (0 : Int32) by decide), e]; rfl
/-- what one then does -/
def dwA (b : AS) (g s : Nat) : AS := if s = 95 then eng b g 2 (-6) 0 else if s = 94 then rs b g else eng b g 3 ((s - 97 : Nat) : Int) 0
theorem Inv_dw {b : AS} (hI : Inv b) {g s : Nat} (hg : g < 8) (hs : s = 95 ∨ s = 94 ∨ isL (a_R b) s = true) (hw : wdA b g s = 0) : Inv (dwA b g s) := by
  unfold wdA at hw
  unfold dwA
  by_cases c1 : s = 95
  · rw [if_pos c1] at hw ⊢
    unfold wsA at hw
    cases ig : a_is b g
    · rw [ig] at hw; simp at hw
    · by_cases c : a_bs b g = 0
      · exact Inv_sit hI hg ig c
      · rw [ig] at hw; simp [c] at hw
  · rw [if_neg c1] at hw ⊢
    by_cases c2 : s = 94
    · rw [if_pos c2]; exact Inv_rs hI hg
    · rw [if_neg c2] at hw ⊢
      have h := (hs.resolve_left c1).resolve_left c2
      have hl : 97 ≤ s ∧ s < 97 + a_R b := by unfold isL at h; simp only [Bool.and_eq_true, decide_eq_true_eq] at h; exact h
      unfold wbA at hw
      cases ig : a_is b g
      · rw [ig] at hw; simp at hw
      · by_cases c : a_bs b g = 0
        · by_cases cw : a_wd b (a_pl b g) (s - 97) = 0
          · rw [ig] at hw; simp [c, cw] at hw
          · exact Inv_blk hI hg ig c (by omega) (by omega)
        · rw [ig] at hw; simp [c] at hw
theorem csettle_spec {h : HS} {b : AS} (hI : Inv b) (hH : Hc h b) {g s : Nat} (hg : g < 8) (hs : s = 95 ∨ s = 94 ∨ isL (a_R b) s = true) : ∃ h', f_X3_settle h (nI g) (nI s) = some (nI (wdA b g s), h') ∧ (wdA b g s = 0 → Hc h' (dwA b g s)) := by
  have hR6 := hI.1.2.1
  have z0 : ∀ n : Nat, n ≤ 6 → (nI n = 0 ↔ n = 0) := fun n hn => nI_eq (by omega) (b := 0) (by decide)
  unfold f_X3_settle wdA dwA
  by_cases c1 : s = 95
  · rw [if_pos c1, if_pos (show nI s = (95 : Int32) by rw [c1]; rfl), cws_spec hI hH hg, Option.bind_some]
    have hle : wsA b g ≤ 6 := by unfold wsA; repeat' split
                                 all_goals decide
    by_cases c : wsA b g = 0
    · rw [if_pos ((z0 _ hle).mpr c)]
      unfold f_X1_sit
      rw [engage_spec _ hg, Option.bind_some, Option.bind_some]
      exact ⟨_, rfl, fun _ => by rw [if_pos c1]; exact Hc_eng' hH rfl neg6 rfl⟩
    · rw [if_neg (fun h => c ((z0 _ hle).mp h))]
      exact ⟨h, rfl, fun q => absurd q c⟩
  · have n1 : ¬ nI s = (95 : Int32) := fun q => by
      have hs2 : s ≤ 126 := by
        rcases hs with h | h | h
        · omega
        · omega
        · unfold isL at h; simp only [Bool.and_eq_true, decide_eq_true_eq] at h; omega
      exact c1 ((nI_eq (by omega) (b := 95) (by decide)).mp q)
    rw [if_neg c1, if_neg n1]
    by_cases c2 : s = 94
    · rw [if_pos c2, if_pos (show nI s = (94 : Int32) by rw [c2]; rfl), cwr_spec hI hH hg, Option.bind_some]
      have hle : wrA b g ≤ 6 := by unfold wrA; repeat' split
                                   all_goals decide
      by_cases c : wrA b g = 0
      · obtain ⟨h', r1, r2⟩ := rise_spec hI hH hg
        rw [if_pos ((z0 _ hle).mpr c), r1, Option.bind_some]
        exact ⟨h', rfl, fun _ => by rw [if_neg c1, if_pos c2]; exact r2⟩
      · rw [if_neg (fun h => c ((z0 _ hle).mp h))]
        exact ⟨h, rfl, fun q => absurd q c⟩
    · have h := (hs.resolve_left c1).resolve_left c2
      have hl : 97 ≤ s ∧ s < 97 + a_R b := by unfold isL at h; simp only [Bool.and_eq_true, decide_eq_true_eq] at h; exact h
      have n2 : ¬ nI s = (94 : Int32) := fun q => c2 ((nI_eq (by omega) (b := 94) (by decide)).mp q)
      have e97 : nI s - (97 : Int32) = nI (s - 97) := pk_sub (b := 97) hl.1
      rw [if_neg c2, if_neg n2, e97, cwb_spec hI hH hg (by omega), Option.bind_some]
      have hle : wbA b g (s - 97) ≤ 6 := by unfold wbA; repeat' split
                                            all_goals decide
      by_cases c : wbA b g (s - 97) = 0
      · rw [if_pos ((z0 _ hle).mpr c)]
        unfold f_X1_block
        rw [engage_spec _ hg, Option.bind_some, Option.bind_some]
        exact ⟨_, rfl, fun _ => by rw [if_neg c1, if_neg c2]; exact Hc_eng' hH rfl (oI_nat _).symm rfl⟩
      · rw [if_neg (fun h => c ((z0 _ hle).mp h))]
        exact ⟨_, rfl, fun q => absurd q c⟩
end
/-! 91.act -/
section
theorem act26_spec {w : MS} {b : AS} {lo : Nat → Nat → Bool} (hM : Mx0 w b lo) {g t : Nat} (hg : g < 8) (ht : t < 8) (ho : ∀ j, j < 8 → offp b g j = (j == g || j == t)) : ∃ w', X9_act_J26 w (nI g) (nI t) = some w' ∧ mkeep w' = mkeep w ∧ Mx0 w' (rs b g) lo ∧ mrest w' = mrest w := by
  obtain ⟨y1, ey1⟩ : ∃ x, x = M_set_busyNow w (upd (M_busyNow w) t 0) := ⟨_, rfl⟩
  obtain ⟨a1, b1, c1⟩ := sx_busyNow ey1
  obtain ⟨y2, ey2⟩ : ∃ x, x = M_set_leftNow y1 (upd (M_leftNow y1) t 0) := ⟨_, rfl⟩
  obtain ⟨a2, b2, c2⟩ := sx_leftNow ey2
  obtain ⟨y3, ey3⟩ : ∃ x, x = M_set_busyNow y2 (upd (M_busyNow y2) g 0) := ⟨_, rfl⟩
  obtain ⟨a3, b3, c3⟩ := sx_busyNow ey3
  obtain ⟨y4, ey4⟩ : ∃ x, x = M_set_leftNow y3 (upd (M_leftNow y3) g 0) := ⟨_, rfl⟩
  obtain ⟨a4, b4, c4⟩ := sx_leftNow ey4
  have kk := ((a4.trans a3).trans a2).trans a1
  have f1 : M_busyNow y1 = upd (M_busyNow w) t 0 := congrArg (fun m => m.2.1) b1
  have f2 : M_busyNow y2 = M_busyNow y1 := congrArg (fun m => m.2.1) b2
  have f3 : M_busyNow y3 = upd (M_busyNow y2) g 0 := congrArg (fun m => m.2.1) b3
  have f4 : M_busyNow y4 = M_busyNow y3 := congrArg (fun m => m.2.1) b4
  have l1 : M_leftNow y1 = M_leftNow w := congrArg (fun m => m.2.2.2.1) b1
  have l2 : M_leftNow y2 = upd (M_leftNow y1) t 0 := congrArg (fun m => m.2.2.2.1) b2
  have l3 : M_leftNow y3 = M_leftNow y2 := congrArg (fun m => m.2.2.2.1) b3
  have l4 : M_leftNow y4 = upd (M_leftNow y3) g 0 := congrArg (fun m => m.2.2.2.1) b4
  have g1 : M_at y4 = M_at w := (((congrArg (fun m => m.1) b4).trans (congrArg (fun m => m.1) b3)).trans (congrArg (fun m => m.1) b2)).trans (congrArg (fun m => m.1) b1)
  have g3 : M_withNow y4 = M_withNow w := (((congrArg (fun m => m.2.2.1) b4).trans (congrArg (fun m => m.2.2.1) b3)).trans (congrArg (fun m => m.2.2.1) b2)).trans (congrArg (fun m => m.2.2.1) b1)
  have g5 : M_thingsNow y4 = M_thingsNow w := (((congrArg (fun m => m.2.2.2.2.1) b4).trans (congrArg (fun m => m.2.2.2.2.1) b3)).trans (congrArg (fun m => m.2.2.2.2.1) b2)).trans (congrArg (fun m => m.2.2.2.2.1) b1)
  have g6 : M_loose y4 = M_loose w := (((congrArg (fun m => m.2.2.2.2.2.1) b4).trans (congrArg (fun m => m.2.2.2.2.2.1) b3)).trans (congrArg (fun m => m.2.2.2.2.2.1) b2)).trans (congrArg (fun m => m.2.2.2.2.2.1) b1)
  have eis : ∀ j, a_is (rs b g) j = a_is b j := fun _ => rfl
  refine ⟨y4, ?_, kk, hM.now (Mc_now kk hM.1 (rs_R b g) (rs_T b g) (rs_k b g) (rs_sz b g) (rs_ch b g) (rs_wd b g) (rs_sg b g) (rs_sr b g) (fun r s hr hs => by rw [g5, rs_th]; exact gt_th hM.1 hr hs) (fun j k _ _ _ => by unfold lkf; rw [rs_lk]) (fun j hj hi => ?_)) g6, ((c4.trans c3).trans c2).trans c1⟩
  · unfold X9_act_J26
    rw [chk_nI ht (by decide), nI_clamp (by omega), ltA_eq, ← ey1, chk_nI ht (by decide), ltA_eq, ← ey2, chk_nI hg (by decide), nI_clamp (by omega), ltA_eq, ← ey3, chk_nI hg (by decide), ltA_eq, ← ey4]
  · rw [g1, g3, f4, f3, f2, f1, l4, l3, l2, l1]
    simp only [rs_pl, rs_bs, rs_mt, rs_lf, ho j hj]
    obtain ⟨p1, p2, p3, p4⟩ := gt_now hM.1 hj hi
    by_cases d1 : j = g
    · rw [d1, pk_us, pk_us]; simp; rw [← d1]; exact ⟨p1, rfl⟩
    · rw [pk_un d1, pk_un d1]
      by_cases d2 : j = t
      · rw [d2, pk_us, pk_us]; simp; rw [← d2]; exact ⟨p1, rfl⟩
      · rw [pk_un d2, pk_un d2]; simp [d1, d2]; exact ⟨p1, p2, p3, p4⟩
theorem act74_spec {w : MS} {b : AS} {lo : Nat → Nat → Bool} (hI : Inv b) (hM : Mx0 w b lo) {g n : Nat} {m : Int} {x : Int32} {x2 : Int32} (hg : g < 8) (bg : a_bs b g = 0) (hx : x = nI n) (hmm : (if x2 = 95 then (-6 : Int32) else x2 - 97) = Int32.ofInt m) : ∃ w', X9_act_J74 w (nI g) x2 x (nI g) = some w' ∧ mkeep w' = mkeep w ∧ Mx0 w' (eng b g n m 0) lo ∧ mrest w' = mrest w := by
  obtain ⟨y1, ey1⟩ : ∃ y, y = M_set_busyNow w (upd (M_busyNow w) g x) := ⟨_, rfl⟩
  obtain ⟨a1, b1, c1⟩ := sx_busyNow ey1
  obtain ⟨y2, ey2⟩ : ∃ y, y = M_set_withNow y1 (upd (M_withNow y1) g (if x2 = 95 then (-6 : Int32) else x2 - 97)) := ⟨_, rfl⟩
  obtain ⟨a2, b2, c2⟩ := sx_withNow ey2
  have kk := a2.trans a1
  have f1 : M_busyNow y2 = upd (M_busyNow w) g x := (congrArg (fun m => m.2.1) b2).trans (congrArg (fun m => m.2.1) b1)
  have f2 : M_withNow y1 = M_withNow w := congrArg (fun m => m.2.2.1) b1
  have f3 : M_withNow y2 = upd (M_withNow y1) g (if x2 = 95 then (-6 : Int32) else x2 - 97) := congrArg (fun m => m.2.2.1) b2
  have g1 : M_at y2 = M_at w := (congrArg (fun m => m.1) b2).trans (congrArg (fun m => m.1) b1)
  have g4 : M_leftNow y2 = M_leftNow w := (congrArg (fun m => m.2.2.2.1) b2).trans (congrArg (fun m => m.2.2.2.1) b1)
  have g5 : M_thingsNow y2 = M_thingsNow w := (congrArg (fun m => m.2.2.2.2.1) b2).trans (congrArg (fun m => m.2.2.2.2.1) b1)
  have g6 : M_loose y2 = M_loose w := (congrArg (fun m => m.2.2.2.2.2.1) b2).trans (congrArg (fun m => m.2.2.2.2.2.1) b1)
  refine ⟨y2, ?_, kk, hM.now (Mc_now kk hM.1 (eng_R ..) (eng_T ..) (eng_k ..) (eng_sz ..) (eng_ch ..) (eng_wd ..) (eng_sg ..) (eng_sr ..) (fun r s hr hs => by rw [g5, eng_th]; exact gt_th hM.1 hr hs) (fun j k _ _ _ => by unfold lkf; rw [eng_lk]) (fun j hj hi => ?_)) g6, c2.trans c1⟩
  · unfold X9_act_J74
    rw [chk_nI hg (by decide), nI_clamp (by omega), ltA_eq, ← ey1, chk_nI hg (by decide), chk_nI hg (by decide), ltA_eq, ltA_eq]
    by_cases c : x2 = 95
    · rw [if_pos c] at ey2; rw [if_pos c, ← ey2]
    · rw [if_neg c] at ey2; rw [if_neg c, ← ey2]
  · rw [g1, f1, f3, f2, g4]
    simp only [eng_pl, eng_bs, eng_mt, eng_lf]
    obtain ⟨p1, p2, p3, p4⟩ := gt_now hM.1 hj hi
    by_cases d1 : j = g
    · have hl := (hI.2.2.2.2.2.2.1 g hg (Or.inl bg)).2
      rw [if_pos d1, if_pos d1, if_pos d1, d1, pk_us, pk_us]
      refine ⟨by rw [← d1]; exact p1, hx, ?_, fun _ => hmm⟩
      rw [← d1, p3, d1, hl]
    · rw [if_neg d1, if_neg d1, if_neg d1, pk_un d1, pk_un d1]
      exact ⟨p1, p2, p3, p4⟩
theorem ract_spec {w : MS} {b : AS} {lo : Nat → Nat → Bool} (hI : Inv b) (hM : Mx0 w b lo) {g s : Nat} (hg : g < 8) (hs : s = 95 ∨ s = 94 ∨ isL (a_R b) s = true) (hw : wdA b g s = 0) : ∃ w', f_X9_act w (nI g) (nI s) = some w' ∧ mkeep w' = mkeep w ∧ Mx0 w' (dwA b g s) lo ∧ mrest w' = mrest w := by
  have hR6 := hI.1.2.1
  have hb := bs_lt hI hg
  unfold f_X9_act
  unfold wdA at hw
  unfold dwA
  by_cases c1 : s = 95
  · subst c1
    rw [if_pos rfl] at hw
    rw [if_pos rfl, if_neg (show ¬ nI 95 = (94 : Int32) by decide), if_pos (show nI 95 = (95 : Int32) from rfl)]
    have bg : a_bs b g = 0 := by
      unfold wsA at hw
      cases ig : a_is b g
      · rw [ig] at hw; simp at hw
      · by_cases c : a_bs b g = 0
        · exact c
        · rw [ig] at hw; simp [c] at hw
    exact act74_spec hI hM hg bg rfl (by rw [if_pos (show nI 95 = (95 : Int32) from rfl)]; exact neg6)
  · rw [if_neg c1] at hw ⊢
    by_cases c2 : s = 94
    · subst c2
      rw [if_pos rfl] at hw ⊢
      have ig : a_is b g = true := by
        unfold wrA at hw
        cases ig : a_is b g
        · rw [ig] at hw; simp at hw
        · rfl
      obtain ⟨p1, p2, p3, p4⟩ := gt_now hM.1 hg ig
      rw [if_pos (show nI 94 = (94 : Int32) from rfl), chk_nI hg (by decide), nI_clamp (by omega), p2]
      by_cases c : a_bs b g = 1
      · obtain ⟨t, t1, t2, t3, -⟩ := hI.2.2.2.2.2.2.2.1 g hg c
        rw [if_pos (show nI (a_bs b g) = (1 : Int32) by rw [c]; rfl), chk_nI hg (by decide), p4 (Or.inl c), t3, oI_nat]
        exact act26_spec hM hg t1 (fun j hj => by
          have ej : ((t : Int) == (j : Int)) = (j == t) := by rw [Bool.eq_iff_iff, beq_iff_eq, beq_iff_eq]; omega
          unfold offp; rw [c, t3, ej]; simp)
      · rw [if_neg (show ¬ nI (a_bs b g) = (1 : Int32) from fun h => c ((nI_eq (by omega) (b := 1) (by decide)).mp h))]
        exact act26_spec hM hg hg (fun j hj => by unfold offp; simp [c])
    · rw [if_neg c2] at hw ⊢
      have h := (hs.resolve_left c1).resolve_left c2
      have hl : 97 ≤ s ∧ s < 97 + a_R b := by unfold isL at h; simp only [Bool.and_eq_true, decide_eq_true_eq] at h; exact h
      have n1 : ¬ nI s = (94 : Int32) := fun q => c2 ((nI_eq (by omega) (b := 94) (by decide)).mp q)
      have n2 : ¬ nI s = (95 : Int32) := fun q => c1 ((nI_eq (by omega) (b := 95) (by decide)).mp q)
      rw [if_neg n1, if_neg n2]
      have bg : a_bs b g = 0 := by
        unfold wbA at hw
        cases ig : a_is b g
        · rw [ig] at hw; simp at hw
        · by_cases c : a_bs b g = 0
          · exact c
          · rw [ig] at hw; simp [c] at hw
      exact act74_spec hI hM hg bg rfl (by rw [if_neg n2]; exact pk_sub (b := 97) hl.1)
/-! a party without fault, event by event -/
theorem fa_pos {R : Nat} {c : Nat → Nat} {n : Nat} (hn : n < 1000) : ∀ m i st, i + m ≤ n → fa R c n m i st = -6 ∨ ∃ k, k < 1000 ∧ fa R c n m i st = nI k
  | 0, i, st, h => by
    rw [fa_0]
    by_cases q : st = 0
    · rw [if_pos q]; exact Or.inl rfl
    · rw [if_neg q]; exact Or.inr ⟨n, hn, rfl⟩
  | m + 1, i, st, h => by
    rw [fa_s]
    by_cases q : nx R st (c i) (c (i - 1)) = 5
    · rw [if_pos q]; exact Or.inr ⟨i, by omega, rfl⟩
    · rw [if_neg q]; exact fa_pos hn m (i + 1) _ (by omega)
theorem n6 {k : Nat} (hk : k < 1000) : ¬ nI k = (-6 : Int32) := fun q => by have := nI_pos (n := k) (by omega); rw [q] at this; exact this (by decide)
/-- one step of a party without fault -/
theorem fa_step {R : Nat} {c : Nat → Nat} {n i st : Nat} (hn : n ≤ 60) (hi : i < n) (h : fa R c n (n - i) i st = -6) : nx R st (c i) (c (i - 1)) ≠ 5 ∧ fa R c n (n - (i + 1)) (i + 1) (nx R st (c i) (c (i - 1))) = -6 := by
  rw [show n - i = (n - (i + 1)) + 1 by omega, fa_s] at h
  by_cases q : nx R st (c i) (c (i - 1)) = 5
  · rw [if_pos q] at h; exact absurd h (n6 (by omega))
  · rw [if_neg q] at h; exact ⟨q, h⟩
theorem fa_end {R : Nat} {c : Nat → Nat} {n i st : Nat} (hn : n ≤ 60) (h : fa R c n (n - i) i st = -6) (h0 : st ≠ 0) : i < n := by
  rcases Nat.lt_or_ge i n with q | q
  · exact q
  · rw [show n - i = 0 by omega, fa_0, if_neg h0] at h; exact absurd h (n6 (by omega))
/-- what stands at the beginning of an event -/
theorem wf_cases {R : Nat} {c : Nat → Nat} {n i : Nat} (hn : n ≤ 60) (hi : i < n) (h : fa R c n (n - i) i 0 = -6) :
    (c i = 46 ∧ fa R c n (n - (i + 1)) (i + 1) 0 = -6) ∨
    (c i ≠ 46 ∧ isG (c i) = true ∧ i + 1 < n ∧ isG (c (i + 1)) = true ∧ c i < c (i + 1) ∧ i + 2 < n ∧ 49 ≤ c (i + 2) ∧ c (i + 2) ≤ 57 ∧ fa R c n (n - (i + 3)) (i + 3) 0 = -6) ∨
    (c i ≠ 46 ∧ isG (c i) = true ∧ i + 1 < n ∧ isG (c (i + 1)) = false ∧ (c (i + 1) = 95 ∨ c (i + 1) = 94 ∨ isL R (c (i + 1)) = true) ∧ fa R c n (n - (i + 2)) (i + 2) 0 = -6) ∨
    (c i ≠ 46 ∧ isG (c i) = false ∧ isL R (c i) = true ∧ i + 2 < n ∧ isL R (c (i + 1)) = true ∧ 48 ≤ c (i + 2) ∧ c (i + 2) ≤ 51 ∧ fa R c n (n - (i + 3)) (i + 3) 0 = -6) := by
  obtain ⟨h1, h2⟩ := fa_step hn hi h
  rw [nx0] at h1 h2
  by_cases q1 : c i = 46
  · rw [if_pos q1] at h2; exact Or.inl ⟨q1, h2⟩
  · rw [if_neg q1] at h1 h2
    cases q2 : isG (c i)
    · rw [q2] at h1 h2
      simp only [Bool.false_eq_true, if_false] at h1 h2
      cases q3 : isL R (c i)
      · rw [q3] at h1; simp at h1
      · rw [q3] at h2
        simp only [if_true] at h2
        have l1 := fa_end hn h2 (by decide)
        obtain ⟨g1, g2⟩ := fa_step hn l1 h2
        rw [nx3] at g1 g2
        cases q4 : isL R (c (i + 1))
        · rw [q4] at g1; simp at g1
        · rw [q4] at g2
          simp only [if_true] at g2
          have l2 := fa_end hn g2 (by decide)
          obtain ⟨k1, k2⟩ := fa_step hn l2 g2
          rw [nx4] at k1 k2
          by_cases q5 : 48 ≤ c (i + 1 + 1) ∧ c (i + 1 + 1) ≤ 51
          · rw [if_pos q5] at k2
            exact Or.inr (Or.inr (Or.inr ⟨q1, rfl, rfl, l2, rfl, q5.1, q5.2, k2⟩))
          · rw [if_neg q5] at k1; exact absurd rfl k1
    · rw [q2] at h2
      simp only [if_true] at h2
      have l1 := fa_end hn h2 (by decide)
      obtain ⟨g1, g2⟩ := fa_step hn l1 h2
      rw [nx1] at g1 g2
      simp only [Nat.add_sub_cancel] at g1 g2
      cases q3 : isG (c (i + 1))
      · rw [q3] at g1 g2
        simp only [Bool.false_eq_true, if_false] at g1 g2
        refine Or.inr (Or.inr (Or.inl ⟨q1, rfl, l1, rfl, ?_⟩))
        by_cases e1 : c (i + 1) = 95
        · rw [if_pos e1] at g2; exact ⟨Or.inl e1, g2⟩
        · rw [if_neg e1] at g1 g2
          by_cases e2 : c (i + 1) = 94
          · rw [if_pos e2] at g2; exact ⟨Or.inr (Or.inl e2), g2⟩
          · rw [if_neg e2] at g1 g2
            cases e3 : isL R (c (i + 1))
            · rw [e3] at g1; simp at g1
            · rw [e3] at g2; simp only [if_true] at g2; exact ⟨Or.inr (Or.inr rfl), g2⟩
      · rw [q3] at g1 g2
        simp only [if_true] at g1 g2
        by_cases e1 : c i < c (i + 1)
        · rw [if_pos e1] at g2
          have l2 := fa_end hn g2 (by decide)
          obtain ⟨k1, k2⟩ := fa_step hn l2 g2
          rw [nx2] at k1 k2
          by_cases q5 : 49 ≤ c (i + 1 + 1) ∧ c (i + 1 + 1) ≤ 57
          · rw [if_pos q5] at k2
            exact Or.inr (Or.inl ⟨q1, rfl, l1, rfl, e1, l2, q5.1, q5.2, k2⟩)
          · rw [if_neg q5] at k1; exact absurd rfl k1
        · rw [if_neg e1] at g1; exact absurd rfl g1
end
/-! 92.party -/
section
/-- an event: why it can't be (0: it can), what then is, how many signs it has -/
def evA (c : Nat → Nat) (b : AS) (i : Nat) : Nat × AS × Nat :=
  if c i = 46 then (0, minA lo0 b, 1)
  else if isG (c i) then (if isG (c (i + 1)) then (wnt b (c i - 65) (c (i + 1) - 65), tkk b (c i - 65) (c (i + 1) - 65) (c (i + 2) - 48), 3) else (wdA b (c i - 65) (c (i + 1)), dwA b (c i - 65) (c (i + 1)), 2))
  else (wnc b (c i - 97) (c (i + 1) - 97) (c (i + 2) - 48), crA b (c i - 97) (c (i + 1) - 97) (c (i + 2) - 48), 3)
theorem evA_1 {c : Nat → Nat} {i : Nat} (b : AS) (h : c i = 46) : evA c b i = (0, minA lo0 b, 1) := by unfold evA; rw [if_pos h]
theorem evA_2 {c : Nat → Nat} {i : Nat} (b : AS) (h0 : c i ≠ 46) (h1 : isG (c i) = true) (h2 : isG (c (i + 1)) = true) : evA c b i = (wnt b (c i - 65) (c (i + 1) - 65), tkk b (c i - 65) (c (i + 1) - 65) (c (i + 2) - 48), 3) := by unfold evA; rw [if_neg h0, if_pos h1, if_pos h2]
theorem evA_3 {c : Nat → Nat} {i : Nat} (b : AS) (h0 : c i ≠ 46) (h1 : isG (c i) = true) (h2 : isG (c (i + 1)) = false) : evA c b i = (wdA b (c i - 65) (c (i + 1)), dwA b (c i - 65) (c (i + 1)), 2) := by unfold evA; rw [if_neg h0, if_pos h1, if_neg (by rw [h2]; decide)]
theorem evA_4 {c : Nat → Nat} {i : Nat} (b : AS) (h0 : c i ≠ 46) (h1 : isG (c i) = false) : evA c b i = (wnc b (c i - 97) (c (i + 1) - 97) (c (i + 2) - 48), crA b (c i - 97) (c (i + 1) - 97) (c (i + 2) - 48), 3) := by unfold evA; rw [if_neg h0, if_neg (by rw [h1]; decide)]
/-- the party from sign i on -/
def plA (c : Nat → Nat) (n : Nat) : Nat → Nat → AS → Nat → Nat × AS × Nat
  | 0, _, b, ev => (0, b, ev)
  | f + 1, i, b, ev => if n ≤ i then (0, b, ev) else if (evA c b i).1 ≠ 0 then ((evA c b i).1, b, ev) else plA c n f (i + (evA c b i).2.2) (evA c b i).2.1 (ev + 1)
theorem plA_s (c : Nat → Nat) (n f i : Nat) (b : AS) (ev : Nat) : plA c n (f + 1) i b ev = if n ≤ i then (0, b, ev) else if (evA c b i).1 ≠ 0 then ((evA c b i).1, b, ev) else plA c n f (i + (evA c b i).2.2) (evA c b i).2.1 (ev + 1) := rfl
theorem isG_b {x : Nat} (h : isG x = true) : 65 ≤ x ∧ x ≤ 72 := by unfold isG at h; simp only [Bool.and_eq_true, decide_eq_true_eq] at h; exact h
theorem isL_b {R x : Nat} (h : isL R x = true) : 97 ≤ x ∧ x < 97 + R := by unfold isL at h; simp only [Bool.and_eq_true, decide_eq_true_eq] at h; exact h
theorem wd_le (b : AS) (g s : Nat) : wdA b g s ≤ 6 := by
  unfold wdA wsA wrA wbA
  repeat' split
  all_goals decide
/-- an event that can be keeps the order, and the fault's place -/
theorem ev_ok {R : Nat} {c : Nat → Nat} {n i : Nat} {b : AS} (hI : Inv b) (hR : a_R b = R) (hn : n ≤ 60) (hi : i < n) (h : fa R c n (n - i) i 0 = -6) : (evA c b i).1 ≤ 6 ∧ 1 ≤ (evA c b i).2.2 ∧ ((evA c b i).1 = 0 → Inv (evA c b i).2.1 ∧ a_R (evA c b i).2.1 = R ∧ fa R c n (n - (i + (evA c b i).2.2)) (i + (evA c b i).2.2) 0 = -6) := by
  have hR6 := hI.1.2.1
  rcases wf_cases hn hi h with ⟨h1, h2⟩ | ⟨h0, h1, h2, h3, h4, h5, h6, h7, h8⟩ | ⟨h0, h1, h2, h3, h4, h5⟩ | ⟨h0, h1, h2, h3, h4, h5, h6, h7⟩
  · rw [evA_1 b h1]; exact ⟨Nat.le_of_ble_eq_true rfl, Nat.le_of_ble_eq_true rfl, fun _ => ⟨Inv_min hI lo0, (min_keep hI lo0).1.trans hR, h2⟩⟩
  · rw [evA_2 b h0 h1 h3]
    have g1 := isG_b h1
    have g2 := isG_b h3
    refine ⟨by have := wnt_le b (c i - 65) (c (i + 1) - 65); show wnt b _ _ ≤ 6; omega, Nat.le_of_ble_eq_true rfl, fun hw => ?_⟩
    obtain ⟨w1, w2, w3, w4, -⟩ := wnt_0 hw
    exact ⟨Inv_tkk hI (by omega) (by omega) w1 w2 w3 w4 (by omega) (by omega) (by omega), hR, h8⟩
  · rw [evA_3 b h0 h1 h3]
    have g1 := isG_b h1
    refine ⟨wd_le b _ _, Nat.le_of_ble_eq_true rfl, fun hw => ⟨Inv_dw hI (by omega) (by rw [hR]; exact h4) hw, ?_, h5⟩⟩
    show a_R (dwA b (c i - 65) (c (i + 1))) = R
    unfold dwA
    split
    · exact hR
    · split
      · exact hR
      · exact hR
  · rw [evA_4 b h0 h1]
    have g1 := isL_b h2
    have g2 := isL_b h4
    refine ⟨by rcases wnc_or b (c i - 97) (c (i + 1) - 97) (c (i + 2) - 48) with q | q <;> (show wnc b _ _ _ ≤ 6; omega), Nat.le_of_ble_eq_true rfl, fun hw => ⟨Inv_cr hI (by omega) (by omega) (by omega) hw, hR, h7⟩⟩
section PC
variable {pd : PS} {R n : Nat} {c : Nat → Nat}
theorem sign_at (hn : n ≤ 60) (hu : P_used pd = nI n) (hs : ∀ j, j < n → P_signs pd j = nI (c j) ∧ 33 ≤ c j ∧ c j ≤ 126) {i : Nat} (hi : i < n) : f_X2_sign pd (nI i) = some (nI (c i)) := by
  unfold f_X2_sign
  rw [if_neg (nI_pos (by omega)), hu, if_neg (nI_ge hi (by omega)), chk_nI (by omega) (by decide), nI_clamp (by omega), (hs i hi).1]
/-- the class plays an event -/
theorem cev_spec (hn : n ≤ 60) (hu : P_used pd = nI n) (hs : ∀ j, j < n → P_signs pd j = nI (c j) ∧ 33 ≤ c j ∧ c j ≤ 126) {i ev : Nat} {b : AS} {d : DS} (hI : Inv b) (hR : a_R b = R) (hi : i < n) (hev : ev < 60) (h : fa R c n (n - i) i 0 = -6) (hH : Hc (D_house d) b) (k : YS → PS → HS → DS → Int32 → Int32 → Option (YS × DS)) (y : YS) (hy : Y_why y = 0) (hn0 : HS) : ∃ y' d', X3_perform_B21 k y pd hn0 d (nI i) (nI ev) = (if (evA c b i).1 = 0 then k (Y_set_events y' (Y_events y + 1)) pd hn0 d' (nI (i + (evA c b i).2.2)) (nI (ev + 1)) else some (y', d')) ∧ Y_why y' = nI (evA c b i).1 ∧ Y_events y' = Y_events y ∧ ((evA c b i).1 = 0 → Hc (D_house d') (evA c b i).2.1) := by
  have hR6 := hI.1.2.1
  have hi60 : i < 60 := by omega
  unfold X3_perform_B21 X3_perform_J79
  rw [if_neg (show ¬ (60 : Int32) ≤ nI ev from nlit (by decide) hev), hu, if_neg (nI_ge hi (by omega))]
  rcases wf_cases hn hi h with ⟨h1, h2⟩ | ⟨h0, h1, h2, h3, h4, h5, h6, h7, h8⟩ | ⟨h0, h1, h2, h3, h4, h5⟩ | ⟨h0, h1, h2, h3, h4, h5, h6, h7⟩
  · obtain ⟨d1, r1, r2⟩ := ready_spec (d := d) hI hH
    obtain ⟨d2, gn, m1, m2⟩ := minute_spec hI (Lo0 b) r2
    have sp : f_X3_spanOf pd (nI i) = some 1 := by
      unfold f_X3_spanOf
      rw [sign_at hn hu hs hi, Option.bind_some, if_pos (show nI (c i) = (46 : Int32) by rw [h1]; rfl)]
    rw [evA_1 b h1]
    refine ⟨y, d2, ?_, hy, rfl, fun _ => m2.1⟩
    rw [sp, Option.bind_some, if_pos rfl, r1, Option.bind_some, m1, Option.bind_some, hy, if_pos rfl, if_pos rfl, nI_1, nI_1]
  · have n46 : ¬ nI (c i) = (46 : Int32) := fun q => h0 ((nI_eq (by have := (hs i hi).2; omega) (b := 46) (by decide)).mp q)
    have g1 := isG_b h1
    have g2 := isG_b h3
    have sp : f_X3_spanOf pd (nI i) = some 3 := by
      unfold f_X3_spanOf X3_spanOf_J40 X3_spanOf_J41
      rw [nI_1, sign_at hn hu hs hi, sign_at hn hu hs h2, Option.bind_some, if_neg n46, Option.bind_some, gl_spec (hs i hi).2.2, Option.bind_some, h1, if_neg (by decide), Option.bind_some, gl_spec (hs _ h2).2.2, Option.bind_some, h3, if_neg (by decide), if_pos rfl]
    have e1 : nI (c i) - (65 : Int32) = nI (c i - 65) := pk_sub (b := 65) g1.1
    have e2 : nI (c (i + 1)) - (65 : Int32) = nI (c (i + 1) - 65) := pk_sub (b := 65) g2.1
    have e3 : nI (c (i + 2)) - (48 : Int32) = nI (c (i + 2) - 48) := pk_sub (b := 48) (by omega)
    have hw3 := wnt_le b (c i - 65) (c (i + 1) - 65)
    have at1 : ∃ h', f_X3_attempt pd (D_house d) (nI i) 3 = some (nI (wnt b (c i - 65) (c (i + 1) - 65)), h') ∧ (wnt b (c i - 65) (c (i + 1) - 65) = 0 → Hc h' (tkk b (c i - 65) (c (i + 1) - 65) (c (i + 2) - 48))) := by
      unfold f_X3_attempt f_X3_chat
      rw [nI_1, show nI i + (2 : Int32) = nI (i + 2) from nI_add i 2, sign_at hn hu hs hi, sign_at hn hu hs h2, sign_at hn hu hs h5, Option.bind_some, Option.bind_some, if_neg (by decide), Option.bind_some, gl_spec (hs i hi).2.2, Option.bind_some, h1, if_neg (by decide), e1, e2, e3, cwnt_spec hI hH (by omega) (by omega), Option.bind_some]
      by_cases cw : wnt b (c i - 65) (c (i + 1) - 65) = 0
      · obtain ⟨h', t1, t2⟩ := ctalk_spec (l := c (i + 2) - 48) hH (show c i - 65 < 8 by omega) (show c (i + 1) - 65 < 8 by omega)
        rw [if_pos (show nI (wnt b (c i - 65) (c (i + 1) - 65)) = 0 by rw [cw]; rfl), t1, Option.bind_some, Option.bind_some]
        exact ⟨h', rfl, fun _ => t2⟩
      · rw [if_neg (show ¬ nI (wnt b (c i - 65) (c (i + 1) - 65)) = 0 from fun q => cw ((nI_eq (by omega) (b := 0) (by decide)).mp q)), Option.bind_some]
        exact ⟨_, rfl, fun q => absurd q cw⟩
    obtain ⟨h', a1, a2⟩ := at1
    rw [evA_2 b h0 h1 h3, sp, Option.bind_some, if_neg (by decide), a1, Option.bind_some]
    refine ⟨Y_set_why y (nI (wnt b (c i - 65) (c (i + 1) - 65))), D_set_house d h', ?_, rfl, rfl, a2⟩
    show (if nI (wnt b (c i - 65) (c (i + 1) - 65)) = 0 then k (Y_set_events (Y_set_why y (nI (wnt b (c i - 65) (c (i + 1) - 65)))) (Y_events y + 1)) pd hn0 (D_set_house d h') (nI i + 3) (nI ev + 1) else some (Y_set_why y (nI (wnt b (c i - 65) (c (i + 1) - 65))), D_set_house d h')) = _
    rw [show nI i + (3 : Int32) = nI (i + 3) from nI_add i 3, nI_1]
    by_cases cw : wnt b (c i - 65) (c (i + 1) - 65) = 0
    · rw [if_pos (show nI (wnt b (c i - 65) (c (i + 1) - 65)) = 0 by rw [cw]; rfl), if_pos cw]
    · rw [if_neg (show ¬ nI (wnt b (c i - 65) (c (i + 1) - 65)) = 0 from fun q => cw ((nI_eq (by omega) (b := 0) (by decide)).mp q)), if_neg cw]
  · have n46 : ¬ nI (c i) = (46 : Int32) := fun q => h0 ((nI_eq (by have := (hs i hi).2; omega) (b := 46) (by decide)).mp q)
    have g1 := isG_b h1
    have sp : f_X3_spanOf pd (nI i) = some 2 := by
      unfold f_X3_spanOf X3_spanOf_J40 X3_spanOf_J41
      rw [nI_1, sign_at hn hu hs hi, sign_at hn hu hs h2, Option.bind_some, if_neg n46, Option.bind_some, gl_spec (hs i hi).2.2, Option.bind_some, h1, if_neg (by decide), Option.bind_some, gl_spec (hs _ h2).2.2, Option.bind_some, h3, if_pos (by decide), if_neg (by decide)]
    have e1 : nI (c i) - (65 : Int32) = nI (c i - 65) := pk_sub (b := 65) g1.1
    obtain ⟨h', s1, s2⟩ := csettle_spec hI hH (g := c i - 65) (s := c (i + 1)) (by omega) (by rw [hR]; exact h4)
    have hw6 := wd_le b (c i - 65) (c (i + 1))
    have a1 : f_X3_attempt pd (D_house d) (nI i) 2 = some (nI (wdA b (c i - 65) (c (i + 1))), h') := by
      unfold f_X3_attempt
      rw [nI_1, sign_at hn hu hs hi, sign_at hn hu hs h2, Option.bind_some, Option.bind_some, if_pos rfl, e1, s1, Option.bind_some]
    rw [evA_3 b h0 h1 h3, sp, Option.bind_some, if_neg (by decide), a1, Option.bind_some]
    refine ⟨Y_set_why y (nI (wdA b (c i - 65) (c (i + 1)))), D_set_house d h', ?_, rfl, rfl, s2⟩
    show (if nI (wdA b (c i - 65) (c (i + 1))) = 0 then k (Y_set_events (Y_set_why y (nI (wdA b (c i - 65) (c (i + 1))))) (Y_events y + 1)) pd hn0 (D_set_house d h') (nI i + 2) (nI ev + 1) else some (Y_set_why y (nI (wdA b (c i - 65) (c (i + 1)))), D_set_house d h')) = _
    rw [show nI i + (2 : Int32) = nI (i + 2) from nI_add i 2, nI_1]
    by_cases cw : wdA b (c i - 65) (c (i + 1)) = 0
    · rw [if_pos (show nI (wdA b (c i - 65) (c (i + 1))) = 0 by rw [cw]; rfl), if_pos cw]
    · rw [if_neg (show ¬ nI (wdA b (c i - 65) (c (i + 1))) = 0 from fun q => cw ((nI_eq (by omega) (b := 0) (by decide)).mp q)), if_neg cw]
  · have n46 : ¬ nI (c i) = (46 : Int32) := fun q => h0 ((nI_eq (by have := (hs i hi).2; omega) (b := 46) (by decide)).mp q)
    have g1 := isL_b h2
    have g2 := isL_b h4
    have hi1 : i + 1 < n := by omega
    have sp : f_X3_spanOf pd (nI i) = some 3 := by
      unfold f_X3_spanOf X3_spanOf_J40 X3_spanOf_J41
      rw [sign_at hn hu hs hi, Option.bind_some, if_neg n46, Option.bind_some, gl_spec (hs i hi).2.2, Option.bind_some, h1, if_pos (by decide), if_pos rfl]
    have e1 : nI (c i) - (97 : Int32) = nI (c i - 97) := pk_sub (b := 97) g1.1
    have e2 : nI (c (i + 1)) - (97 : Int32) = nI (c (i + 1) - 97) := pk_sub (b := 97) g2.1
    have e3 : nI (c (i + 2)) - (48 : Int32) = nI (c (i + 2) - 48) := pk_sub (b := 48) (by omega)
    have hw6 : wnc b (c i - 97) (c (i + 1) - 97) (c (i + 2) - 48) ≤ 6 := by rcases wnc_or b (c i - 97) (c (i + 1) - 97) (c (i + 2) - 48) with q | q <;> omega
    have at1 : ∃ h', f_X3_attempt pd (D_house d) (nI i) 3 = some (nI (wnc b (c i - 97) (c (i + 1) - 97) (c (i + 2) - 48)), h') ∧ (wnc b (c i - 97) (c (i + 1) - 97) (c (i + 2) - 48) = 0 → Hc h' (crA b (c i - 97) (c (i + 1) - 97) (c (i + 2) - 48))) := by
      unfold f_X3_attempt f_X3_fetch
      rw [nI_1, show nI i + (2 : Int32) = nI (i + 2) from nI_add i 2, sign_at hn hu hs hi, sign_at hn hu hs hi1, sign_at hn hu hs h3, Option.bind_some, Option.bind_some, if_neg (by decide), Option.bind_some, gl_spec (hs i hi).2.2, Option.bind_some, h1, if_pos (by decide), e1, e2, e3, cwnc_spec hI hH (by omega) (by omega) (by omega), Option.bind_some]
      by_cases cw : wnc b (c i - 97) (c (i + 1) - 97) (c (i + 2) - 48) = 0
      · obtain ⟨h', t1, t2⟩ := ccarry_spec hI hH (show c i - 97 < 6 by omega) (show c (i + 1) - 97 < 6 by omega) (show c (i + 2) - 48 < 4 by omega) cw
        rw [if_pos (show nI (wnc b (c i - 97) (c (i + 1) - 97) (c (i + 2) - 48)) = 0 by rw [cw]; rfl), t1, Option.bind_some, Option.bind_some]
        exact ⟨h', rfl, fun _ => t2⟩
      · rw [if_neg (show ¬ nI (wnc b (c i - 97) (c (i + 1) - 97) (c (i + 2) - 48)) = 0 from fun q => cw ((nI_eq (by omega) (b := 0) (by decide)).mp q)), Option.bind_some]
        exact ⟨_, rfl, fun q => absurd q cw⟩
    obtain ⟨h', a1, a2⟩ := at1
    rw [evA_4 b h0 h1, sp, Option.bind_some, if_neg (by decide), a1, Option.bind_some]
    refine ⟨Y_set_why y (nI (wnc b (c i - 97) (c (i + 1) - 97) (c (i + 2) - 48))), D_set_house d h', ?_, rfl, rfl, a2⟩
    show (if nI (wnc b (c i - 97) (c (i + 1) - 97) (c (i + 2) - 48)) = 0 then k (Y_set_events (Y_set_why y (nI (wnc b (c i - 97) (c (i + 1) - 97) (c (i + 2) - 48)))) (Y_events y + 1)) pd hn0 (D_set_house d h') (nI i + 3) (nI ev + 1) else some (Y_set_why y (nI (wnc b (c i - 97) (c (i + 1) - 97) (c (i + 2) - 48))), D_set_house d h')) = _
    rw [show nI i + (3 : Int32) = nI (i + 3) from nI_add i 3, nI_1]
    by_cases cw : wnc b (c i - 97) (c (i + 1) - 97) (c (i + 2) - 48) = 0
    · rw [if_pos (show nI (wnc b (c i - 97) (c (i + 1) - 97) (c (i + 2) - 48)) = 0 by rw [cw]; rfl), if_pos cw]
    · rw [if_neg (show ¬ nI (wnc b (c i - 97) (c (i + 1) - 97) (c (i + 2) - 48)) = 0 from fun q => cw ((nI_eq (by omega) (b := 0) (by decide)).mp q)), if_neg cw]
/-- the class plays the party -/
theorem cplay_spec (hn : n ≤ 60) (hu : P_used pd = nI n) (hs : ∀ j, j < n → P_signs pd j = nI (c j) ∧ 33 ≤ c j ∧ c j ≤ 126) (hn0 : HS) : ∀ N f i ev (b : AS) (d : DS) (y : YS), n - i < f → n - i < N → ev ≤ i → i ≤ n + 3 → Inv b → a_R b = R → (i < n → fa R c n (n - i) i 0 = -6) → Hc (D_house d) b → Y_why y = 0 → Y_events y = nI ev → ∃ y' d', it X3_perform_B21 (fun _ _ _ _ _ _ => none) N y pd hn0 d (nI i) (nI ev) = some (y', d') ∧ Y_why y' = nI (plA c n f i b ev).1 ∧ Y_events y' = nI (plA c n f i b ev).2.2 ∧ ((plA c n f i b ev).1 = 0 → Inv (plA c n f i b ev).2.1 ∧ Hc (D_house d') (plA c n f i b ev).2.1) := by
  intro N
  induction N with
  | zero => intro f i ev b d y h1 h2; omega
  | succ N ih =>
    intro f i ev b d y h1 h2 h3 h4 hI hR hf hH hy hev
    obtain ⟨f, rfl⟩ : ∃ g, f = g + 1 := ⟨f - 1, by omega⟩
    rw [it_s, plA_s]
    by_cases c1 : n ≤ i
    · rw [if_pos c1]
      refine ⟨y, d, ?_, hy, hev, fun _ => ⟨hI, hH⟩⟩
      unfold X3_perform_B21
      rw [hu]
      by_cases c2 : (60 : Int32) ≤ nI ev
      · rw [if_pos c2]
      · rw [if_neg c2, if_pos (nI_le c1 (by omega))]
    · rw [if_neg c1]
      have hi : i < n := by omega
      obtain ⟨o1, o2, o3⟩ := ev_ok hI hR hn hi (hf hi)
      obtain ⟨y', d', p1, p2, p3, p4⟩ := cev_spec hn hu hs hI hR hi (show ev < 60 by omega) (hf hi) hH (it X3_perform_B21 (fun _ _ _ _ _ _ => none) N) y hy hn0
      rw [p1]
      by_cases c2 : (evA c b i).1 = 0
      · obtain ⟨q1, q2, q3⟩ := o3 c2
        rw [if_pos c2, if_neg (fun h => h c2)]
        have hle : i + (evA c b i).2.2 ≤ n + 3 := by
          have : (evA c b i).2.2 ≤ 3 := by unfold evA; repeat' split
                                           all_goals exact Nat.le_of_ble_eq_true rfl
          omega
        exact ih f (i + (evA c b i).2.2) (ev + 1) (evA c b i).2.1 d' (Y_set_events y' (Y_events y + 1)) (by omega) (by omega) (by omega) hle q1 q2 (fun _ => q3) (p4 c2) (by show Y_why y' = 0; rw [p2, c2]; rfl) (by show Y_events y + 1 = _; rw [hev, nI_1])
      · rw [if_neg c2, if_pos c2]
        exact ⟨y', d', rfl, p2, p3.trans hev, fun h => absurd h c2⟩
end PC
end
/-! 93.party2 -/
section
theorem rev_sx {z z' : MS} {v : Int32} (h : z' = M_set_reason z v) : mkeep z' = mkeep z ∧ msc z' = msc z ∧ M_reason z' = v ∧ M_events z' = M_events z := by
  obtain ⟨a, b, c⟩ := sx_reason h
  exact ⟨a, b, congrArg (fun m => m.1) c, congrArg (fun m => m.2.1) c⟩
theorem eev_sx {z z' : MS} {v : Int32} (h : z' = M_set_events z v) : mkeep z' = mkeep z ∧ msc z' = msc z ∧ M_reason z' = M_reason z ∧ M_events z' = v := by
  obtain ⟨a, b, c⟩ := sx_events h
  exact ⟨a, b, congrArg (fun m => m.1) c, congrArg (fun m => m.2.1) c⟩
/-- the present doesn't change by what is only noted -/
theorem Mx0.sc {w w' : MS} {b : AS} {lo : Nat → Nat → Bool} (h : Mx0 w b lo) (k : mkeep w' = mkeep w) (e : msc w' = msc w) : Mx0 w' b lo := by
  have q1 : M_at w' = M_at w := congrArg (fun m => m.1) e
  have q2 : M_busyNow w' = M_busyNow w := congrArg (fun m => m.2.1) e
  have q3 : M_withNow w' = M_withNow w := congrArg (fun m => m.2.2.1) e
  have q4 : M_leftNow w' = M_leftNow w := congrArg (fun m => m.2.2.2.1) e
  have q5 : M_thingsNow w' = M_thingsNow w := congrArg (fun m => m.2.2.2.2.1) e
  have q6 : M_loose w' = M_loose w := congrArg (fun m => m.2.2.2.2.2.1) e
  exact h.now (Mc_now k h.1 rfl rfl rfl rfl rfl rfl rfl rfl (fun r s hr hs => by rw [q5]; exact gt_th h.1 hr hs) (fun _ _ _ _ _ => rfl) (fun g hg hi => by rw [q1, q2, q3, q4]; exact gt_now h.1 hg hi)) q6
theorem rvx {w w' : MS} (h : mrest w' = mrest w) : M_reason w' = M_reason w ∧ M_events w' = M_events w := ⟨congrArg (fun m => m.1) h, congrArg (fun m => m.2.1) h⟩
theorem it_part {γ : Type} {B : γ → γ} {bot : γ} (P : γ → Prop) (h0 : P bot) (hs : ∀ k, P k → P (B k)) : ∀ n, P (it B bot n)
  | 0 => h0
  | n + 1 => hs _ (it_part P h0 hs n)
theorem chk_so {α : Type} {i : Int32} {n : Nat} {x : Option α} {r : α} (h : chk i n x = some r) : x = some r := by
  unfold chk at h
  split at h
  · exact h
  · cases h
theorem ltA_some {α β : Type} {x : α} {k : α → Option β} {r : β} (h : ltA x k = some r) : k x = some r := by rw [ltA_eq] at h; exact h
/-- minutes leave the party's notes alone -/
theorem shut_rest {z : MS} {r : MS} (h : f_X9_shut z = some r) : mrest r = mrest z := by
  unfold f_X9_shut at h
  refine it_part (B := X9_shut_B2) (bot := fun _ _ => none) (fun k => ∀ z a r, k z a = some r → mrest r = mrest z) (fun _ _ _ h => by cases h) ?_ FU z 0 r h
  intro k hk z a r h
  unfold X9_shut_B2 at h
  split at h
  · cases h; rfl
  · have h := ltA_some (chk_so h)
    obtain ⟨y, ey⟩ : ∃ y, y = M_set_through z (upd (M_through z) a.toNatClampNeg 0) := ⟨_, rfl⟩
    rw [← ey] at h
    exact (hk _ _ _ h).trans (sx_through ey).2.2
theorem pass108_rest {z : MS} {a b : Int32} {r : Int32 × MS} (h : it X9_pass_B108 (fun _ _ _ => none) FU z a b = some r) : mrest r.2 = mrest z := by
  refine it_part (B := X9_pass_B108) (bot := fun _ _ _ => none) (fun k => ∀ z a b r, k z a b = some r → mrest r.2 = mrest z) (fun _ _ _ _ h => by cases h) ?_ FU z a b r h
  intro k hk z a b r h
  unfold X9_pass_B108 X9_pass_J164 X9_pass_J165 at h
  split at h
  · cases h; rfl
  · obtain ⟨q, -, h⟩ := Option.bind_eq_some_iff.mp h
    split at h
    · exact hk _ _ _ _ h
    · have h := chk_so h
      split at h
      · have h := ltA_some (chk_so (chk_so h))
        obtain ⟨y, ey⟩ : ∃ y, y = M_set_leftNow z (upd (M_leftNow z) b.toNatClampNeg (M_leftNow z b.toNatClampNeg - 1)) := ⟨_, rfl⟩
        rw [← ey] at h
        have h := chk_so h
        have e1 := (sx_leftNow ey).2.2
        split at h
        · have h := ltA_some (chk_so h)
          obtain ⟨y2, ey2⟩ : ∃ y2, y2 = M_set_busyNow y (upd (M_busyNow y) b.toNatClampNeg 0) := ⟨_, rfl⟩
          rw [← ey2] at h
          exact ((hk _ _ _ _ h).trans (sx_busyNow ey2).2.2).trans e1
        · have h := ltA_some (chk_so h)
          obtain ⟨y2, ey2⟩ : ∃ y2, y2 = M_set_busyNow y (upd (M_busyNow y) b.toNatClampNeg 1) := ⟨_, rfl⟩
          rw [← ey2] at h
          exact ((hk _ _ _ _ h).trans (sx_busyNow ey2).2.2).trans e1
      · exact hk _ _ _ _ h
theorem pass_rest {z : MS} {r : Int32 × MS} (h : f_X9_pass z = some r) : mrest r.2 = mrest z := by
  unfold f_X9_pass at h
  obtain ⟨q, hq, h⟩ := Option.bind_eq_some_iff.mp h
  refine Eq.trans ?_ (shut_rest hq)
  refine it_part (B := X9_pass_B8) (bot := fun _ _ _ => none) (fun k => ∀ z a b r, k z a b = some r → mrest r.2 = mrest z) (fun _ _ _ _ h => by cases h) ?_ FU q 0 0 r h
  intro k hk z a b r h
  unfold X9_pass_B8 X9_pass_J100 at h
  split at h
  · exact pass108_rest h
  · obtain ⟨q, -, h⟩ := Option.bind_eq_some_iff.mp h
    split at h
    · exact hk _ _ _ _ h
    · have h := chk_so h
      split at h
      · obtain ⟨t, -, h⟩ := Option.bind_eq_some_iff.mp (chk_so h)
        split at h
        · exact hk _ _ _ _ h
        · have h := ltA_some (chk_so (chk_so h))
          generalize ey : M_set_through z (upd (M_through z) (6 * M_at z b.toNatClampNeg + t).toNatClampNeg (M_through z (6 * M_at z b.toNatClampNeg + t).toNatClampNeg + 1)) = y at h
          have h := ltA_some (chk_so (chk_so h))
          generalize ey2 : M_set_through y (upd (M_through y) (6 * t + M_at z b.toNatClampNeg).toNatClampNeg (M_through y (6 * t + M_at z b.toNatClampNeg).toNatClampNeg + 1)) = y2 at h
          have h := ltA_some (chk_so h)
          generalize ey3 : M_set_at y2 (upd (M_at y2) b.toNatClampNeg t) = y3 at h
          exact (((hk _ _ _ _ h).trans (sx_at ey3.symm).2.2).trans (sx_through ey2.symm).2.2).trans (sx_through ey.symm).2.2
      · exact hk _ _ _ _ h
end
/-! 94.party3 -/
section
/-- what the reference does with an event: on with it, or the reason -/
def RevOk (z : MS) (b' : AS) (why ev : Nat) (k : MS → Int32 → Option (Int32 × MS)) (x : Int32) (r : Option (Int32 × MS)) : Prop := (why = 0 → ∃ s', mkeep s' = mkeep z ∧ Mx0 s' b' lo0 ∧ M_events s' = nI (ev + 1) ∧ r = k s' x) ∧ (why ≠ 0 → ∃ s', mkeep s' = mkeep z ∧ M_reason s' = nI why ∧ r = some (nI ev, s'))
theorem j258_ok {z s : MS} {b' : AS} {why ev : Nat} {k : MS → Int32 → Option (Int32 × MS)} {x : Int32} (hk : mkeep s = mkeep z) (hw : why ≤ 6) (hr : M_reason s = nI why) (he : M_events s = nI ev) (hM : why = 0 → Mx0 s b' lo0) : RevOk z b' why ev k x (X9_goParty_J258 k s x) := by
  unfold X9_goParty_J258
  rw [hr, he, nI_1]
  refine ⟨fun h0 => ?_, fun h0 => ?_⟩
  · obtain ⟨s', es⟩ : ∃ y, y = M_set_events s (nI (ev + 1)) := ⟨_, rfl⟩
    obtain ⟨a1, a2, a3, a4⟩ := eev_sx es
    refine ⟨s', a1.trans hk, (hM h0).sc a1 a2, a4, ?_⟩
    rw [if_pos (show nI why ≤ 0 by rw [h0]; decide), ltA_eq, ← es]
  · exact ⟨s, hk, hr, by rw [if_neg (show ¬ nI why ≤ 0 from nI_ge (a := 0) (by omega) (by omega))]⟩
section PR
variable {z : MS} {R n : Nat} {c : Nat → Nat}
theorem rev_spec (hn : n ≤ 60) (hu : M_signs z = nI n) (hs : ∀ j, j < n → M_pad z j = nI (c j) ∧ 33 ≤ c j ∧ c j ≤ 126) {i ev : Nat} {b : AS} {s : MS} (hI : Inv b) (hR : a_R b = R) (hi : i < n) (h : fa R c n (n - i) i 0 = -6) (hk0 : mkeep s = mkeep z) (hM : Mx0 s b lo0) (he : M_events s = nI ev) (k : MS → Int32 → Option (Int32 × MS)) : RevOk z (evA c b i).2.1 (evA c b i).1 ev k (nI (i + (evA c b i).2.2)) (X9_goParty_B11 k s (nI i)) := by
  have hR6 := hI.1.2.1
  have pd : ∀ y : MS, mkeep y = mkeep z → M_pad y = M_pad z := fun y hy => congrArg (fun m => m.2.2.1) hy
  have us : M_signs s = nI n := (congrArg (fun m => m.2.1) hk0).trans hu
  obtain ⟨s1, es1⟩ : ∃ y, y = M_set_reason s 0 := ⟨_, rfl⟩
  obtain ⟨a1, a2, a3, a4⟩ := rev_sx es1
  have k1 := a1.trans hk0
  have hM1 : Mx0 s1 b lo0 := hM.sc a1 a2
  have he1 : M_events s1 = nI ev := a4.trans he
  obtain ⟨ci, ci1, ci2⟩ := hs i hi
  unfold X9_goParty_B11
  rw [us, if_neg (nI_ge hi (by omega)), chk_nI (by omega) (by decide), nI_clamp (by omega), ltA_eq, ← es1, pd s hk0, pd s1 k1, ci]
  have ws : ∀ v : Int32, ∃ y, y = M_set_reason s1 v ∧ mkeep y = mkeep z ∧ Mx0 y b lo0 ∧ M_reason y = v ∧ M_events y = nI ev ∧ M_pad y = M_pad z := by
    intro v
    obtain ⟨y, ey⟩ : ∃ y, y = M_set_reason s1 v := ⟨_, rfl⟩
    obtain ⟨b1, b2, b3, b4⟩ := rev_sx ey
    exact ⟨y, ey, b1.trans k1, hM1.sc b1 b2, b3, b4.trans he1, pd y (b1.trans k1)⟩
  rcases wf_cases hn hi h with ⟨h1, h2⟩ | ⟨h0, h1, h2, h3, h4, h5, h6, h7, h8⟩ | ⟨h0, h1, h2, h3, h4, h5⟩ | ⟨h0, h1, h2, h3, h4, h5, h6, h7⟩
  · obtain ⟨s2, gn, p1, p2, p3⟩ := pass_spec hI (Lo0 b) hM1
    obtain ⟨r1, r2⟩ := rvx (pass_rest p1)
    rw [evA_1 b h1, if_pos (show nI (c i) = (46 : Int32) by rw [h1]; rfl), p1, Option.bind_some, nI_1]
    exact j258_ok (p2.trans k1) (Nat.le_of_ble_eq_true rfl) (r1.trans a3) (r2.trans he1) (fun _ => p3.to0)
  · have n46 : ¬ nI (c i) = (46 : Int32) := fun q => h0 ((nI_eq (by omega) (b := 46) (by decide)).mp q)
    have g1 := isG_b h1
    have g2 := isG_b h3
    have e1 : nI (c i) - (65 : Int32) = nI (c i - 65) := pk_sub (b := 65) g1.1
    have e2 : nI (c (i + 1)) - (65 : Int32) = nI (c (i + 1) - 65) := pk_sub (b := 65) g2.1
    have e3 : nI (c (i + 2)) - (48 : Int32) = nI (c (i + 2) - 48) := pk_sub (b := 48) (by omega)
    have x1 : nI i + (2 : Int32) = nI (i + 2) := nI_add i 2
    have x3 : nI i + (3 : Int32) = nI (i + 3) := nI_add i 3
    have hw3 := wnt_le b (c i - 65) (c (i + 1) - 65)
    have hni : f_X9_in (nI (c i)) 97 102 = some 0 := by
      rw [show (97 : Int32) = nI 97 from rfl, show (102 : Int32) = nI 102 from rfl, inb (by omega) (by decide) (by decide), if_neg (by omega)]
    have hni2 : f_X9_in (nI (c (i + 1))) 65 72 = some 1 := by
      rw [show (65 : Int32) = nI 65 from rfl, show (72 : Int32) = nI 72 from rfl, inb (by omega) (by decide) (by decide), if_pos (by omega)]
    obtain ⟨y, ey, y1, y2, y3, y4, y5⟩ := ws (nI (wnt b (c i - 65) (c (i + 1) - 65)))
    rw [evA_2 b h0 h1 h3, if_neg n46, hni, Option.bind_some, if_pos rfl, nI_1, chk_nI (by omega) (by decide), nI_clamp (by omega), (hs _ h2).1, hni2, Option.bind_some, if_neg (by decide), chk_nI (by omega) (by decide), e1, e2, rwnt_spec hI hM1.1 (by omega) (by omega), Option.bind_some, ltA_eq, ← ey, y3, y5]
    unfold X9_goParty_J206
    rw [x3]
    by_cases cw : wnt b (c i - 65) (c (i + 1) - 65) = 0
    · obtain ⟨s2, t1, t2, t3, t4⟩ := rtalk2_spec (l := c (i + 2) - 48) y2 (show c i - 65 < 8 by omega) (show c (i + 1) - 65 < 8 by omega) (by omega)
      obtain ⟨r1, r2⟩ := rvx t4
      rw [if_pos (show nI (wnt b (c i - 65) (c (i + 1) - 65)) = 0 by rw [cw]; rfl), chk_nI (by omega) (by decide), x1, chk_nI (by omega) (by decide), nI_clamp (by omega), (hs _ h2).1, (hs _ h5).1, e2, e3, t1, Option.bind_some]
      exact j258_ok (t2.trans y1) (by show wnt b _ _ ≤ 6; omega) (r1.trans y3) (r2.trans y4) (fun _ => t3)
    · rw [if_neg (show ¬ nI (wnt b (c i - 65) (c (i + 1) - 65)) = 0 from fun q => cw ((nI_eq (by omega) (b := 0) (by decide)).mp q))]
      exact j258_ok y1 (by show wnt b _ _ ≤ 6; omega) y3 y4 (fun q => absurd q cw)
  · have n46 : ¬ nI (c i) = (46 : Int32) := fun q => h0 ((nI_eq (by omega) (b := 46) (by decide)).mp q)
    have g1 := isG_b h1
    have hc1 := (hs _ h2).2
    have e1 : nI (c i) - (65 : Int32) = nI (c i - 65) := pk_sub (b := 65) g1.1
    have x1 : nI i + (2 : Int32) = nI (i + 2) := nI_add i 2
    have hw6 := wd_le b (c i - 65) (c (i + 1))
    have hni : f_X9_in (nI (c i)) 97 102 = some 0 := by
      rw [show (97 : Int32) = nI 97 from rfl, show (102 : Int32) = nI 102 from rfl, inb (by omega) (by decide) (by decide), if_neg (by omega)]
    have hni2 : f_X9_in (nI (c (i + 1))) 65 72 = some 0 := by
      rw [show (65 : Int32) = nI 65 from rfl, show (72 : Int32) = nI 72 from rfl, inb (by omega) (by decide) (by decide), if_neg (fun q => by unfold isG at h3; simp [q.1, q.2] at h3)]
    obtain ⟨y, ey, y1, y2, y3, y4, y5⟩ := ws (nI (wdA b (c i - 65) (c (i + 1))))
    have h4' : c (i + 1) = 95 ∨ c (i + 1) = 94 ∨ isL (a_R b) (c (i + 1)) = true := by rw [hR]; exact h4
    rw [evA_3 b h0 h1 h3, if_neg n46, hni, Option.bind_some, if_pos rfl, nI_1, chk_nI (by omega) (by decide), nI_clamp (by omega), (hs _ h2).1, hni2, Option.bind_some, if_pos rfl, chk_nI (by omega) (by decide), e1, rwd_spec hI hM1.1 (by omega) h4', Option.bind_some, ltA_eq, ← ey, y3, y5, (hs _ h2).1]
    unfold X9_goParty_J255
    rw [x1]
    by_cases cw : wdA b (c i - 65) (c (i + 1)) = 0
    · obtain ⟨s2, t1, t2, t3, t4⟩ := ract_spec hI y2 (g := c i - 65) (by omega) h4' cw
      obtain ⟨r1, r2⟩ := rvx t4
      rw [if_pos (show nI (wdA b (c i - 65) (c (i + 1))) = 0 by rw [cw]; rfl), chk_nI (by omega) (by decide), t1, Option.bind_some]
      exact j258_ok (t2.trans y1) hw6 (r1.trans y3) (r2.trans y4) (fun _ => t3)
    · rw [if_neg (show ¬ nI (wdA b (c i - 65) (c (i + 1))) = 0 from fun q => cw ((nI_eq (by omega) (b := 0) (by decide)).mp q))]
      exact j258_ok y1 hw6 y3 y4 (fun q => absurd q cw)
  · have n46 : ¬ nI (c i) = (46 : Int32) := fun q => h0 ((nI_eq (by omega) (b := 46) (by decide)).mp q)
    have g1 := isL_b h2
    have g2 := isL_b h4
    have hi1 : i + 1 < n := by omega
    have e1 : nI (c i) - (97 : Int32) = nI (c i - 97) := pk_sub (b := 97) g1.1
    have e2 : nI (c (i + 1)) - (97 : Int32) = nI (c (i + 1) - 97) := pk_sub (b := 97) g2.1
    have e3 : nI (c (i + 2)) - (48 : Int32) = nI (c (i + 2) - 48) := pk_sub (b := 48) (by omega)
    have x1 : nI i + (2 : Int32) = nI (i + 2) := nI_add i 2
    have x3 : nI i + (3 : Int32) = nI (i + 3) := nI_add i 3
    have hw6 : wnc b (c i - 97) (c (i + 1) - 97) (c (i + 2) - 48) ≤ 6 := by rcases wnc_or b (c i - 97) (c (i + 1) - 97) (c (i + 2) - 48) with q | q <;> omega
    have hni : f_X9_in (nI (c i)) 97 102 = some 1 := by
      rw [show (97 : Int32) = nI 97 from rfl, show (102 : Int32) = nI 102 from rfl, inb (by omega) (by decide) (by decide), if_pos (by omega)]
    obtain ⟨y, ey, y1, y2, y3, y4, y5⟩ := ws (nI (wnc b (c i - 97) (c (i + 1) - 97) (c (i + 2) - 48)))
    rw [evA_4 b h0 h1, if_neg n46, hni, Option.bind_some, if_neg (by decide), x1, nI_1, chk_nI (by omega) (by decide), chk_nI (by omega) (by decide), nI_clamp (by omega), nI_clamp (by omega), (hs _ hi1).1, (hs _ h3).1, e1, e2, e3, rwnc_spec hI hM1.1 (by omega) (by omega) (by omega), Option.bind_some, ltA_eq, ← ey, y3, y5, (hs _ hi1).1, e2]
    unfold X9_goParty_J122
    rw [x3]
    by_cases cw : wnc b (c i - 97) (c (i + 1) - 97) (c (i + 2) - 48) = 0
    · obtain ⟨s2, t1, t2, t3, t4⟩ := rcarry_spec y2 (show c i - 97 < 6 by omega) (show c (i + 1) - 97 < 6 by omega) (show c (i + 2) - 48 < 4 by omega) cw
      obtain ⟨r1, r2⟩ := rvx t4
      rw [if_pos (show nI (wnc b (c i - 97) (c (i + 1) - 97) (c (i + 2) - 48)) = 0 by rw [cw]; rfl), chk_nI (by omega) (by decide), t1, Option.bind_some]
      exact j258_ok (t2.trans y1) hw6 (r1.trans y3) (r2.trans y4) (fun _ => t3)
    · rw [if_neg (show ¬ nI (wnc b (c i - 97) (c (i + 1) - 97) (c (i + 2) - 48)) = 0 from fun q => cw ((nI_eq (by omega) (b := 0) (by decide)).mp q))]
      exact j258_ok y1 hw6 y3 y4 (fun q => absurd q cw)
theorem rplay_spec (hn : n ≤ 60) (hu : M_signs z = nI n) (hs : ∀ j, j < n → M_pad z j = nI (c j) ∧ 33 ≤ c j ∧ c j ≤ 126) : ∀ N f i ev (b : AS) (s : MS), n - i < f → n - i < N → i ≤ n + 3 → Inv b → a_R b = R → (i < n → fa R c n (n - i) i 0 = -6) → mkeep s = mkeep z → Mx0 s b lo0 → M_events s = nI ev → ∃ s', it X9_goParty_B11 (fun _ _ => none) N s (nI i) = some (if (plA c n f i b ev).1 = 0 then -6 else nI (plA c n f i b ev).2.2, s') ∧ mkeep s' = mkeep z ∧ ((plA c n f i b ev).1 = 0 → Mx0 s' (plA c n f i b ev).2.1 lo0 ∧ M_events s' = nI (plA c n f i b ev).2.2) ∧ ((plA c n f i b ev).1 ≠ 0 → M_reason s' = nI (plA c n f i b ev).1) := by
  intro N
  induction N with
  | zero => intro f i ev b s h1 h2; omega
  | succ N ih =>
    intro f i ev b s h1 h2 h4 hI hR hf hk hM he
    obtain ⟨f, rfl⟩ : ∃ g, f = g + 1 := ⟨f - 1, by omega⟩
    rw [it_s]
    by_cases c1 : n ≤ i
    · have e : plA c n (f + 1) i b ev = (0, b, ev) := by rw [plA_s, if_pos c1]
      rw [e]
      have us : M_signs s = nI n := (congrArg (fun m => m.2.1) hk).trans hu
      refine ⟨s, ?_, hk, fun _ => ⟨hM, he⟩, fun h => absurd rfl h⟩
      unfold X9_goParty_B11
      rw [us, if_pos (nI_le c1 (by omega))]; rfl
    · have hi : i < n := by omega
      obtain ⟨o1, o2, o3⟩ := ev_ok hI hR hn hi (hf hi)
      obtain ⟨p1, p2⟩ := rev_spec hn hu hs hI hR hi (hf hi) hk hM he (it X9_goParty_B11 (fun _ _ => none) N)
      by_cases c2 : (evA c b i).1 = 0
      · obtain ⟨q1, q2, q3⟩ := o3 c2
        obtain ⟨s', r1, r2, r3, r4⟩ := p1 c2
        have e : plA c n (f + 1) i b ev = plA c n f (i + (evA c b i).2.2) (evA c b i).2.1 (ev + 1) := by rw [plA_s, if_neg c1, if_neg (fun h => h c2)]
        rw [e, r4]
        have hle : i + (evA c b i).2.2 ≤ n + 3 := by
          have : (evA c b i).2.2 ≤ 3 := by unfold evA; repeat' split
                                           all_goals exact Nat.le_of_ble_eq_true rfl
          omega
        exact ih f (i + (evA c b i).2.2) (ev + 1) (evA c b i).2.1 s' (by omega) (by omega) hle q1 q2 (fun _ => q3) r1 r2 r3
      · obtain ⟨s', r1, r2, r3⟩ := p2 c2
        have e : plA c n (f + 1) i b ev = ((evA c b i).1, b, ev) := by rw [plA_s, if_neg c1, if_pos c2]
        rw [e, r3]
        exact ⟨s', by rw [if_neg c2], r1, fun h => absurd h c2, fun _ => r2⟩
end PR
end
/-! 95.party4 -/
section
/-- the party's whole play -/
def ptyA (c : Nat → Nat) (n : Nat) (a : AS) : Nat × AS × Nat := plA c n (n + 1) 0 a 0
theorem pty_ev {c : Nat → Nat} {n : Nat} : ∀ f i b ev, (plA c n f i b ev).2.2 ≤ ev + f
  | 0, _, _, ev => Nat.le_add_right ev 0
  | f + 1, i, b, ev => by
    rw [plA_s]
    split
    · show ev ≤ ev + (f + 1); omega
    · split
      · show ev ≤ ev + (f + 1); omega
      · have := pty_ev (c := c) (n := n) f (i + (evA c b i).2.2) (evA c b i).2.1 (ev + 1); omega
section PT
variable {a : AS} {R n : Nat} {c : Nat → Nat}
theorem cperf_spec {pd : PS} {h : HS} (hI : Inv a) (hH : Hc h a) (hn : n ≤ 60) (hu : P_used pd = nI n) (hs : ∀ j, j < n → P_signs pd j = nI (c j) ∧ 33 ≤ c j ∧ c j ≤ 126) (hf : fa (a_R a) c n n 0 0 = -6) (y : YS) (d : DS) : ∃ y' d', f_X3_perform y pd h d = some (y', d') ∧ Y_why y' = nI (ptyA c n a).1 ∧ Y_events y' = nI (ptyA c n a).2.2 ∧ ((ptyA c n a).1 = 0 → Inv (ptyA c n a).2.1 ∧ Hc (D_house d') (ptyA c n a).2.1) := by
  obtain ⟨N, hN, hFU⟩ := FU_ex
  obtain ⟨d1, b1, b2⟩ := begin_spec (d := d) hI hH
  obtain ⟨y', d', p1, p2⟩ := cplay_spec (R := a_R a) hn hu hs h N (n + 1) 0 0 a d1 (Y_set_why (Y_set_events y (0 : Int32)) (0 : Int32)) (by omega) (by omega) (by omega) (by omega) hI rfl (fun _ => hf) b2.1 rfl rfl
  refine ⟨y', d', ?_, p2⟩
  unfold f_X3_perform
  rw [b1, Option.bind_some, hFU]
  exact p1
theorem rparty_spec {z : MS} (hI : Inv a) (hM : Mc (mcore z) a) (hn : n ≤ 60) (hu : M_signs z = nI n) (hs : ∀ j, j < n → M_pad z j = nI (c j) ∧ 33 ≤ c j ∧ c j ≤ 126) (hf : fa (a_R a) c n n 0 0 = -6) : ∃ s', f_X9_goParty z = some (if (ptyA c n a).1 = 0 then -6 else nI (ptyA c n a).2.2, s') ∧ mkeep s' = mkeep z ∧ ((ptyA c n a).1 = 0 → Mx0 s' (ptyA c n a).2.1 lo0 ∧ M_events s' = nI (ptyA c n a).2.2) ∧ ((ptyA c n a).1 ≠ 0 → M_reason s' = nI (ptyA c n a).1) := by
  obtain ⟨N, hN, hFU⟩ := FU_ex
  obtain ⟨w, e1, e2, e3⟩ := asNow_Mx hM
  obtain ⟨w1, ew⟩ : ∃ y, y = M_set_events w 0 := ⟨_, rfl⟩
  obtain ⟨a1, a2, a3, a4⟩ := eev_sx ew
  obtain ⟨s', p1, p2⟩ := rplay_spec (R := a_R a) hn hu hs N (n + 1) 0 0 a w1 (by omega) (by omega) (by omega) hI rfl (fun _ => hf) (a1.trans e2) (e3.sc a1 a2) a4
  refine ⟨s', ?_, p2⟩
  unfold f_X9_goParty
  rw [e1, Option.bind_some, ltA_eq, ← ew, hFU]
  exact p1
/-- the party has a fault, or none, on both sides -/
theorem fa_cases (hn : n ≤ 60) : fa R c n n 0 0 = -6 ∨ ∃ k, k < 1000 ∧ fa R c n n 0 0 = nI k := fa_pos (by omega) n 0 0 (by omega)
end PT
theorem plA_why {c : Nat → Nat} {n R : Nat} (hn : n ≤ 60) : ∀ f i b ev, Inv b → a_R b = R → (i < n → fa R c n (n - i) i 0 = -6) → (plA c n f i b ev).1 ≤ 6
  | 0, _, _, _, _, _, _ => Nat.zero_le _
  | f + 1, i, b, ev, hI, hR, hf => by
    rw [plA_s]
    by_cases c1 : n ≤ i
    · rw [if_pos c1]; exact Nat.zero_le _
    · rw [if_neg c1]
      obtain ⟨o1, o2, o3⟩ := ev_ok hI hR hn (show i < n by omega) (hf (by omega))
      by_cases c2 : (evA c b i).1 = 0
      · obtain ⟨q1, q2, q3⟩ := o3 c2
        rw [if_neg (fun h => h c2)]
        exact plA_why hn f _ _ _ q1 q2 (fun _ => q3)
      · rw [if_pos c2]; exact o1
theorem sim_judge : Sim_judge Rel := by
  intro S z x h
  obtain ⟨⟨a, hI, hH, hM⟩, hp, h3⟩ := id h
  have hH : Hc (K_now S) a := hH
  have hM : Mc (mcore z) a := hM
  have hp : PadR (K_pad S) (M_signs z) (M_pad z) := hp
  obtain ⟨n, c, hn, u1, u2, s1, s2⟩ := PadR.nat hp
  have hR6 := hI.1.2.1
  have hR2 := hI.1.1
  have f1 := flaw_spec hR6 hn u1 s1
  have f2 := faultOf_spec (by omega) hR6 hn hM.1 u2 s2
  have f1 : f_X2_flaw (K_pad S) (H_rooms (K_now S)) = some (fa (a_R a) c n n 0 0) := by rw [hH.1]; exact f1
  rcases num_cases x (n := 2) (by decide) with ⟨j, hj, rfl⟩ | hx
  · have tin : f_X9_in (nI j) 0 1 = some 1 := in_nI (n := 2) hj (by decide)
    have n10 : ¬ (1 : Int32) = 0 := by decide
    rcases fa_cases (R := a_R a) (c := c) hn with hf | ⟨k, hk, hf⟩
    · obtain ⟨y', d', p1, p2, p3, p4⟩ := cperf_spec hI hH hn u1 s1 hf (K_play S) (K_drift S)
      obtain ⟨s', q1, q2, q3, q4⟩ := rparty_spec hI hM hn u2 s2 hf
      have hle : (ptyA c n a).1 ≤ 6 := plA_why hn (n + 1) 0 a 0 hI rfl (fun _ => hf)
      have hev : (ptyA c n a).2.2 ≤ 0 + (n + 1) := pty_ev (n + 1) 0 a 0
      have e1 : f_X8_judge (K_now S) (K_pad S) (K_drift S) (K_play S) (nI j) = some (if (ptyA c n a).1 = 0 then -6 else if j = 0 then nI (ptyA c n a).2.2 else nI (ptyA c n a).1, d', y') := by
        unfold f_X8_judge
        rw [if_neg (nI_pos (by omega)), if_pos (show nI j ≤ (1 : Int32) from nI_le (b := 1) (by omega) (by decide)), f1, Option.bind_some, if_pos hf, p1, Option.bind_some]
        show (if Y_why y' = 0 then some (-6, d', y') else if nI j = 0 then some (Y_events y', d', y') else some (Y_why y', d', y')) = _
        rw [p2, p3]
        by_cases c1 : (ptyA c n a).1 = 0
        · rw [if_pos (show nI (ptyA c n a).1 = 0 by rw [c1]; rfl), if_pos c1]
        · rw [if_neg (show ¬ nI (ptyA c n a).1 = 0 from fun q => c1 ((nI_eq (by omega) (b := 0) (by decide)).mp q)), if_neg c1]
          by_cases c2 : j = 0
          · rw [if_pos (show nI j = 0 by rw [c2]; rfl), if_pos c2]
          · rw [if_neg (show ¬ nI j = 0 from fun q => c2 ((nI_eq (by omega) (b := 0) (by decide)).mp q)), if_neg c2]
      have e2 : f_X9_judge z (nI j) = some (if (ptyA c n a).1 = 0 then -6 else if j = 0 then nI (ptyA c n a).2.2 else nI (ptyA c n a).1, s') := by
        unfold f_X9_judge X9_judge_J35
        rw [tin, Option.bind_some, if_neg n10, f2, Option.bind_some, hf, if_pos (by decide), q1, Option.bind_some]
        by_cases c1 : (ptyA c n a).1 = 0
        · simp only [c1, if_true]
          rw [if_pos (by decide)]
        · simp only [c1, if_false]
          rw [if_neg (nI_pos (by omega)), q4 c1]
          by_cases c2 : j = 0
          · rw [if_pos (show nI j = 0 by rw [c2]; rfl), if_pos c2]
          · rw [if_neg (show ¬ nI j = 0 from fun q => c2 ((nI_eq (by omega) (b := 0) (by decide)).mp q)), if_neg c2]
      exact ⟨_, _, e1, e2, rfl, h.to rfl q2⟩
    · refine ⟨(-5, K_drift S, K_play S), (-5, z), ?_, ?_, rfl, h.to rfl rfl⟩
      · unfold f_X8_judge
        rw [if_neg (nI_pos (by omega)), if_pos (show nI j ≤ (1 : Int32) from nI_le (b := 1) (by omega) (by decide)), f1, Option.bind_some, hf, if_neg (n6 hk)]
      · unfold f_X9_judge
        rw [tin, Option.bind_some, if_neg n10, f2, Option.bind_some, hf, if_neg (nI_pos (by omega))]
  · refine ⟨(-2, K_drift S, K_play S), (-2, z), ?_, ?_, rfl, h.to rfl rfl⟩
    · unfold f_X8_judge
      by_cases c : x < 0
      · rw [if_pos c]
      · rw [if_neg c, if_neg (show ¬ x ≤ (1 : Int32) from fun q => absurd (hx.resolve_left c) (Int32.not_le.mpr (Int32.lt_of_le_of_lt q (by decide))))]
    · unfold f_X9_judge; rw [show f_X9_in x 0 1 = some 0 from in_no (n := 2) (by decide) (by decide) hx, Option.bind_some, if_pos rfl]
end
/-! 96.done -/
section
/-! done, behind -/
theorem sd_place {z z' : MS} {f : Nat → Int32} (h : z' = M_set_place z f) : msc z' = msc z ∧ mrest z' = mrest z := by subst h; exact ⟨rfl, rfl⟩
theorem sd_busy {z z' : MS} {f : Nat → Int32} (h : z' = M_set_busy z f) : msc z' = msc z ∧ mrest z' = mrest z := by subst h; exact ⟨rfl, rfl⟩
theorem sd_with {z z' : MS} {f : Nat → Int32} (h : z' = M_set_with z f) : msc z' = msc z ∧ mrest z' = mrest z := by subst h; exact ⟨rfl, rfl⟩
theorem sd_left {z z' : MS} {f : Nat → Int32} (h : z' = M_set_left z f) : msc z' = msc z ∧ mrest z' = mrest z := by subst h; exact ⟨rfl, rfl⟩
theorem sd_things {z z' : MS} {f : Nat → Int32} (h : z' = M_set_things z f) : msc z' = msc z ∧ mrest z' = mrest z := by subst h; exact ⟨rfl, rfl⟩
theorem sd_signs {z z' : MS} {v : Int32} (h : z' = M_set_signs z v) : msc z' = msc z ∧ mrest z' = mrest z ∧ mkeep z' = (mcore z, v, M_pad z, M_image z, M_isKept z) := by subst h; exact ⟨rfl, rfl, rfl⟩
/-- so much of the present is made to last -/
def DnOk (w y : MS) (n m : Nat) : Prop := msc y = msc w ∧ mrest y = mrest w ∧ ∃ th pl bs wi lf, mkeep y = ((M_rooms w, th, M_size w, M_chairs w, M_width w, M_there w, M_likes w, pl, bs, wi, lf, M_sights w, M_sight w), M_signs w, M_pad w, M_image w, M_isKept w) ∧ (∀ j, j < n → pl j = M_at w j ∧ bs j = M_busyNow w j ∧ wi j = M_withNow w j ∧ lf j = M_leftNow w j) ∧ ∀ k, k < m → th k = M_thingsNow w k
def DnEnd (w : MS) (r : Option (Int32 × MS)) : Prop := ∃ w' th pl bs wi lf, r = some (M_events w, w') ∧ mkeep w' = ((M_rooms w, th, M_size w, M_chairs w, M_width w, M_there w, M_likes w, pl, bs, wi, lf, M_sights w, M_sight w), 0, M_pad w, M_image w, M_isKept w) ∧ (∀ j, j < 8 → pl j = M_at w j ∧ bs j = M_busyNow w j ∧ wi j = M_withNow w j ∧ lf j = M_leftNow w j) ∧ ∀ k, k < 24 → th k = M_thingsNow w k
theorem done_2 {w : MS} {N : Nat} (hN : 60000 < N) (y : MS) (h : DnOk w y 8 0) : DnEnd w (it X9_done_B74 (fun _ _ => none) N y (nI 0)) := by
  refine it_rule (bot := fun _ _ => none) 24 (fun i (y : MS) => DnOk w y 8 i) (fun k i y => DnEnd w (k y (nI i))) ?_ ?_ N 0 y (by omega) (by omega) h
  · intro k y ⟨h1, h2, th, pl, bs, wi, lf, h3, h4, h5⟩
    obtain ⟨y1, e1⟩ : ∃ x, x = M_set_signs y 0 := ⟨_, rfl⟩
    obtain ⟨s1, s2, s3⟩ := sd_signs e1
    refine ⟨y1, th, pl, bs, wi, lf, ?_, ?_, h4, h5⟩
    · unfold X9_done_B74
      have ev : M_events y1 = M_events w := (rvx (s2.trans h2)).2
      rw [if_pos (by decide), ltA_eq, ← e1, ev]
    · rw [s3]
      exact congrArg (fun m : MKK => (m.1, (0 : Int32), m.2.2.1, m.2.2.2.1, m.2.2.2.2)) h3
  · intro k i y hi ⟨h1, h2, th, pl, bs, wi, lf, h3, h4, h5⟩ hk
    obtain ⟨y1, e1⟩ : ∃ x, x = M_set_things y (upd (M_things y) i (M_thingsNow y i)) := ⟨_, rfl⟩
    obtain ⟨s1, s2⟩ := sd_things e1
    have k1 := st_things h3 e1
    have ht : M_things y = th := congrArg (fun m => m.1.2.1) h3
    have hn : M_thingsNow y = M_thingsNow w := congrArg (fun m => m.2.2.2.2.1) h1
    have := hk y1 ⟨s1.trans h1, s2.trans h2, _, pl, bs, wi, lf, k1, h4, up_eq (g := M_thingsNow w) (by rw [hn]) (by rw [ht]; exact h5)⟩
    unfold X9_done_B74
    rw [if_neg (show ¬ (24 : Int32) ≤ nI i from nlit (by decide) hi), chk_nI hi (by decide), chk_nI hi (by decide), nI_clamp (by omega), ltA_eq, ← e1, nI_1]
    exact this
theorem done_1 (w : MS) : DnEnd w (it X9_done_B12 (fun _ _ => none) FU w 0) := by
  obtain ⟨N, hN, hFU⟩ := FU_ex
  rw [hFU]
  refine it_rule (bot := fun _ _ => none) 8 (fun i (y : MS) => DnOk w y i 0) (fun k i y => DnEnd w (k y (nI i))) ?_ ?_ N 0 w (by omega) (by omega) ⟨rfl, rfl, M_things w, M_place w, M_busy w, M_with w, M_left w, rfl, fun j hj => absurd hj (Nat.not_lt_zero _), fun j hj => absurd hj (Nat.not_lt_zero _)⟩
  · intro k y hy
    unfold X9_done_B12
    rw [if_pos (by decide), hFU]
    exact done_2 hN y hy
  · intro k i y hi ⟨h1, h2, th, pl, bs, wi, lf, h3, h4, h5⟩ hk
    obtain ⟨y1, e1⟩ : ∃ x, x = M_set_place y (upd (M_place y) i (M_at y i)) := ⟨_, rfl⟩
    obtain ⟨s1, r1⟩ := sd_place e1
    have k1 := st_place h3 e1
    obtain ⟨y2, e2⟩ : ∃ x, x = M_set_busy y1 (upd (M_busy y1) i (M_busyNow y1 i)) := ⟨_, rfl⟩
    obtain ⟨s2, r2⟩ := sd_busy e2
    have k2 := st_busy k1 e2
    obtain ⟨y3, e3⟩ : ∃ x, x = M_set_with y2 (upd (M_with y2) i (M_withNow y2 i)) := ⟨_, rfl⟩
    obtain ⟨s3, r3⟩ := sd_with e3
    have k3 := st_with k2 e3
    obtain ⟨y4, e4⟩ : ∃ x, x = M_set_left y3 (upd (M_left y3) i (M_leftNow y3 i)) := ⟨_, rfl⟩
    obtain ⟨s4, r4⟩ := sd_left e4
    have k4 := st_left k3 e4
    have m1 := s1.trans h1
    have m2 := s2.trans m1
    have m3 := s3.trans m2
    have a0 : M_at y = M_at w := congrArg (fun m => m.1) h1
    have a1 : M_busyNow y1 = M_busyNow w := congrArg (fun m => m.2.1) m1
    have a2 : M_withNow y2 = M_withNow w := congrArg (fun m => m.2.2.1) m2
    have a3 : M_leftNow y3 = M_leftNow w := congrArg (fun m => m.2.2.2.1) m3
    have q1 : M_place y = pl := congrArg (fun m => m.1.2.2.2.2.2.2.2.1) h3
    have q2 : M_busy y1 = bs := congrArg (fun m => m.1.2.2.2.2.2.2.2.2.1) k1
    have q3 : M_with y2 = wi := congrArg (fun m => m.1.2.2.2.2.2.2.2.2.2.1) k2
    have q4 : M_left y3 = lf := congrArg (fun m => m.1.2.2.2.2.2.2.2.2.2.2.1) k3
    have u1 := up_eq (f := M_place y) (v := M_at y i) (g := M_at w) (i := i) (by rw [a0]) (by rw [q1]; exact fun j hj => (h4 j hj).1)
    have u2 := up_eq (f := M_busy y1) (v := M_busyNow y1 i) (g := M_busyNow w) (i := i) (by rw [a1]) (by rw [q2]; exact fun j hj => (h4 j hj).2.1)
    have u3 := up_eq (f := M_with y2) (v := M_withNow y2 i) (g := M_withNow w) (i := i) (by rw [a2]) (by rw [q3]; exact fun j hj => (h4 j hj).2.2.1)
    have u4 := up_eq (f := M_left y3) (v := M_leftNow y3 i) (g := M_leftNow w) (i := i) (by rw [a3]) (by rw [q4]; exact fun j hj => (h4 j hj).2.2.2)
    have := hk y4 ⟨s4.trans m3, ((r4.trans r3).trans r2).trans (r1.trans h2), th, _, _, _, _, k4, fun j hj => ⟨u1 j hj, u2 j hj, u3 j hj, u4 j hj⟩, h5⟩
    unfold X9_done_B12
    rw [if_neg (show ¬ (8 : Int32) ≤ nI i from nlit (by decide) hi), chk_nI hi (by decide), chk_nI hi (by decide), nI_clamp (by omega), ltA_eq, ← e1, chk_nI hi (by decide), chk_nI hi (by decide), ltA_eq, ← e2, chk_nI hi (by decide), chk_nI hi (by decide), ltA_eq, ← e3, chk_nI hi (by decide), chk_nI hi (by decide), ltA_eq, ← e4, nI_1]
    exact this
theorem bar_spec {z : MS} {a : AS} {n : Nat} {c : Nat → Nat} (hI : Inv a) (hM : Mc (mcore z) a) (hn : n ≤ 60) (hu : M_signs z = nI n) (hs : ∀ j, j < n → M_pad z j = nI (c j) ∧ 33 ≤ c j ∧ c j ≤ 126) : ∃ s', f_X9_barOfParty z = some (if fa (a_R a) c n n 0 0 = -6 ∧ (ptyA c n a).1 = 0 then 0 else -5, s') ∧ mkeep s' = mkeep z ∧ (fa (a_R a) c n n 0 0 = -6 ∧ (ptyA c n a).1 = 0 → Mx0 s' (ptyA c n a).2.1 lo0 ∧ M_events s' = nI (ptyA c n a).2.2) := by
  have hR6 := hI.1.2.1
  have hR2 := hI.1.1
  have f2 := faultOf_spec (by omega) hR6 hn hM.1 hu hs
  unfold f_X9_barOfParty X9_barOfParty_J14
  rw [f2, Option.bind_some]
  rcases fa_cases (R := a_R a) (c := c) hn with hf | ⟨k, hk, hf⟩
  · obtain ⟨s', q1, q2, q3, q4⟩ := rparty_spec hI hM hn hu hs hf
    have hev : (ptyA c n a).2.2 ≤ 0 + (n + 1) := pty_ev (n + 1) 0 a 0
    refine ⟨s', ?_, q2, fun h => q3 h.2⟩
    rw [hf, if_neg (by decide), q1, Option.bind_some]
    by_cases c1 : (ptyA c n a).1 = 0
    · have e : (if (ptyA c n a).1 = 0 then (-6 : Int32) else nI (ptyA c n a).2.2) = -6 := if_pos c1
      rw [e, if_pos (show (-6 : Int32) = -6 ∧ (ptyA c n a).1 = 0 from ⟨rfl, c1⟩)]; rfl
    · have e : (if (ptyA c n a).1 = 0 then (-6 : Int32) else nI (ptyA c n a).2.2) = nI (ptyA c n a).2.2 := if_neg c1
      rw [e, if_neg (show ¬ ((-6 : Int32) = -6 ∧ (ptyA c n a).1 = 0) from fun h => c1 h.2)]
      show (if nI (ptyA c n a).2.2 < 0 then some ((0 : Int32), s') else some (-5, s')) = _
      rw [if_neg (nI_pos (by omega))]
  · refine ⟨z, ?_, rfl, fun h => absurd h.1 (by rw [hf]; exact n6 hk)⟩
    rw [hf, if_pos (nI_pos' (by omega)), if_neg (fun h => n6 hk h.1)]
theorem out_spec {S : KDS} {a : AS} {n : Nat} {c : Nat → Nat} (hI : Inv a) (hH : Hc (K_now S) a) (hn : n ≤ 60) (hu : P_used (K_pad S) = nI n) (hs : ∀ j, j < n → P_signs (K_pad S) j = nI (c j) ∧ 33 ≤ c j ∧ c j ≤ 126) : ∃ y' d', f_X8_playsOut (K_now S) (K_pad S) (K_drift S) (K_play S) = some (if fa (a_R a) c n n 0 0 = -6 ∧ (ptyA c n a).1 = 0 then 1 else 0, d', y') ∧ (fa (a_R a) c n n 0 0 = -6 ∧ (ptyA c n a).1 = 0 → Y_events y' = nI (ptyA c n a).2.2 ∧ Inv (ptyA c n a).2.1 ∧ Hc (D_house d') (ptyA c n a).2.1) := by
  have hR6 := hI.1.2.1
  have f1 : f_X2_flaw (K_pad S) (H_rooms (K_now S)) = some (fa (a_R a) c n n 0 0) := by rw [hH.1]; exact flaw_spec hR6 hn hu hs
  unfold f_X8_playsOut
  rw [f1, Option.bind_some]
  rcases fa_cases (R := a_R a) (c := c) hn with hf | ⟨k, hk, hf⟩
  · obtain ⟨y', d', p1, p2, p3, p4⟩ := cperf_spec hI hH hn hu hs hf (K_play S) (K_drift S)
    have hle : (ptyA c n a).1 ≤ 6 := plA_why hn (n + 1) 0 a 0 hI rfl (fun _ => hf)
    refine ⟨y', d', ?_, fun h => ⟨p3, p4 h.2⟩⟩
    rw [if_pos hf, p1, Option.bind_some]
    show (if Y_why y' = 0 then some ((1 : Int32), d', y') else some ((0 : Int32), d', y')) = _
    rw [p2]
    by_cases c1 : (ptyA c n a).1 = 0
    · rw [if_pos (show nI (ptyA c n a).1 = 0 by rw [c1]; rfl), if_pos ⟨hf, c1⟩]
    · rw [if_neg (show ¬ nI (ptyA c n a).1 = 0 from fun q => c1 ((nI_eq (by omega) (b := 0) (by decide)).mp q)), if_neg (fun h => c1 h.2)]
  · refine ⟨K_play S, K_drift S, ?_, fun h => absurd h.1 (by rw [hf]; exact n6 hk)⟩
    rw [hf, if_neg (n6 hk), if_neg (fun h => n6 hk h.1)]
theorem sim_done : Sim_done Rel := by
  intro S z h
  obtain ⟨⟨a, hI, hH, hM⟩, hp, h3⟩ := id h
  have hH : Hc (K_now S) a := hH
  have hM : Mc (mcore z) a := hM
  have hp : PadR (K_pad S) (M_signs z) (M_pad z) := hp
  obtain ⟨n, c, hn, u1, u2, s1, s2⟩ := PadR.nat hp
  obtain ⟨y', d', p1, p2⟩ := out_spec hI hH hn u1 s1
  obtain ⟨s', q1, q2, q3⟩ := bar_spec hI hM hn u2 s2
  by_cases c1 : fa (a_R a) c n n 0 0 = -6 ∧ (ptyA c n a).1 = 0
  · obtain ⟨r1, r2, r3⟩ := p2 c1
    obtain ⟨t1, t2⟩ := q3 c1
    obtain ⟨g, g1, g2⟩ := copy_Hc (h := K_now S) r2.1.2.2.2 r3
    obtain ⟨w', th, pl, bs, wi, lf, w1, w2, w3, w4⟩ := done_1 s'
    rw [if_pos c1] at p1 q1
    refine ⟨(nI (ptyA c n a).2.2, g, P_set_used (K_pad S) 0, d', y'), (nI (ptyA c n a).2.2, w'), ?_, ?_, rfl, ?_⟩
    · unfold f_X8_done
      rw [p1, Option.bind_some]
      show (if (1 : Int32) = 0 then _ else (f_X1_copy (K_now S) (D_house d')).bind _) = _
      rw [if_neg (by decide), g1, Option.bind_some]
      show some (Y_events y', g, P_set_used (K_pad S) 0, d', y') = _
      rw [r1]
    · unfold f_X9_done
      rw [q1, Option.bind_some]
      show (if (0 : Int32) ≤ 0 then it X9_done_B12 (fun _ _ => none) FU s' 0 else _) = _
      rw [if_pos (by decide), w1, t2]
    · have ks : (mkeep w').2 = (0, (mkeep z).2.2) := by rw [w2, ← q2]; rfl
      have hMn : Mc (mkeep w').1 (ptyA c n a).2.1 := by
        refine Mc_congr r2.1.2.2.2 ?_ t1.1
        rw [w2]
        exact ⟨rfl, rfl, rfl, w4, fun _ _ => rfl, fun _ _ => rfl, w3, fun _ _ => rfl, fun _ _ => ⟨rfl, rfl⟩⟩
      have e : mkeep w' = ((mkeep w').1, 0, (mkeep z).2.2) := by rw [← ks]
      unfold Rel
      rw [e]
      exact ⟨⟨_, r2, g2, hMn⟩, ⟨0, by decide, rfl, rfl, fun i hi => absurd hi (Nat.not_lt_zero _)⟩, h3⟩
  · rw [if_neg c1] at p1 q1
    refine ⟨(-5, K_now S, K_pad S, d', y'), (-5, s'), ?_, ?_, rfl, h.to rfl q2⟩
    · unfold f_X8_done
      rw [p1, Option.bind_some]; rfl
    · unfold f_X9_done
      rw [q1, Option.bind_some]; rfl
theorem sim_behind : Sim_behind Rel := by
  intro S z x1 x2 h
  obtain ⟨⟨a, hI, hH, hM⟩, hp, h3⟩ := id h
  have hH : Hc (K_now S) a := hH
  have hM : Mc (mcore z) a := hM
  have hp : PadR (K_pad S) (M_signs z) (M_pad z) := hp
  rcases th_cases hI hH hM x1 with ⟨g, hg, rfl, hg1, t1, t2⟩ | ⟨t1, t2⟩
  · rcases num_cases x2 (n := 4) (by decide) with ⟨t, ht, rfl⟩ | hx
    · obtain ⟨n, c, hn, u1, u2, s1, s2⟩ := PadR.nat hp
      obtain ⟨y', d', p1, p2⟩ := out_spec hI hH hn u1 s1
      obtain ⟨s', q1, q2, q3⟩ := bar_spec hI hM hn u2 s2
      have tin : f_X9_in (nI t) 0 3 = some 1 := in_nI (n := 4) ht (by decide)
      by_cases c1 : fa (a_R a) c n n 0 0 = -6 ∧ (ptyA c n a).1 = 0
      · obtain ⟨r1, r2, r3⟩ := p2 c1
        obtain ⟨v1, v2⟩ := q3 c1
        rw [if_pos c1] at p1 q1
        have hT : a_T (ptyA c n a).2.1 = a_T a := by
          have e1 : nI (a_T (ptyA c n a).2.1) = nI (a_T a) := by
            rw [← show M_there s' = nI (a_T (ptyA c n a).2.1) from v1.1.2.1, ← m_there hM]
            exact congrArg (fun m => m.1.2.2.2.2.2.1) q2
          exact (nI_eq (by have := r2.1.2.2.1; omega) (by have := hI.1.2.2.1; omega)).mp e1
        have hi2 : a_is (ptyA c n a).2.1 g = true := by unfold a_is; rw [hT]; exact hg1
        refine ⟨(tellA (ptyA c n a).2.1 g t, d', y'), (tellA (ptyA c n a).2.1 g t, s'), ?_, ?_, rfl, h.to rfl q2⟩
        · unfold f_X8_behind
          rw [t1, Option.bind_some, if_neg (show ¬ (1 : Int32) = 0 by decide), if_neg (nI_pos (by omega)), if_pos (show nI t ≤ (3 : Int32) from nI_le (b := 3) (by omega) (by decide)), p1, Option.bind_some]
          show (if (1 : Int32) = 0 then _ else (f_X1_tellGuest (D_house d') (nI g) (nI t)).bind _) = _
          rw [if_neg (by decide), tell_spec r3 hg ht, Option.bind_some]
        · unfold f_X9_behind
          rw [t2, Option.bind_some, if_neg (show ¬ (1 : Int32) = 0 by decide), tin, Option.bind_some, if_neg (show ¬ (1 : Int32) = 0 by decide), q1, Option.bind_some]
          show (if (0 : Int32) ≤ 0 then (f_X9_stateNow s' (nI g) (nI t)).bind _ else _) = _
          rw [if_pos (by decide), stateNow_spec r2 v1.1 hg hi2 ht, Option.bind_some]
      · rw [if_neg c1] at p1 q1
        refine ⟨(-5, d', y'), (-5, s'), ?_, ?_, rfl, h.to rfl q2⟩
        · unfold f_X8_behind
          rw [t1, Option.bind_some, if_neg (show ¬ (1 : Int32) = 0 by decide), if_neg (nI_pos (by omega)), if_pos (show nI t ≤ (3 : Int32) from nI_le (b := 3) (by omega) (by decide)), p1, Option.bind_some]
          rfl
        · unfold f_X9_behind
          rw [t2, Option.bind_some, if_neg (show ¬ (1 : Int32) = 0 by decide), tin, Option.bind_some, if_neg (show ¬ (1 : Int32) = 0 by decide), q1, Option.bind_some]
          rfl
    · refine ⟨(-2, K_drift S, K_play S), (-2, z), ?_, ?_, rfl, h.to rfl rfl⟩
      · unfold f_X8_behind
        rw [t1, Option.bind_some, if_neg (show ¬ (1 : Int32) = 0 by decide)]
        by_cases c : x2 < 0
        · rw [if_pos c]
        · rw [if_neg c, if_neg (show ¬ x2 ≤ (3 : Int32) from fun q => absurd (hx.resolve_left c) (Int32.not_le.mpr (Int32.lt_of_le_of_lt q (by decide))))]
      · unfold f_X9_behind
        rw [t2, Option.bind_some, if_neg (show ¬ (1 : Int32) = 0 by decide), show f_X9_in x2 0 3 = some 0 from in_no (n := 4) (by decide) (by decide) hx, Option.bind_some, if_pos rfl]
  · refine ⟨(-1, K_drift S, K_play S), (-1, z), ?_, ?_, rfl, h.to rfl rfl⟩
    · unfold f_X8_behind; rw [t1, Option.bind_some, if_pos rfl]
    · unfold f_X9_behind; rw [t2, Option.bind_some, if_pos rfl]
end
