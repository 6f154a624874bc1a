/-! the events of a party, one by one -/
theorem Inv_sit {b : AS} (hI : Inv b) {g : Nat} (hg : g < 8) (ig : a_is b g = true) (bg : a_bs b g = 0) : Inv (eng b g 2 (-6) 0) := by
  obtain ⟨i1, i2, i3, i4, i5, i6, i7, i8, i9, i10, i11⟩ := id hI
  unfold Inv
  simp only [eng_R, eng_T, eng_k, eng_th, eng_sz, eng_ch, eng_wd, eng_lk, eng_pl, eng_sg, eng_sr, eng_is, eng_in, eng_bs, eng_mt, eng_lf]
  refine ⟨i1, i2, i3, i4, ?_, ?_, ?_, ?_, ?_, i10, i11⟩
  · intro j hj e
    have n1 : j ≠ g := fun h => by rw [h, ig] at e; cases e
    rw [if_neg n1]; exact i5 j hj e
  · intro j hj e
    obtain ⟨q1, q2, q3⟩ := i6 j hj e
    exact ⟨q1, by split; decide; exact q2, q3⟩
  · intro j hj e
    by_cases c : j = g
    · rw [if_pos c, if_pos c]; exact ⟨rfl, rfl⟩
    · rw [if_neg c] at e; rw [if_neg c, if_neg c]; exact i7 j hj e
  · intro j hj e
    have c : j ≠ g := fun h => by rw [if_pos h] at e; cases e
    rw [if_neg c] at e; rw [if_neg c, if_neg c]
    obtain ⟨i, k1, k2, k3, k4, k5, k6, k7⟩ := i8 j hj e
    have n1 : i ≠ g := fun h => by rw [h] at k5; omega
    refine ⟨i, k1, k2, k3, k4, ?_, ?_, ?_⟩
    · rw [if_neg n1]; exact k5
    · rw [if_neg n1]; exact k6
    · rw [if_neg n1]; exact k7
  · intro j hj e
    have c : j ≠ g := fun h => by rw [if_pos h] at e; cases e
    rw [if_neg c] at e; rw [if_neg c, if_neg c]; exact i9 j hj e
theorem Inv_blk {b : AS} (hI : Inv b) {g q : Nat} (hg : g < 8) (ig : a_is b g = true) (bg : a_bs b g = 0) (hq : q < a_R b) (hw : 1 ≤ a_wd b (a_pl b g) q) : Inv (eng b g 3 (q : Int) 0) := by
  obtain ⟨i1, i2, i3, i4, i5, i6, i7, i8, i9, i10, i11⟩ := id hI
  have hpl := (i6 g hg ig).1
  have hne : q ≠ a_pl b g := fun h => by rw [h, i4 _ (by omega)] at hw; omega
  unfold Inv
  simp only [eng_R, eng_T, eng_k, eng_th, eng_sz, eng_ch, eng_wd, eng_lk, eng_pl, eng_sg, eng_sr, eng_is, eng_in, eng_bs, eng_mt, eng_lf]
  refine ⟨i1, i2, i3, i4, ?_, ?_, ?_, ?_, ?_, i10, i11⟩
  · intro j hj e
    have n1 : j ≠ g := fun h => by rw [h, ig] at e; cases e
    rw [if_neg n1]; exact i5 j hj e
  · intro j hj e
    obtain ⟨q1, q2, q3⟩ := i6 j hj e
    exact ⟨q1, by split; decide; exact q2, q3⟩
  · intro j hj e
    have c : j ≠ g := fun h => by rw [if_pos h] at e; omega
    rw [if_neg c] at e; rw [if_neg c, if_neg c]; exact i7 j hj e
  · intro j hj e
    have c : j ≠ g := fun h => by rw [if_pos h] at e; cases e
    rw [if_neg c] at e; rw [if_neg c, if_neg c]
    obtain ⟨i, k1, k2, k3, k4, k5, k6, k7⟩ := i8 j hj e
    have n1 : i ≠ g := fun h => by rw [h] at k5; omega
    refine ⟨i, k1, k2, k3, k4, ?_, ?_, ?_⟩
    · rw [if_neg n1]; exact k5
    · rw [if_neg n1]; exact k6
    · rw [if_neg n1]; exact k7
  · intro j hj e
    by_cases c : j = g
    · rw [if_pos c, if_pos c]; exact ⟨rfl, q, hq, by rw [c]; exact hne, rfl, by rw [c]; exact hw⟩
    · rw [if_neg c] at e; rw [if_neg c, if_neg c]; exact i9 j hj e
theorem Inv_rs {b : AS} (hI : Inv b) {g : Nat} (hg : g < 8) : Inv (rs b g) := by
  obtain ⟨i1, i2, i3, i4, i5, i6, i7, i8, i9, i10, i11⟩ := id hI
  have e1 : ∀ j, a_is (rs b g) j = a_is b j := fun _ => rfl
  have e2 : ∀ r, a_in (rs b g) r = a_in b r := fun _ => rfl
  have hgg : offp b g g = true := by unfold offp; simp
  unfold Inv
  simp only [rs_R, rs_T, rs_k, rs_th, rs_sz, rs_ch, rs_wd, rs_lk, rs_pl, rs_sg, rs_sr, rs_bs, rs_mt, rs_lf, e1, e2]
  refine ⟨i1, i2, i3, i4, ?_, ?_, ?_, ?_, ?_, i10, i11⟩
  · intro j hj e
    obtain ⟨q1, q2, q3⟩ := i5 j hj e
    exact ⟨q1, by split; rfl; exact q2, q3⟩
  · intro j hj e
    obtain ⟨q1, q2, q3⟩ := i6 j hj e
    exact ⟨q1, by split; decide; exact q2, q3⟩
  · intro j hj e
    cases c : offp b g j
    · rw [c] at e; simp only [Bool.false_eq_true, if_false] at e ⊢; exact i7 j hj e
    · simp only [if_true]; exact ⟨trivial, trivial⟩
  · intro j hj e
    cases c : offp b g j
    · rw [c] at e
      simp only [Bool.false_eq_true, if_false] at e ⊢
      obtain ⟨i, k1, k2, k3, k4, k5, k6, k7⟩ := i8 j hj e
      have hjg : j ≠ g := fun q => by subst q; rw [hgg] at c; cases c
      have hig : i ≠ g := fun q => by
        subst q
        have := offp_sym hI hj e k3 hg; rw [this] at c; cases c
      have hio : offp b g i = false := by
        cases q : offp b g i
        · rfl
        · exfalso
          unfold offp at q
          simp only [Bool.or_eq_true, Bool.and_eq_true, beq_iff_eq] at q
          rcases q with q | ⟨q1, q2⟩
          · exact hig q
          · obtain ⟨i', l1, l2, l3, l4, l5, l6, -⟩ := i8 g hg q1
            have : i' = i := by omega
            subst this
            omega
      refine ⟨i, k1, k2, k3, k4, ?_⟩
      rw [hio]; simp only [Bool.false_eq_true, if_false]; exact ⟨k5, k6, k7⟩
    · rw [c] at e; simp at e
  · intro j hj e
    cases c : offp b g j
    · rw [c] at e
      simp only [Bool.false_eq_true, if_false] at e ⊢
      exact i9 j hj e
    · rw [c] at e; simp at e
/-- why one can't sit, rise, stand in a door -/
def wsA (b : AS) (g : Nat) : Nat := if a_is b g = false then 1 else if a_bs b g ≠ 0 then 2 else if a_sit b (a_pl b g) < a_ch b (a_pl b g) then 0 else 4
def wrA (b : AS) (g : Nat) : Nat := if a_is b g = false then 1 else if a_bs b g = 0 then 2 else 0
def wbA (b : AS) (g q : Nat) : Nat := if a_is b g = false then 1 else if a_bs b g ≠ 0 then 2 else if a_wd b (a_pl b g) q = 0 then 5 else 0
theorem cws_spec {h : HS} {b : AS} (hI : Inv b) (hH : Hc h b) {g : Nat} (hg : g < 8) : f_X1_whyNotSit h (nI g) = some (nI (wsA b g)) := by
  have hb := bs_lt hI hg
  have hp := pl_lt hI hg
  obtain ⟨p1, p2, -⟩ := hH.2.2.2.2.2.1 g hg
  have hc := (hH.2.2.2.1 (a_pl b g) hp).2.2
  have c9 := (hI.2.1 (a_pl b g) hp).2.2.2
  have s8 : a_sit b (a_pl b g) ≤ 8 := cnt_le _ 8
  unfold f_X1_whyNotSit wsA
  rw [th_at hI hH hg, Option.bind_some, chk_nI hg (by decide), chk_nI hg (by decide), nI_clamp (by omega), p1, p2, sitters_spec hI hH (by omega), Option.bind_some, show (5 : Int32) = nI 5 from rfl, ix6, chk_nI (by omega) (by decide), nI_clamp (by omega), hc, b10]
  simp (disch := omega) only [s_lit, p_eq, p_lt]
  cases a_is b g
  · rfl
  · by_cases c1 : a_bs b g = 0 <;> by_cases c2 : a_sit b (a_pl b g) < a_ch b (a_pl b g) <;> simp [c1, c2]
theorem cwr_spec {h : HS} {b : AS} (hI : Inv b) (hH : Hc h b) {g : Nat} (hg : g < 8) : f_X1_whyNotRise h (nI g) = some (nI (wrA b g)) := by
  have hb := bs_lt hI hg
  obtain ⟨p1, p2, -⟩ := hH.2.2.2.2.2.1 g hg
  unfold f_X1_whyNotRise wrA
  rw [th_at hI hH hg, Option.bind_some, chk_nI hg (by decide), nI_clamp (by omega), p2, b10]
  simp (disch := omega) only [s_lit, p_eq]
  cases a_is b g
  · rfl
  · by_cases c1 : a_bs b g = 0 <;> simp [c1]
theorem cwb_spec {h : HS} {b : AS} (hI : Inv b) (hH : Hc h b) {g q : Nat} (hg : g < 8) (hq : q < 6) : f_X1_whyNotBlock h (nI g) (nI q) = some (nI (wbA b g q)) := by
  have hb := bs_lt hI hg
  have hp := pl_lt hI hg
  have w3 := (hI.2.2.1 (a_pl b g) q hp hq).1
  obtain ⟨p1, p2, -⟩ := hH.2.2.2.2.2.1 g hg
  unfold f_X1_whyNotBlock wbA
  rw [th_at hI hH hg, Option.bind_some, chk_nI hg (by decide), chk_nI hg (by decide), nI_clamp (by omega), p1, p2, width_spec hH hp hq, Option.bind_some, b10]
  simp (disch := omega) only [s_lit, p_eq]
  cases a_is b g
  · rfl
  · by_cases c1 : a_bs b g = 0 <;> by_cases c2 : a_wd b (a_pl b g) q = 0 <;> simp [c1, c2]
theorem rsit_spec {w : MS} {b : AS} (hI : Inv b) (hM : Mc (mnow w) b) {r : Nat} (hr : r < 6) : f_X9_sittingIn w (nI r) = some (nI (a_sit b r)) := by
  obtain ⟨N, hN, hFU⟩ := FU_ex
  have hT := hI.1.2.2.1
  have et : M_there w = nI (a_T b) := hM.2.1
  unfold f_X9_sittingIn a_sit
  rw [hFU]
  refine it_rule (bot := fun _ _ _ _ => none) 8 (fun i (n : Int32) => n = nI (cnt (fun j => (a_is b j && a_pl b j == r) && a_bs b j == 2) i)) (fun k i n => k w (nI r) n (nI i) = some (nI (cnt (fun j => (a_is b j && a_pl b j == r) && a_bs b j == 2) 8))) ?_ ?_ N 0 0 (by omega) (by omega) rfl
  · intro k n hn
    unfold X9_sittingIn_B4
    rw [if_pos (by decide), hn]
  · intro k i n hi hn hk
    have k0 : ((a_is b i && a_pl b i == r) && a_bs b i == 2) = false → k w (nI r) (n + 0) (nI (i + 1)) = some (nI (cnt (fun j => (a_is b j && a_pl b j == r) && a_bs b j == 2) 8)) := fun h => hk _ (by rw [hn, cnt_s, h]; simp)
    have k1 : ((a_is b i && a_pl b i == r) && a_bs b i == 2) = true → k w (nI r) (n + 1) (nI (i + 1)) = some (nI (cnt (fun j => (a_is b j && a_pl b j == r) && a_bs b j == 2) 8)) := fun h => hk _ (by rw [hn, cnt_s, h, nI_1]; rfl)
    have hb := bs_lt hI hi
    have hp := pl_lt hI hi
    unfold X9_sittingIn_B4 X9_sittingIn_J46 X9_sittingIn_J47
    rw [if_neg (show ¬ (8 : Int32) ≤ nI i from nlit (by decide) hi), et, has_b hT hi, Option.bind_some, nI_1]
    cases e : (a_T b).testBit i
    · have e' : a_is b i = false := e
      rw [if_pos (by decide)]; exact k0 (by rw [e']; rfl)
    · have e' : a_is b i = true := e
      obtain ⟨p1, p2, -⟩ := gt_now hM hi e'
      rw [if_neg (by decide), chk_nI hi (by decide), chk_nI hi (by decide), nI_clamp (by omega), p1, p2]
      by_cases c1 : a_bs b i = 2
      · rw [if_pos (show nI (a_bs b i) = (2 : Int32) by rw [c1]; rfl)]
        by_cases c2 : a_pl b i = r
        · rw [if_pos (by rw [c2])]; exact k1 (by simp [e', c1, c2])
        · rw [if_neg (fun h => c2 ((nI_eq (by omega) (by omega)).mp h))]; exact k0 (by simp [c2])
      · rw [if_neg (show ¬ nI (a_bs b i) = (2 : Int32) from fun h => c1 ((nI_eq (by omega) (b := 2) (by decide)).mp h))]; exact k0 (by simp [c1])
/-- why the reference says that one can't do it -/
def wdA (b : AS) (g s : Nat) : Nat := if s = 95 then wsA b g else if s = 94 then wrA b g else wbA b g (s - 97)
theorem rwd_spec {w : MS} {b : AS} (hI : Inv b) (hM : Mc (mnow w) b) {g s : Nat} (hg : g < 8) (hs : s = 95 ∨ s = 94 ∨ isL (a_R b) s = true) : f_X9_whyNotDo w (nI g) (nI s) = some (nI (wdA b g s)) := by
  have hR6 := hI.1.2.1
  have hs2 : s ≤ 126 := by
    rcases hs with h | h | h
    · omega
    · omega
    · unfold isL at h; simp only [Bool.and_eq_true, decide_eq_true_eq] at h; omega
  have hb := bs_lt hI hg
  have hp := pl_lt hI hg
  unfold f_X9_whyNotDo
  rw [isTh_now hI hM hg, Option.bind_some, b10]
  cases ig : a_is b g
  · have e : wdA b g s = 1 := by unfold wdA wsA wrA wbA; rw [ig]; simp
    rw [e]; rfl
  · obtain ⟨p1, p2, -⟩ := gt_now hM hg ig
    have eb : f_X9_isBusy w (nI g) = some (nI (if a_bs b g = 0 then 0 else 1)) := by
      unfold f_X9_isBusy
      rw [chk_nI hg (by decide), nI_clamp (by omega), p2]
      by_cases c : a_bs b g = 0
      · rw [if_pos (show nI (a_bs b g) ≤ 0 by rw [c]; decide), if_pos c]; rfl
      · rw [if_neg (show ¬ nI (a_bs b g) ≤ 0 from nI_ge (a := 0) (by omega) (by omega)), if_neg c]; rfl
    simp only [if_true]
    rw [eb, Option.bind_some]
    unfold X9_whyNotDo_J26 X9_whyNotDo_J95
    have hch : M_chairs w (a_pl b g) = nI (a_ch b (a_pl b g)) := (hM.2.2.2.1 (a_pl b g) hp).2.2
    have c9 := (hI.2.1 (a_pl b g) hp).2.2.2
    have s8 : a_sit b (a_pl b g) ≤ 8 := cnt_le _ 8
    rcases hs with h | h | h
    · subst h
      rw [if_neg (show ¬ nI 95 = (94 : Int32) by decide)]
      by_cases c : a_bs b g = 0
      · rw [if_pos c, if_pos (show nI 0 = (0 : Int32) from rfl), if_pos (show nI 95 = (95 : Int32) from rfl), chk_nI hg (by decide), nI_clamp (by omega), p1, rsit_spec hI hM hp, Option.bind_some, chk_nI hg (by decide), chk_nI hp (by decide), nI_clamp (by omega), hch]
        by_cases c2 : a_sit b (a_pl b g) < a_ch b (a_pl b g)
        · have e : wdA b g 95 = 0 := by unfold wdA wsA; simp [ig, c, c2]
          rw [if_neg (nI_ge c2 (by omega)), e]; rfl
        · have e : wdA b g 95 = 4 := by unfold wdA wsA; simp [ig, c, c2]
          rw [if_pos (nI_le (by omega) (by omega)), e]; rfl
      · have e : wdA b g 95 = 2 := by unfold wdA wsA; simp [ig, c]
        rw [if_neg c, if_neg (show ¬ nI 1 = (0 : Int32) by decide), e]; rfl
    · subst h
      rw [if_pos (show nI 94 = (94 : Int32) from rfl)]
      by_cases c : a_bs b g = 0
      · have e : wdA b g 94 = 2 := by unfold wdA wrA; simp [ig, c]
        rw [if_pos c, if_neg (show ¬ nI 0 = (1 : Int32) by decide), e]; rfl
      · have e : wdA b g 94 = 0 := by unfold wdA wrA; simp [ig, c]
        rw [if_neg c, if_pos (show nI 1 = (1 : Int32) from rfl), if_neg (show ¬ nI 94 = (95 : Int32) by decide), if_pos (show nI 94 = (94 : Int32) from rfl), e]; rfl
    · have hl : 97 ≤ s ∧ s < 97 + a_R b := by unfold isL at h; simp only [Bool.and_eq_true, decide_eq_true_eq] at h; exact h
      have n1 : ¬ nI s = (94 : Int32) := fun q => by have := (nI_eq (by omega) (b := 94) (by decide)).mp q; omega
      have n2 : ¬ nI s = (95 : Int32) := fun q => by have := (nI_eq (by omega) (b := 95) (by decide)).mp q; omega
      have e6 : ((6 : Int32) * nI (a_pl b g) + nI s) - 97 = nI (6 * a_pl b g + (s - 97)) := by
        rw [ix6', show nI (6 * a_pl b g + s) - (97 : Int32) = nI (6 * a_pl b g + s - 97) from pk_sub (b := 97) (by omega), show 6 * a_pl b g + s - 97 = 6 * a_pl b g + (s - 97) by omega]
      have hwd : M_width w (6 * a_pl b g + (s - 97)) = nI (a_wd b (a_pl b g) (s - 97)) := hM.2.2.2.2.1 _ _ hp (by omega)
      have w3 := (hI.2.2.1 (a_pl b g) (s - 97) hp (by omega)).1
      have m1 : s ≠ 95 := by omega
      have m2 : s ≠ 94 := by omega
      rw [if_neg n1]
      by_cases c : a_bs b g = 0
      · rw [if_pos c, if_pos (show nI 0 = (0 : Int32) from rfl), if_neg n2, if_neg n1, chk_nI hg (by decide), nI_clamp (by omega), p1, e6, chk_nI (by omega) (by decide), nI_clamp (by omega), hwd]
        by_cases c2 : a_wd b (a_pl b g) (s - 97) = 0
        · have e : wdA b g s = 5 := by unfold wdA wbA; simp [ig, c, c2, m1, m2]
          rw [if_pos (show nI (a_wd b (a_pl b g) (s - 97)) ≤ 0 by rw [c2]; decide), e]; rfl
        · have e : wdA b g s = 0 := by unfold wdA wbA; simp [ig, c, c2, m1, m2]
          rw [if_neg (show ¬ nI (a_wd b (a_pl b g) (s - 97)) ≤ 0 from nI_ge (a := 0) (by omega) (by omega)), e]; rfl
      · have e : wdA b g s = 2 := by unfold wdA wbA; simp [ig, c, m1, m2]
        rw [if_neg c, if_neg (show ¬ nI 1 = (0 : Int32) by decide), e]; rfl
/-- what one then does -/
def dwA (b : AS) (g s : Nat) : AS := if s = 95 then eng b g 2 (-6) 0 else if s = 94 then rs b g else eng b g 3 ((s - 97 : Nat) : Int) 0
theorem Inv_dw {b : AS} (hI : Inv b) {g s : Nat} (hg : g < 8) (hs : s = 95 ∨ s = 94 ∨ isL (a_R b) s = true) (hw : wdA b g s = 0) : Inv (dwA b g s) := by
  unfold wdA at hw
  unfold dwA
  by_cases c1 : s = 95
  · rw [if_pos c1] at hw ⊢
    unfold wsA at hw
    cases ig : a_is b g
    · rw [ig] at hw; simp at hw
    · by_cases c : a_bs b g = 0
      · exact Inv_sit hI hg ig c
      · rw [ig] at hw; simp [c] at hw
  · rw [if_neg c1] at hw ⊢
    by_cases c2 : s = 94
    · rw [if_pos c2]; exact Inv_rs hI hg
    · rw [if_neg c2] at hw ⊢
      have h := (hs.resolve_left c1).resolve_left c2
      have hl : 97 ≤ s ∧ s < 97 + a_R b := by unfold isL at h; simp only [Bool.and_eq_true, decide_eq_true_eq] at h; exact h
      unfold wbA at hw
      cases ig : a_is b g
      · rw [ig] at hw; simp at hw
      · by_cases c : a_bs b g = 0
        · by_cases cw : a_wd b (a_pl b g) (s - 97) = 0
          · rw [ig] at hw; simp [c, cw] at hw
          · exact Inv_blk hI hg ig c (by omega) (by omega)
        · rw [ig] at hw; simp [c] at hw
theorem csettle_spec {h : HS} {b : AS} (hI : Inv b) (hH : Hc h b) {g s : Nat} (hg : g < 8) (hs : s = 95 ∨ s = 94 ∨ isL (a_R b) s = true) : ∃ h', f_X3_settle h (nI g) (nI s) = some (nI (wdA b g s), h') ∧ (wdA b g s = 0 → Hc h' (dwA b g s)) := by
  have hR6 := hI.1.2.1
  have z0 : ∀ n : Nat, n ≤ 6 → (nI n = 0 ↔ n = 0) := fun n hn => nI_eq (by omega) (b := 0) (by decide)
  unfold f_X3_settle wdA dwA
  by_cases c1 : s = 95
  · rw [if_pos c1, if_pos (show nI s = (95 : Int32) by rw [c1]; rfl), cws_spec hI hH hg, Option.bind_some]
    have hle : wsA b g ≤ 6 := by unfold wsA; repeat' split
                                 all_goals decide
    by_cases c : wsA b g = 0
    · rw [if_pos ((z0 _ hle).mpr c)]
      unfold f_X1_sit
      rw [engage_spec _ hg, Option.bind_some, Option.bind_some]
      exact ⟨_, rfl, fun _ => by rw [if_pos c1]; exact Hc_eng' hH rfl neg6 rfl⟩
    · rw [if_neg (fun h => c ((z0 _ hle).mp h))]
      exact ⟨h, rfl, fun q => absurd q c⟩
  · have n1 : ¬ nI s = (95 : Int32) := fun q => by
      have hs2 : s ≤ 126 := by
        rcases hs with h | h | h
        · omega
        · omega
        · unfold isL at h; simp only [Bool.and_eq_true, decide_eq_true_eq] at h; omega
      exact c1 ((nI_eq (by omega) (b := 95) (by decide)).mp q)
    rw [if_neg c1, if_neg n1]
    by_cases c2 : s = 94
    · rw [if_pos c2, if_pos (show nI s = (94 : Int32) by rw [c2]; rfl), cwr_spec hI hH hg, Option.bind_some]
      have hle : wrA b g ≤ 6 := by unfold wrA; repeat' split
                                   all_goals decide
      by_cases c : wrA b g = 0
      · obtain ⟨h', r1, r2⟩ := rise_spec hI hH hg
        rw [if_pos ((z0 _ hle).mpr c), r1, Option.bind_some]
        exact ⟨h', rfl, fun _ => by rw [if_neg c1, if_pos c2]; exact r2⟩
      · rw [if_neg (fun h => c ((z0 _ hle).mp h))]
        exact ⟨h, rfl, fun q => absurd q c⟩
    · have h := (hs.resolve_left c1).resolve_left c2
      have hl : 97 ≤ s ∧ s < 97 + a_R b := by unfold isL at h; simp only [Bool.and_eq_true, decide_eq_true_eq] at h; exact h
      have n2 : ¬ nI s = (94 : Int32) := fun q => c2 ((nI_eq (by omega) (b := 94) (by decide)).mp q)
      have e97 : nI s - (97 : Int32) = nI (s - 97) := pk_sub (b := 97) hl.1
      rw [if_neg c2, if_neg n2, e97, cwb_spec hI hH hg (by omega), Option.bind_some]
      have hle : wbA b g (s - 97) ≤ 6 := by unfold wbA; repeat' split
                                            all_goals decide
      by_cases c : wbA b g (s - 97) = 0
      · rw [if_pos ((z0 _ hle).mpr c)]
        unfold f_X1_block
        rw [engage_spec _ hg, Option.bind_some, Option.bind_some]
        exact ⟨_, rfl, fun _ => by rw [if_neg c1, if_neg c2]; exact Hc_eng' hH rfl (oI_nat _).symm rfl⟩
      · rw [if_neg (fun h => c ((z0 _ hle).mp h))]
        exact ⟨_, rfl, fun q => absurd q c⟩
