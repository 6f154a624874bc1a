/-! what is told of minutes to come -/
/-- m minutes later -/
def minN (lo : Nat → Nat → Bool) (b : AS) : Nat → AS
  | 0 => b
  | m + 1 => minA lo (minN lo b m)
theorem minN_s (lo : Nat → Nat → Bool) (b : AS) (m : Nat) : minN lo b (m + 1) = minA lo (minN lo b m) := rfl
theorem Inv_minN {b : AS} (hI : Inv b) (lo : Nat → Nat → Bool) : ∀ m, Inv (minN lo b m)
  | 0 => hI
  | m + 1 => Inv_min (Inv_minN hI lo m) lo
theorem Lo_minN {b : AS} (hI : Inv b) {lo : Nat → Nat → Bool} (h : LoOk b lo) : ∀ m, LoOk (minN lo b m) lo
  | 0 => h
  | m + 1 => Lo_min (Inv_minN hI lo m) (Lo_minN hI h m)
/-- what a minute leaves as it is -/
theorem min_keep {b : AS} (hI : Inv b) (lo : Nat → Nat → Bool) : a_R (minA lo b) = a_R b ∧ a_T (minA lo b) = a_T b ∧ a_sz (minA lo b) = a_sz b ∧ a_th (minA lo b) = a_th b ∧ a_wd (minA lo b) = a_wd b := by
  obtain ⟨-, -, -, k4, k5, k6, k7, k8, -⟩ := Kp_mv hI lo 8 (Nat.le_refl _)
  exact ⟨k5, k6, k7, k8, k4⟩
theorem minN_keep {b : AS} (hI : Inv b) (lo : Nat → Nat → Bool) : ∀ m, a_R (minN lo b m) = a_R b ∧ a_T (minN lo b m) = a_T b ∧ a_sz (minN lo b m) = a_sz b
  | 0 => ⟨rfl, rfl, rfl⟩
  | m + 1 => by
    obtain ⟨h1, h2, h3⟩ := minN_keep hI lo m
    obtain ⟨g1, g2, g3, -⟩ := min_keep (Inv_minN hI lo m) lo
    exact ⟨g1.trans h1, g2.trans h2, g3.trans h3⟩
theorem goMin_spec {w : MS} {b : AS} {lo : Nat → Nat → Bool} (hI : Inv b) (hL : LoOk b lo) (hM : Mx0 w b lo) {m : Nat} (hm : m < 1000) : ∃ w', f_X9_goMinutes w (nI m) = some w' ∧ mkeep w' = mkeep w ∧ Mx0 w' (minN lo b m) lo := by
  obtain ⟨N, hN, hFU⟩ := FU_ex
  unfold f_X9_goMinutes
  rw [hFU]
  refine it_rule (bot := fun _ _ _ => none) m (fun i (y : MS) => mkeep y = mkeep w ∧ Mx0 y (minN lo b i) lo) (fun k i y => ∃ w', k y (nI m) (nI i) = some w' ∧ mkeep w' = mkeep w ∧ Mx0 w' (minN lo b m) lo) ?_ ?_ N 0 w (by omega) (by omega) ⟨rfl, hM⟩
  · intro k y hy
    exact ⟨y, by unfold X9_goMinutes_B2; rw [if_pos (Int32.le_refl _)], hy⟩
  · intro k i y hi ⟨hy, hMy⟩ hk
    obtain ⟨w1, gn, e1, e2, e3⟩ := pass_spec (Inv_minN hI lo i) (Lo_minN hI hL i) hMy
    obtain ⟨w', k1, k2⟩ := hk w1 ⟨e2.trans hy, e3.to0⟩
    refine ⟨w', ?_, k2⟩
    unfold X9_goMinutes_B2
    rw [if_neg (nI_ge hi (by omega)), e1, Option.bind_some, nI_1]
    exact k1
/-- somebody talks -/
def anyT (b : AS) : Bool := (List.range 8).any (fun g => a_bs b g == 1)
theorem anyT_1 {b : AS} {g : Nat} (hg : g < 8) (h : a_bs b g = 1) : anyT b = true := List.any_eq_true.mpr ⟨g, List.mem_range.mpr hg, by simp [h]⟩
theorem anyT_0 {b : AS} (h : ∀ g, g < 8 → a_bs b g ≠ 1) : anyT b = false := List.any_eq_false.mpr (fun g hg => by simp [h g (List.mem_range.mp hg)])
theorem anyT_not {b : AS} (h : anyT b = false) {g : Nat} (hg : g < 8) : a_bs b g ≠ 1 := fun q => by rw [anyT_1 hg q] at h; cases h
theorem anyTalks_spec {h : HS} {b : AS} (hI : Inv b) (hH : Hc h b) : f_X1_anyTalks h = some (if anyT b then 1 else 0) := by
  obtain ⟨N, hN, hFU⟩ := FU_ex
  unfold f_X1_anyTalks
  rw [hFU]
  refine it_rule (bot := fun _ _ => none) 8 (fun i (_ : Unit) => ∀ g, g < i → a_bs b g ≠ 1) (fun k i _ => k h (nI i) = some (if anyT b then 1 else 0)) ?_ ?_ N 0 () (by omega) (by omega) (fun g hg => absurd hg (Nat.not_lt_zero _))
  · intro k _ hn
    unfold X1_anyTalks_B2
    rw [if_pos (by decide), anyT_0 hn]; rfl
  · intro k i _ hi hn hk
    have hbs := bs_lt hI hi
    unfold X1_anyTalks_B2
    rw [if_neg (show ¬ (8 : Int32) ≤ nI i from nlit (by decide) hi), chk_nI hi (by decide), nI_clamp (by omega), (hH.2.2.2.2.2.1 i hi).2.1, nI_1]
    by_cases c : a_bs b i = 1
    · rw [if_pos (show nI (a_bs b i) = (1 : Int32) by rw [c]; rfl), anyT_1 hi c]; rfl
    · rw [if_neg (show ¬ nI (a_bs b i) = (1 : Int32) from fun h => c ((nI_eq (by omega) (b := 1) (by decide)).mp h))]
      exact hk () (fun g hg => by
        by_cases q : g = i
        · rw [q]; exact c
        · exact hn g (by omega))
/-- nobody goes, nobody talks -/
def stil (lo : Nat → Nat → Bool) (b : AS) : Bool := wentA lo b == 0 && !anyT b
theorem stillMin_spec {d : DS} {b : AS} {gn : Nat → Nat → Nat} {lo : Nat → Nat → Bool} (hI : Inv b) (hL : LoOk b lo) (hD : Dx d b gn lo) : ∃ d' gn', f_X0_stillMinute d = some (if stil lo b then 1 else 0, d') ∧ Dx d' (minA lo b) gn' lo := by
  obtain ⟨d', gn', e1, e2⟩ := minute_spec hI hL hD
  have hw : wentA lo b ≤ 8 := (Kp_mv hI lo 8 (Nat.le_refl _)).2.2.1
  refine ⟨d', gn', ?_, e2⟩
  unfold f_X0_stillMinute stil
  rw [anyTalks_spec hI hD.1, Option.bind_some, e1, Option.bind_some]
  by_cases c : wentA lo b = 0
  · rw [if_pos (show nI (wentA lo b) = 0 by rw [c]; rfl), c]
    cases anyT b <;> rfl
  · rw [if_neg (show ¬ nI (wentA lo b) = 0 from fun h => c ((nI_eq (by omega) (b := 0) (by decide)).mp h))]
    simp [c]
/-- a still minute changes nothing at all -/
theorem mvA_0 {b : AS} {lo : Nat → Nat → Bool} : ∀ i, (mvA lo b i).2.2 = 0 → mvA lo b i = (b, (fun _ _ => 0), 0)
  | 0, _ => rfl
  | i + 1, h => by
    rw [mvA_s] at h ⊢
    unfold stp at h ⊢
    by_cases c : (a_is (mvA lo b i).1 i = true ∧ a_bs (mvA lo b i).1 i = 0) ∧ toA (mvA lo b i).1 (mvA lo b i).2.1 lo i ≠ a_pl (mvA lo b i).1 i
    · rw [if_pos c] at h; simp at h
    · rw [if_neg c] at h ⊢; exact mvA_0 i h
theorem stil_fix {lo : Nat → Nat → Bool} {b : AS} (h : stil lo b = true) : (∀ j, j < 8 → a_pl (minA lo b) j = a_pl b j ∧ a_bs (minA lo b) j = a_bs b j ∧ a_mt (minA lo b) j = a_mt b j ∧ a_lf (minA lo b) j = a_lf b j) := by
  unfold stil at h
  simp only [Bool.and_eq_true, beq_iff_eq, Bool.not_eq_true'] at h
  intro j hj
  have e := mvA_0 8 (show (mvA lo b 8).2.2 = 0 from h.1)
  unfold minA
  rw [e]
  simp only [tk_pl, tk_bs, tk_mt, tk_lf]
  have := anyT_not h.2 hj
  simp [this]
