/-- an event: why it can't be (0: it can), what then is, how many signs it has -/
def evA (c : Nat → Nat) (b : AS) (i : Nat) : Nat × AS × Nat :=
  if c i = 46 then (0, minA lo0 b, 1)
  else if isG (c i) then (if isG (c (i + 1)) then (wnt b (c i - 65) (c (i + 1) - 65), tkk b (c i - 65) (c (i + 1) - 65) (c (i + 2) - 48), 3) else (wdA b (c i - 65) (c (i + 1)), dwA b (c i - 65) (c (i + 1)), 2))
  else (wnc b (c i - 97) (c (i + 1) - 97) (c (i + 2) - 48), crA b (c i - 97) (c (i + 1) - 97) (c (i + 2) - 48), 3)
theorem evA_1 {c : Nat → Nat} {i : Nat} (b : AS) (h : c i = 46) : evA c b i = (0, minA lo0 b, 1) := by unfold evA; rw [if_pos h]
theorem evA_2 {c : Nat → Nat} {i : Nat} (b : AS) (h0 : c i ≠ 46) (h1 : isG (c i) = true) (h2 : isG (c (i + 1)) = true) : evA c b i = (wnt b (c i - 65) (c (i + 1) - 65), tkk b (c i - 65) (c (i + 1) - 65) (c (i + 2) - 48), 3) := by unfold evA; rw [if_neg h0, if_pos h1, if_pos h2]
theorem evA_3 {c : Nat → Nat} {i : Nat} (b : AS) (h0 : c i ≠ 46) (h1 : isG (c i) = true) (h2 : isG (c (i + 1)) = false) : evA c b i = (wdA b (c i - 65) (c (i + 1)), dwA b (c i - 65) (c (i + 1)), 2) := by unfold evA; rw [if_neg h0, if_pos h1, if_neg (by rw [h2]; decide)]
theorem evA_4 {c : Nat → Nat} {i : Nat} (b : AS) (h0 : c i ≠ 46) (h1 : isG (c i) = false) : evA c b i = (wnc b (c i - 97) (c (i + 1) - 97) (c (i + 2) - 48), crA b (c i - 97) (c (i + 1) - 97) (c (i + 2) - 48), 3) := by unfold evA; rw [if_neg h0, if_neg (by rw [h1]; decide)]
/-- the party from sign i on -/
def plA (c : Nat → Nat) (n : Nat) : Nat → Nat → AS → Nat → Nat × AS × Nat
  | 0, _, b, ev => (0, b, ev)
  | f + 1, i, b, ev => if n ≤ i then (0, b, ev) else if (evA c b i).1 ≠ 0 then ((evA c b i).1, b, ev) else plA c n f (i + (evA c b i).2.2) (evA c b i).2.1 (ev + 1)
theorem plA_s (c : Nat → Nat) (n f i : Nat) (b : AS) (ev : Nat) : plA c n (f + 1) i b ev = if n ≤ i then (0, b, ev) else if (evA c b i).1 ≠ 0 then ((evA c b i).1, b, ev) else plA c n f (i + (evA c b i).2.2) (evA c b i).2.1 (ev + 1) := rfl
theorem isG_b {x : Nat} (h : isG x = true) : 65 ≤ x ∧ x ≤ 72 := by unfold isG at h; simp only [Bool.and_eq_true, decide_eq_true_eq] at h; exact h
theorem isL_b {R x : Nat} (h : isL R x = true) : 97 ≤ x ∧ x < 97 + R := by unfold isL at h; simp only [Bool.and_eq_true, decide_eq_true_eq] at h; exact h
theorem wd_le (b : AS) (g s : Nat) : wdA b g s ≤ 6 := by
  unfold wdA wsA wrA wbA
  repeat' split
  all_goals decide
/-- an event that can be keeps the order, and the fault's place -/
theorem ev_ok {R : Nat} {c : Nat → Nat} {n i : Nat} {b : AS} (hI : Inv b) (hR : a_R b = R) (hn : n ≤ 60) (hi : i < n) (h : fa R c n (n - i) i 0 = -6) : (evA c b i).1 ≤ 6 ∧ 1 ≤ (evA c b i).2.2 ∧ ((evA c b i).1 = 0 → Inv (evA c b i).2.1 ∧ a_R (evA c b i).2.1 = R ∧ fa R c n (n - (i + (evA c b i).2.2)) (i + (evA c b i).2.2) 0 = -6) := by
  have hR6 := hI.1.2.1
  rcases wf_cases hn hi h with ⟨h1, h2⟩ | ⟨h0, h1, h2, h3, h4, h5, h6, h7, h8⟩ | ⟨h0, h1, h2, h3, h4, h5⟩ | ⟨h0, h1, h2, h3, h4, h5, h6, h7⟩
  · rw [evA_1 b h1]; exact ⟨Nat.le_of_ble_eq_true rfl, Nat.le_of_ble_eq_true rfl, fun _ => ⟨Inv_min hI lo0, (min_keep hI lo0).1.trans hR, h2⟩⟩
  · rw [evA_2 b h0 h1 h3]
    have g1 := isG_b h1
    have g2 := isG_b h3
    refine ⟨by have := wnt_le b (c i - 65) (c (i + 1) - 65); show wnt b _ _ ≤ 6; omega, Nat.le_of_ble_eq_true rfl, fun hw => ?_⟩
    obtain ⟨w1, w2, w3, w4, -⟩ := wnt_0 hw
    exact ⟨Inv_tkk hI (by omega) (by omega) w1 w2 w3 w4 (by omega) (by omega) (by omega), hR, h8⟩
  · rw [evA_3 b h0 h1 h3]
    have g1 := isG_b h1
    refine ⟨wd_le b _ _, Nat.le_of_ble_eq_true rfl, fun hw => ⟨Inv_dw hI (by omega) (by rw [hR]; exact h4) hw, ?_, h5⟩⟩
    show a_R (dwA b (c i - 65) (c (i + 1))) = R
    unfold dwA
    split
    · exact hR
    · split
      · exact hR
      · exact hR
  · rw [evA_4 b h0 h1]
    have g1 := isL_b h2
    have g2 := isL_b h4
    refine ⟨by rcases wnc_or b (c i - 97) (c (i + 1) - 97) (c (i + 2) - 48) with q | q <;> (show wnc b _ _ _ ≤ 6; omega), Nat.le_of_ble_eq_true rfl, fun hw => ⟨Inv_cr hI (by omega) (by omega) (by omega) hw, hR, h7⟩⟩
section PC
variable {pd : PS} {R n : Nat} {c : Nat → Nat}
theorem sign_at (hn : n ≤ 60) (hu : P_used pd = nI n) (hs : ∀ j, j < n → P_signs pd j = nI (c j) ∧ 33 ≤ c j ∧ c j ≤ 126) {i : Nat} (hi : i < n) : f_X2_sign pd (nI i) = some (nI (c i)) := by
  unfold f_X2_sign
  rw [if_neg (nI_pos (by omega)), hu, if_neg (nI_ge hi (by omega)), chk_nI (by omega) (by decide), nI_clamp (by omega), (hs i hi).1]
/-- the class plays an event -/
theorem cev_spec (hn : n ≤ 60) (hu : P_used pd = nI n) (hs : ∀ j, j < n → P_signs pd j = nI (c j) ∧ 33 ≤ c j ∧ c j ≤ 126) {i ev : Nat} {b : AS} {d : DS} (hI : Inv b) (hR : a_R b = R) (hi : i < n) (hev : ev < 60) (h : fa R c n (n - i) i 0 = -6) (hH : Hc (D_house d) b) (k : YS → PS → HS → DS → Int32 → Int32 → Option (YS × DS)) (y : YS) (hy : Y_why y = 0) (hn0 : HS) : ∃ y' d', X3_perform_B21 k y pd hn0 d (nI i) (nI ev) = (if (evA c b i).1 = 0 then k (Y_set_events y' (Y_events y + 1)) pd hn0 d' (nI (i + (evA c b i).2.2)) (nI (ev + 1)) else some (y', d')) ∧ Y_why y' = nI (evA c b i).1 ∧ Y_events y' = Y_events y ∧ ((evA c b i).1 = 0 → Hc (D_house d') (evA c b i).2.1) := by
  have hR6 := hI.1.2.1
  have hi60 : i < 60 := by omega
  unfold X3_perform_B21 X3_perform_J79
  rw [if_neg (show ¬ (60 : Int32) ≤ nI ev from nlit (by decide) hev), hu, if_neg (nI_ge hi (by omega))]
  rcases wf_cases hn hi h with ⟨h1, h2⟩ | ⟨h0, h1, h2, h3, h4, h5, h6, h7, h8⟩ | ⟨h0, h1, h2, h3, h4, h5⟩ | ⟨h0, h1, h2, h3, h4, h5, h6, h7⟩
  · obtain ⟨d1, r1, r2⟩ := ready_spec (d := d) hI hH
    obtain ⟨d2, gn, m1, m2⟩ := minute_spec hI (Lo0 b) r2
    have sp : f_X3_spanOf pd (nI i) = some 1 := by
      unfold f_X3_spanOf
      rw [sign_at hn hu hs hi, Option.bind_some, if_pos (show nI (c i) = (46 : Int32) by rw [h1]; rfl)]
    rw [evA_1 b h1]
    refine ⟨y, d2, ?_, hy, rfl, fun _ => m2.1⟩
    rw [sp, Option.bind_some, if_pos rfl, r1, Option.bind_some, m1, Option.bind_some, hy, if_pos rfl, if_pos rfl, nI_1, nI_1]
  · have n46 : ¬ nI (c i) = (46 : Int32) := fun q => h0 ((nI_eq (by have := (hs i hi).2; omega) (b := 46) (by decide)).mp q)
    have g1 := isG_b h1
    have g2 := isG_b h3
    have sp : f_X3_spanOf pd (nI i) = some 3 := by
      unfold f_X3_spanOf X3_spanOf_J40 X3_spanOf_J41
      rw [nI_1, sign_at hn hu hs hi, sign_at hn hu hs h2, Option.bind_some, if_neg n46, Option.bind_some, gl_spec (hs i hi).2.2, Option.bind_some, h1, if_neg (by decide), Option.bind_some, gl_spec (hs _ h2).2.2, Option.bind_some, h3, if_neg (by decide), if_pos rfl]
    have e1 : nI (c i) - (65 : Int32) = nI (c i - 65) := pk_sub (b := 65) g1.1
    have e2 : nI (c (i + 1)) - (65 : Int32) = nI (c (i + 1) - 65) := pk_sub (b := 65) g2.1
    have e3 : nI (c (i + 2)) - (48 : Int32) = nI (c (i + 2) - 48) := pk_sub (b := 48) (by omega)
    have hw3 := wnt_le b (c i - 65) (c (i + 1) - 65)
    have at1 : ∃ h', f_X3_attempt pd (D_house d) (nI i) 3 = some (nI (wnt b (c i - 65) (c (i + 1) - 65)), h') ∧ (wnt b (c i - 65) (c (i + 1) - 65) = 0 → Hc h' (tkk b (c i - 65) (c (i + 1) - 65) (c (i + 2) - 48))) := by
      unfold f_X3_attempt f_X3_chat
      rw [nI_1, show nI i + (2 : Int32) = nI (i + 2) from nI_add i 2, sign_at hn hu hs hi, sign_at hn hu hs h2, sign_at hn hu hs h5, Option.bind_some, Option.bind_some, if_neg (by decide), Option.bind_some, gl_spec (hs i hi).2.2, Option.bind_some, h1, if_neg (by decide), e1, e2, e3, cwnt_spec hI hH (by omega) (by omega), Option.bind_some]
      by_cases cw : wnt b (c i - 65) (c (i + 1) - 65) = 0
      · obtain ⟨h', t1, t2⟩ := ctalk_spec (l := c (i + 2) - 48) hH (show c i - 65 < 8 by omega) (show c (i + 1) - 65 < 8 by omega)
        rw [if_pos (show nI (wnt b (c i - 65) (c (i + 1) - 65)) = 0 by rw [cw]; rfl), t1, Option.bind_some, Option.bind_some]
        exact ⟨h', rfl, fun _ => t2⟩
      · rw [if_neg (show ¬ nI (wnt b (c i - 65) (c (i + 1) - 65)) = 0 from fun q => cw ((nI_eq (by omega) (b := 0) (by decide)).mp q)), Option.bind_some]
        exact ⟨_, rfl, fun q => absurd q cw⟩
    obtain ⟨h', a1, a2⟩ := at1
    rw [evA_2 b h0 h1 h3, sp, Option.bind_some, if_neg (by decide), a1, Option.bind_some]
    refine ⟨Y_set_why y (nI (wnt b (c i - 65) (c (i + 1) - 65))), D_set_house d h', ?_, rfl, rfl, a2⟩
    show (if nI (wnt b (c i - 65) (c (i + 1) - 65)) = 0 then k (Y_set_events (Y_set_why y (nI (wnt b (c i - 65) (c (i + 1) - 65)))) (Y_events y + 1)) pd hn0 (D_set_house d h') (nI i + 3) (nI ev + 1) else some (Y_set_why y (nI (wnt b (c i - 65) (c (i + 1) - 65))), D_set_house d h')) = _
    rw [show nI i + (3 : Int32) = nI (i + 3) from nI_add i 3, nI_1]
    by_cases cw : wnt b (c i - 65) (c (i + 1) - 65) = 0
    · rw [if_pos (show nI (wnt b (c i - 65) (c (i + 1) - 65)) = 0 by rw [cw]; rfl), if_pos cw]
    · rw [if_neg (show ¬ nI (wnt b (c i - 65) (c (i + 1) - 65)) = 0 from fun q => cw ((nI_eq (by omega) (b := 0) (by decide)).mp q)), if_neg cw]
  · have n46 : ¬ nI (c i) = (46 : Int32) := fun q => h0 ((nI_eq (by have := (hs i hi).2; omega) (b := 46) (by decide)).mp q)
    have g1 := isG_b h1
    have sp : f_X3_spanOf pd (nI i) = some 2 := by
      unfold f_X3_spanOf X3_spanOf_J40 X3_spanOf_J41
      rw [nI_1, sign_at hn hu hs hi, sign_at hn hu hs h2, Option.bind_some, if_neg n46, Option.bind_some, gl_spec (hs i hi).2.2, Option.bind_some, h1, if_neg (by decide), Option.bind_some, gl_spec (hs _ h2).2.2, Option.bind_some, h3, if_pos (by decide), if_neg (by decide)]
    have e1 : nI (c i) - (65 : Int32) = nI (c i - 65) := pk_sub (b := 65) g1.1
    obtain ⟨h', s1, s2⟩ := csettle_spec hI hH (g := c i - 65) (s := c (i + 1)) (by omega) (by rw [hR]; exact h4)
    have hw6 := wd_le b (c i - 65) (c (i + 1))
    have a1 : f_X3_attempt pd (D_house d) (nI i) 2 = some (nI (wdA b (c i - 65) (c (i + 1))), h') := by
      unfold f_X3_attempt
      rw [nI_1, sign_at hn hu hs hi, sign_at hn hu hs h2, Option.bind_some, Option.bind_some, if_pos rfl, e1, s1, Option.bind_some]
    rw [evA_3 b h0 h1 h3, sp, Option.bind_some, if_neg (by decide), a1, Option.bind_some]
    refine ⟨Y_set_why y (nI (wdA b (c i - 65) (c (i + 1)))), D_set_house d h', ?_, rfl, rfl, s2⟩
    show (if nI (wdA b (c i - 65) (c (i + 1))) = 0 then k (Y_set_events (Y_set_why y (nI (wdA b (c i - 65) (c (i + 1))))) (Y_events y + 1)) pd hn0 (D_set_house d h') (nI i + 2) (nI ev + 1) else some (Y_set_why y (nI (wdA b (c i - 65) (c (i + 1)))), D_set_house d h')) = _
    rw [show nI i + (2 : Int32) = nI (i + 2) from nI_add i 2, nI_1]
    by_cases cw : wdA b (c i - 65) (c (i + 1)) = 0
    · rw [if_pos (show nI (wdA b (c i - 65) (c (i + 1))) = 0 by rw [cw]; rfl), if_pos cw]
    · rw [if_neg (show ¬ nI (wdA b (c i - 65) (c (i + 1))) = 0 from fun q => cw ((nI_eq (by omega) (b := 0) (by decide)).mp q)), if_neg cw]
  · have n46 : ¬ nI (c i) = (46 : Int32) := fun q => h0 ((nI_eq (by have := (hs i hi).2; omega) (b := 46) (by decide)).mp q)
    have g1 := isL_b h2
    have g2 := isL_b h4
    have hi1 : i + 1 < n := by omega
    have sp : f_X3_spanOf pd (nI i) = some 3 := by
      unfold f_X3_spanOf X3_spanOf_J40 X3_spanOf_J41
      rw [sign_at hn hu hs hi, Option.bind_some, if_neg n46, Option.bind_some, gl_spec (hs i hi).2.2, Option.bind_some, h1, if_pos (by decide), if_pos rfl]
    have e1 : nI (c i) - (97 : Int32) = nI (c i - 97) := pk_sub (b := 97) g1.1
    have e2 : nI (c (i + 1)) - (97 : Int32) = nI (c (i + 1) - 97) := pk_sub (b := 97) g2.1
    have e3 : nI (c (i + 2)) - (48 : Int32) = nI (c (i + 2) - 48) := pk_sub (b := 48) (by omega)
    have hw6 : wnc b (c i - 97) (c (i + 1) - 97) (c (i + 2) - 48) ≤ 6 := by rcases wnc_or b (c i - 97) (c (i + 1) - 97) (c (i + 2) - 48) with q | q <;> omega
    have at1 : ∃ h', f_X3_attempt pd (D_house d) (nI i) 3 = some (nI (wnc b (c i - 97) (c (i + 1) - 97) (c (i + 2) - 48)), h') ∧ (wnc b (c i - 97) (c (i + 1) - 97) (c (i + 2) - 48) = 0 → Hc h' (crA b (c i - 97) (c (i + 1) - 97) (c (i + 2) - 48))) := by
      unfold f_X3_attempt f_X3_fetch
      rw [nI_1, show nI i + (2 : Int32) = nI (i + 2) from nI_add i 2, sign_at hn hu hs hi, sign_at hn hu hs hi1, sign_at hn hu hs h3, Option.bind_some, Option.bind_some, if_neg (by decide), Option.bind_some, gl_spec (hs i hi).2.2, Option.bind_some, h1, if_pos (by decide), e1, e2, e3, cwnc_spec hI hH (by omega) (by omega) (by omega), Option.bind_some]
      by_cases cw : wnc b (c i - 97) (c (i + 1) - 97) (c (i + 2) - 48) = 0
      · obtain ⟨h', t1, t2⟩ := ccarry_spec hI hH (show c i - 97 < 6 by omega) (show c (i + 1) - 97 < 6 by omega) (show c (i + 2) - 48 < 4 by omega) cw
        rw [if_pos (show nI (wnc b (c i - 97) (c (i + 1) - 97) (c (i + 2) - 48)) = 0 by rw [cw]; rfl), t1, Option.bind_some, Option.bind_some]
        exact ⟨h', rfl, fun _ => t2⟩
      · rw [if_neg (show ¬ nI (wnc b (c i - 97) (c (i + 1) - 97) (c (i + 2) - 48)) = 0 from fun q => cw ((nI_eq (by omega) (b := 0) (by decide)).mp q)), Option.bind_some]
        exact ⟨_, rfl, fun q => absurd q cw⟩
    obtain ⟨h', a1, a2⟩ := at1
    rw [evA_4 b h0 h1, sp, Option.bind_some, if_neg (by decide), a1, Option.bind_some]
    refine ⟨Y_set_why y (nI (wnc b (c i - 97) (c (i + 1) - 97) (c (i + 2) - 48))), D_set_house d h', ?_, rfl, rfl, a2⟩
    show (if nI (wnc b (c i - 97) (c (i + 1) - 97) (c (i + 2) - 48)) = 0 then k (Y_set_events (Y_set_why y (nI (wnc b (c i - 97) (c (i + 1) - 97) (c (i + 2) - 48)))) (Y_events y + 1)) pd hn0 (D_set_house d h') (nI i + 3) (nI ev + 1) else some (Y_set_why y (nI (wnc b (c i - 97) (c (i + 1) - 97) (c (i + 2) - 48))), D_set_house d h')) = _
    rw [show nI i + (3 : Int32) = nI (i + 3) from nI_add i 3, nI_1]
    by_cases cw : wnc b (c i - 97) (c (i + 1) - 97) (c (i + 2) - 48) = 0
    · rw [if_pos (show nI (wnc b (c i - 97) (c (i + 1) - 97) (c (i + 2) - 48)) = 0 by rw [cw]; rfl), if_pos cw]
    · rw [if_neg (show ¬ nI (wnc b (c i - 97) (c (i + 1) - 97) (c (i + 2) - 48)) = 0 from fun q => cw ((nI_eq (by omega) (b := 0) (by decide)).mp q)), if_neg cw]
/-- the class plays the party -/
theorem cplay_spec (hn : n ≤ 60) (hu : P_used pd = nI n) (hs : ∀ j, j < n → P_signs pd j = nI (c j) ∧ 33 ≤ c j ∧ c j ≤ 126) (hn0 : HS) : ∀ N f i ev (b : AS) (d : DS) (y : YS), n - i < f → n - i < N → ev ≤ i → i ≤ n + 3 → Inv b → a_R b = R → (i < n → fa R c n (n - i) i 0 = -6) → Hc (D_house d) b → Y_why y = 0 → Y_events y = nI ev → ∃ y' d', it X3_perform_B21 (fun _ _ _ _ _ _ => none) N y pd hn0 d (nI i) (nI ev) = some (y', d') ∧ Y_why y' = nI (plA c n f i b ev).1 ∧ Y_events y' = nI (plA c n f i b ev).2.2 ∧ ((plA c n f i b ev).1 = 0 → Inv (plA c n f i b ev).2.1 ∧ Hc (D_house d') (plA c n f i b ev).2.1) := by
  intro N
  induction N with
  | zero => intro f i ev b d y h1 h2; omega
  | succ N ih =>
    intro f i ev b d y h1 h2 h3 h4 hI hR hf hH hy hev
    obtain ⟨f, rfl⟩ : ∃ g, f = g + 1 := ⟨f - 1, by omega⟩
    rw [it_s, plA_s]
    by_cases c1 : n ≤ i
    · rw [if_pos c1]
      refine ⟨y, d, ?_, hy, hev, fun _ => ⟨hI, hH⟩⟩
      unfold X3_perform_B21
      rw [hu]
      by_cases c2 : (60 : Int32) ≤ nI ev
      · rw [if_pos c2]
      · rw [if_neg c2, if_pos (nI_le c1 (by omega))]
    · rw [if_neg c1]
      have hi : i < n := by omega
      obtain ⟨o1, o2, o3⟩ := ev_ok hI hR hn hi (hf hi)
      obtain ⟨y', d', p1, p2, p3, p4⟩ := cev_spec hn hu hs hI hR hi (show ev < 60 by omega) (hf hi) hH (it X3_perform_B21 (fun _ _ _ _ _ _ => none) N) y hy hn0
      rw [p1]
      by_cases c2 : (evA c b i).1 = 0
      · obtain ⟨q1, q2, q3⟩ := o3 c2
        rw [if_pos c2, if_neg (fun h => h c2)]
        have hle : i + (evA c b i).2.2 ≤ n + 3 := by
          have : (evA c b i).2.2 ≤ 3 := by unfold evA; repeat' split
                                           all_goals exact Nat.le_of_ble_eq_true rfl
          omega
        exact ih f (i + (evA c b i).2.2) (ev + 1) (evA c b i).2.1 d' (Y_set_events y' (Y_events y + 1)) (by omega) (by omega) (by omega) hle q1 q2 (fun _ => q3) (p4 c2) (by show Y_why y' = 0; rw [p2, c2]; rfl) (by show Y_events y + 1 = _; rw [hev, nI_1])
      · rw [if_neg c2, if_pos c2]
        exact ⟨y', d', rfl, p2, p3.trans hev, fun h => absurd h c2⟩
end PC
