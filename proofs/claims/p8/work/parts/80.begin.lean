/-! the class makes ready -/
def lo0 : Nat → Nat → Bool := fun _ _ => false
theorem Lo0 (b : AS) : LoOk b lo0 := fun _ _ _ _ h => by cases h
theorem tastes_in {d : DS} {b : AS} (hI : Inv b) (hH : Hc (D_house d) b) {g : Nat} (hg : g < 8) : ∃ f, f_X0_readyTastes d (nI g) = some (D_set_taste d f) ∧ (∀ r, r < a_R b → f (g * 6 + r) = pt (lkf b g) b r 4) ∧ ∀ j r, j ≠ g → r < 6 → f (j * 6 + r) = D_taste d (j * 6 + r) := by
  obtain ⟨N, hN, hFU⟩ := FU_ex
  have hR6 := hI.1.2.1
  unfold f_X0_readyTastes
  rw [hFU]
  have key := it_rule (B := X0_readyTastes_B2) (bot := fun _ _ _ => none) (a_R b) (fun i (f : Nat → Int32) => (∀ r, r < i → f (g * 6 + r) = pt (lkf b g) b r 4) ∧ ∀ j r, j ≠ g → r < 6 → f (j * 6 + r) = D_taste d (j * 6 + r)) (fun k i f => ∃ f', k (D_set_taste d f) (nI g) (nI i) = some (D_set_taste d f') ∧ (∀ r, r < a_R b → f' (g * 6 + r) = pt (lkf b g) b r 4) ∧ ∀ j r, j ≠ g → r < 6 → f' (j * 6 + r) = D_taste d (j * 6 + r)) (by
      intro k f hf
      refine ⟨f, ?_, hf⟩
      unfold X0_readyTastes_B2
      show (if H_rooms (D_house d) ≤ nI (a_R b) then _ else _) = _
      rw [hH.1, if_pos (Int32.le_refl _)]) (by
      intro k i f hi ⟨f1, f2⟩ hk
      obtain ⟨f', k1, k2⟩ := hk (upd f (g * 6 + i) (pt (lkf b g) b i 4)) ⟨fun r hr => by
        by_cases c : r = i
        · subst c; exact pk_us
        · rw [pk_un (by omega)]; exact f1 r (by omega), fun j r hj hr => by rw [pk_un (by omega)]; exact f2 j r hj hr⟩
      refine ⟨f', ?_, k2⟩
      unfold X0_readyTastes_B2
      show (if H_rooms (D_house d) ≤ nI i then _ else (f_X1_pullOfThings (D_house d) (nI g) (nI i)).bind _) = _
      rw [hH.1, if_neg (nI_ge hi (by omega)), things_spec hH hg (by omega), Option.bind_some, ix6, chk_nI (by omega) (by decide), nI_clamp (by omega), ltA_eq, nI_1]
      exact k1) N 0 (D_taste d) (by omega) (by omega) ⟨fun r hr => absurd hr (Nat.not_lt_zero _), fun _ _ _ _ => rfl⟩
  exact key
theorem jam_in {d : DS} {b : AS} (hI : Inv b) (hH : Hc (D_house d) b) {g : Nat} (hg : g < 8) (hi : a_is b g = true) : ∃ f, f_X0_readyJam d (nI g) = some (D_set_wide d f) ∧ ∀ r q, r < 6 → q < 6 → f (r * 6 + q) = D_wide d (r * 6 + q) - nI (if stn b r q g then 1 else 0) := by
  have hbs := bs_lt hI hg
  obtain ⟨p1, p2, p3, p4⟩ := hH.2.2.2.2.2.1 g hg
  have hpl := (hI.2.2.2.2.2.1 g hg hi).1
  have hR6 := hI.1.2.1
  unfold f_X0_readyJam
  rw [chk_nI hg (by decide), chk_nI hg (by decide), chk_nI hg (by decide), nI_clamp (by omega), p1, p2, p3]
  by_cases c : a_bs b g = 3
  · obtain ⟨-, t, t1, t2, t3, t4⟩ := hI.2.2.2.2.2.2.2.2.1 g hg c
    have er : f_X1_isRoom (D_house d) (nI t) = some 1 := by
      unfold f_X1_isRoom; rw [if_neg (nI_pos (by omega)), hH.1, if_neg (nI_ge t1 (by omega))]
    rw [if_pos (show nI (a_bs b g) = (3 : Int32) by rw [c]; rfl), t3, oI_nat, er, Option.bind_some, if_neg (by decide), ix6, ix6, chk_nI (by omega) (by decide), chk_nI (by omega) (by decide), nI_clamp (by omega), nI_clamp (by omega), ltA_eq, chk_nI (by omega) (by decide), chk_nI (by omega) (by decide), ltA_eq]
    refine ⟨_, rfl, fun r q hr hq => ?_⟩
    have es : stn b r q g = decide ((r = a_pl b g ∧ q = t) ∨ (r = t ∧ q = a_pl b g)) := by
      unfold stn; rw [c, t3]
      have e1 : ((t : Int) == (q : Int)) = decide (t = q) := by rw [Bool.eq_iff_iff, beq_iff_eq, decide_eq_true_eq]; omega
      have e2 : ((t : Int) == (r : Int)) = decide (t = r) := by rw [Bool.eq_iff_iff, beq_iff_eq, decide_eq_true_eq]; omega
      rw [e1, e2, Bool.eq_iff_iff]
      simp only [Bool.and_eq_true, Bool.or_eq_true, beq_iff_eq, decide_eq_true_eq, true_and]
      constructor
      · rintro (⟨h1, h2⟩ | ⟨h1, h2⟩)
        · exact Or.inl ⟨h1.symm, h2.symm⟩
        · exact Or.inr ⟨h2.symm, h1.symm⟩
      · rintro (⟨h1, h2⟩ | ⟨h1, h2⟩)
        · exact Or.inl ⟨h1.symm, h2.symm⟩
        · exact Or.inr ⟨h2.symm, h1.symm⟩
    rw [es, pk_un (show t * 6 + a_pl b g ≠ a_pl b g * 6 + t by omega)]
    by_cases q1 : r = t ∧ q = a_pl b g
    · rw [q1.1, q1.2, pk_us]; simp; rfl
    · rw [pk_un (by omega)]
      by_cases q2 : r = a_pl b g ∧ q = t
      · rw [q2.1, q2.2, pk_us]; simp; rfl
      · rw [pk_un (by omega)]; simp [q1, q2]; exact (Int32.sub_zero _).symm
  · rw [if_neg (show ¬ nI (a_bs b g) = (3 : Int32) from fun h => c ((nI_eq (by omega) (b := 3) (by decide)).mp h))]
    refine ⟨D_wide d, rfl, fun r q hr hq => ?_⟩
    have es : stn b r q g = false := by unfold stn; simp [c]
    rw [es]; exact (Int32.sub_zero _).symm
theorem ready_spec {d : DS} {b : AS} (hI : Inv b) (hH : Hc (D_house d) b) : ∃ d', f_X0_ready d = some d' ∧ Dx d' b (fun _ _ => 0) lo0 := by
  obtain ⟨N, hN, hFU⟩ := FU_ex
  have hR6 := hI.1.2.1
  unfold f_X0_ready
  rw [hFU, ltA_eq, ltA_eq, ltA_eq]
  refine it_rule (bot := fun _ _ => none) 8 (fun i (s : DS) => D_house s = D_house d ∧ (∀ r, r < 6 → D_crowd s r = nI (cnt (fun j => a_is b j && a_pl b j == r) i)) ∧ (∀ g r, g < i → a_is b g = true → r < a_R b → D_taste s (g * 6 + r) = pt (lkf b g) b r 4) ∧ (∀ r q, r < 6 → q < 6 → D_wide s (r * 6 + q) = nI (a_wd b r q) - nI (cnt (stn b r q) i)) ∧ ∀ r q, r < 6 → q < 6 → D_gone s (r * 6 + q) = 0) (fun k i s => ∃ d', k s (nI i) = some d' ∧ Dx d' b (fun _ _ => 0) lo0) ?_ ?_ N 0 (D_set_wide (D_set_crowd (D_set_gone d (fillA 36 (0 : Int32) (D_gone d))) (fillA 6 (0 : Int32) (D_crowd d))) (va_cpy (H_width (D_house d)) (D_wide d) ((0 : Int32)).toNatClampNeg ((0 : Int32)).toNatClampNeg ((36 : Int32)).toNatClampNeg)) (by omega) (by omega) ⟨rfl, fun r hr => fill_at hr, fun g r hg => absurd hg (Nat.not_lt_zero _), fun r q hr hq => ?_, fun r q hr hq => fill_at (by omega)⟩
  · intro k s ⟨h1, h2, h3, h4, h5⟩
    refine ⟨s, by unfold X0_ready_B39; rw [if_pos (by decide)], by rw [h1]; exact hH, fun r hr => by rw [h2 r hr]; rfl, fun g r hg hi hr => h3 g r hg hi hr, fun r q hr hq => by rw [h4 r q hr hq]; rfl, h5⟩
  · intro k i s hi ⟨h1, h2, h3, h4, h5⟩ hk
    have hHs : Hc (D_house s) b := by rw [h1]; exact hH
    unfold X0_ready_B39 X0_ready_J84
    rw [if_neg (show ¬ (8 : Int32) ≤ nI i from nlit (by decide) hi), th_at hI hHs hi, Option.bind_some, nI_1]
    cases e : a_is b i
    · rw [if_pos (by decide)]
      refine hk s ⟨h1, fun r hr => ?_, fun g r hg hig hr => ?_, fun r q hr hq => ?_, h5⟩
      · rw [h2 r hr, cnt_s, e]; rfl
      · by_cases c : g = i
        · subst c; rw [e] at hig; cases hig
        · exact h3 g r (by omega) hig hr
      · have es : stn b r q i = false := by unfold stn; rw [(hI.2.2.2.2.1 i hi e).2.1]; rfl
        rw [h4 r q hr hq, cnt_s, es]; rfl
    · have hp : H_place (D_house s) i = nI (a_pl b i) := (hHs.2.2.2.2.2.1 i hi).1
      have hpl := (hI.2.2.2.2.2.1 i hi e).1
      rw [if_neg (by decide), chk_nI hi (by decide), nI_clamp (by omega), hp, chk_nI (show a_pl b i < 6 by omega) (by decide), chk_nI (show a_pl b i < 6 by omega) (by decide), nI_clamp (by omega), ltA_eq]
      obtain ⟨s1, es1⟩ : ∃ x, x = D_set_crowd s (upd (D_crowd s) (a_pl b i) (D_crowd s (a_pl b i) + 1)) := ⟨_, rfl⟩
      rw [← es1]
      have a1 : D_house s1 = D_house s := by rw [es1]; rfl
      have a2 : D_crowd s1 = upd (D_crowd s) (a_pl b i) (D_crowd s (a_pl b i) + 1) := by rw [es1]; rfl
      have a3 : D_taste s1 = D_taste s := by rw [es1]; rfl
      have a4 : D_wide s1 = D_wide s := by rw [es1]; rfl
      have a5 : D_gone s1 = D_gone s := by rw [es1]; rfl
      obtain ⟨f, t1, t2, t3⟩ := tastes_in hI (d := s1) (by rw [a1]; exact hHs) hi
      obtain ⟨f', j1, j2⟩ := jam_in hI (d := D_set_taste s1 f) (by show Hc (D_house s1) b; rw [a1]; exact hHs) hi e
      rw [t1, Option.bind_some, j1, Option.bind_some]
      refine hk _ ⟨?_, fun r hr => ?_, fun g r hg hig hr => ?_, fun r q hr hq => ?_, fun r q hr hq => ?_⟩
      · show D_house s1 = _; rw [a1]; exact h1
      · show D_crowd s1 r = _
        rw [a2, cnt_s, e]
        by_cases c : r = a_pl b i
        · rw [c, pk_us, h2 _ (by omega)]; simp; exact nI_1 _
        · rw [pk_un c, h2 r hr]; simp [show ¬ a_pl b i = r from fun h => c h.symm]
      · show f (g * 6 + r) = _
        by_cases c : g = i
        · rw [c]; exact t2 r hr
        · rw [t3 g r c (by omega), a3]; exact h3 g r (by omega) hig hr
      · show f' (r * 6 + q) = _
        rw [j2 r q hr hq]
        show D_wide s1 (r * 6 + q) - _ = _
        rw [a4, h4 r q hr hq, cnt_s, Int32.sub_sub, nI_add]
      · show D_gone s1 (r * 6 + q) = 0
        rw [a5]; exact h5 r q hr hq
  · show va_cpy (H_width (D_house d)) (D_wide d) 0 0 36 (r * 6 + q) = _
    rw [cpy_at (by omega), hH.2.2.2.2.1 r q hr hq, cnt_0]; exact (Int32.sub_zero _).symm
theorem begin_spec {d : DS} {h : HS} {b : AS} (hI : Inv b) (hH : Hc h b) : ∃ d', f_X0_begin d h = some d' ∧ Dx d' b (fun _ _ => 0) lo0 := by
  obtain ⟨y, e1, e2⟩ := copy_Hc (h := D_house d) hI.1.2.2.2 hH
  obtain ⟨d', e3, e4⟩ := ready_spec (d := D_set_house d y) hI e2
  refine ⟨d', ?_, e4⟩
  unfold f_X0_begin
  rw [e1, Option.bind_some, e3, Option.bind_some]
/-- the reference begins with what is -/
theorem asNow_Mx {z : MS} {a : AS} (hM : Mc (mcore z) a) : ∃ w, f_X9_asNow z = some w ∧ mkeep w = mkeep z ∧ Mx0 w a lo0 := by
  obtain ⟨w, e1, e2, e3⟩ := asNow_spec z
  refine ⟨w, e1, e2.1, asNow_Mc hM e2, fun r t hr ht => ?_⟩
  rw [e3]
  refine ⟨fun h => ?_, fun h => by cases h⟩
  rcases h with h | h
  · exact absurd h.symm (fun q => by have := nI_pos (n := 6 * r + t) (by omega); rw [q] at this; exact this (by decide))
  · exact absurd h.symm (fun q => by have := nI_pos (n := 6 * t + r) (by omega); rw [q] at this; exact this (by decide))
