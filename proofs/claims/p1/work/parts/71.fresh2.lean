/-! p1: the class' side -/
theorem copy_eq (h h2 : HS) : f_X1_copy h h2 = some (H_rooms h2, H_there h2, H_sights h2, va_cpy (H_measure h2) (H_measure h) 0 0 36, va_cpy (H_width h2) (H_width h) 0 0 36, va_cpy (H_place h2) (H_place h) 0 0 8, va_cpy (H_busy h2) (H_busy h) 0 0 8, va_cpy (H_mate h2) (H_mate h) 0 0 8, va_cpy (H_left h2) (H_left h) 0 0 8, va_cpy (H_likes h2) (H_likes h) 0 0 40, va_cpy (H_sightGuest h2) (H_sightGuest h) 0 0 6, va_cpy (H_sightRoom h2) (H_sightRoom h) 0 0 6) := rfl
theorem cpy_at {α : Type} {f g : Nat → α} {n j : Nat} (h : j < n) : va_cpy f g 0 0 n j = f j := by
  unfold va_cpy
  simp [h]
/-- nobody in a house of three rooms -/
def Hz0 (h : HS) : Prop := H_there h = 0 ∧ H_rooms h = 3 ∧ ∀ g, g < 8 → H_busy h g = 0
def Dz0 (d : DS) : Prop := Hz0 (D_house d) ∧ ∀ r, r < 6 → D_crowd d r = 0
theorem q0_Hz0 : Hz0 q0c := ⟨q0_Hc.2.1, q0_Hc.1, fun g hg => (q0_Hc.2.2.2.2.2.1 g hg).2.1⟩
/-- copy(): all of a house is as the other's -/
theorem copy_spec (h h2 : HS) : ∃ h', f_X1_copy h h2 = some h' ∧ H_rooms h' = H_rooms h2 ∧ H_there h' = H_there h2 ∧ H_sights h' = H_sights h2 ∧ (∀ j, j < 36 → H_measure h' j = H_measure h2 j) ∧ (∀ j, j < 36 → H_width h' j = H_width h2 j) ∧ (∀ j, j < 8 → H_place h' j = H_place h2 j ∧ H_busy h' j = H_busy h2 j ∧ H_mate h' j = H_mate h2 j ∧ H_left h' j = H_left h2 j) ∧ (∀ j, j < 40 → H_likes h' j = H_likes h2 j) ∧ (∀ j, j < 6 → H_sightGuest h' j = H_sightGuest h2 j ∧ H_sightRoom h' j = H_sightRoom h2 j) :=
  ⟨_, copy_eq h h2, rfl, rfl, rfl, fun _ hj => cpy_at hj, fun _ hj => cpy_at hj, fun _ hj => ⟨cpy_at hj, cpy_at hj, cpy_at hj, cpy_at hj⟩, fun _ hj => cpy_at hj, fun _ hj => ⟨cpy_at hj, cpy_at hj⟩⟩
theorem copy_0 (h : HS) : ∃ h', f_X1_copy h q0c = some h' ∧ Hz0 h' := by
  obtain ⟨h', e, e1, e2, -, -, -, e3, -⟩ := copy_spec h q0c
  exact ⟨h', e, e2.trans q0_Hz0.1, e1.trans q0_Hz0.2.1, fun g hg => (e3 g hg).2.1.trans (q0_Hz0.2.2 g hg)⟩
theorem isTh_0 {h : HS} (hh : Hz0 h) (x : Int32) : f_X1_isThere h x = some 0 := by
  unfold f_X1_isThere
  rcases num_cases x (n := 8) (by decide) with ⟨g, hg, rfl⟩ | hx
  · rw [if_neg (nI_pos (by omega)), if_neg (show ¬ (8 : Int32) ≤ nI g from nlit (by decide) hg), hh.1, if_neg (fun q => by have := (bit_1 (T := 0) (by decide) hg).mp q; rw [Nat.zero_testBit] at this; cases this)]
  · by_cases c : x < 0
    · rw [if_pos c]
    · rw [if_neg c, if_pos (show (8 : Int32) ≤ x from hx.resolve_left c)]
theorem bitsIn_0 {h : HS} (hh : Hz0 h) (x : Int32) : f_X1_bitsIn h x = some 0 := by
  obtain ⟨N, hN, hFU⟩ := FU_ex
  unfold f_X1_bitsIn
  rw [hFU]
  refine it_rule (bot := fun _ _ _ _ => none) 8 (fun i (n : Int32) => n = 0) (fun k i n => k h x n (nI i) = some 0) ?_ ?_ N 0 0 (by omega) (by omega) rfl
  · intro k n hn
    unfold X1_bitsIn_B4
    rw [if_pos (by decide), hn]
  · intro k i n hi hn hk
    unfold X1_bitsIn_B4 X1_bitsIn_J34
    rw [if_neg (show ¬ (8 : Int32) ≤ nI i from nlit (by decide) hi), isTh_0 hh, Option.bind_some, if_pos rfl, nI_1]
    exact hk _ hn
theorem count_0 {h : HS} (hh : Hz0 h) (x : Int32) : f_X1_count h x = some 0 := by
  unfold f_X1_count
  rw [bitsIn_0 hh, Option.bind_some, show f_J6_bitCount_0f7a4 0 = some 0 from by decide +kernel, Option.bind_some]
theorem ready_0 {d : DS} (hd : Hz0 (D_house d)) : ∃ d', f_X0_ready d = some d' ∧ Dz0 d' := by
  obtain ⟨N, hN, hFU⟩ := FU_ex
  unfold f_X0_ready
  rw [hFU, ltA_eq, ltA_eq, ltA_eq]
  obtain ⟨e, he⟩ : ∃ e, e = D_set_wide (D_set_crowd (D_set_gone d (fillA 36 (0 : Int32) (D_gone d))) (fillA 6 (0 : Int32) (D_crowd d))) (va_cpy (H_width (D_house d)) (D_wide d) ((0 : Int32)).toNatClampNeg ((0 : Int32)).toNatClampNeg ((36 : Int32)).toNatClampNeg) := ⟨_, rfl⟩
  rw [← he]
  have e1 : D_house e = D_house d := by rw [he]; rfl
  have e2 : ∀ r, r < 6 → D_crowd e r = 0 := fun r hr => by rw [he]; exact fill_at hr
  have hh : Hz0 (D_house e) := by rw [e1]; exact hd
  refine ⟨e, ?_, hh, e2⟩
  refine it_rule (bot := fun _ _ => none) 8 (fun i (_ : Unit) => True) (fun k i _ => k e (nI i) = some e) ?_ ?_ N 0 () (by omega) (by omega) trivial
  · intro k _ _; unfold X0_ready_B39; rw [if_pos (by decide)]
  · intro k i _ hi _ hk
    unfold X0_ready_B39 X0_ready_J84
    rw [if_neg (show ¬ (8 : Int32) ≤ nI i from nlit (by decide) hi), isTh_0 hh, Option.bind_some, if_pos rfl, nI_1]
    exact hk () trivial
theorem begin_0 (d : DS) : ∃ d', f_X0_begin d q0c = some d' ∧ Dz0 d' := by
  obtain ⟨h', e1, hh⟩ := copy_0 (D_house d)
  obtain ⟨d', e2, hd⟩ := ready_0 (d := D_set_house d h') hh
  refine ⟨d', ?_, hd⟩
  unfold f_X0_begin
  rw [e1, Option.bind_some, e2, Option.bind_some]
theorem talkOn_0 {h : HS} (hh : Hz0 h) : f_X1_talkOn h = some h := by
  obtain ⟨N, hN, hFU⟩ := FU_ex
  unfold f_X1_talkOn
  rw [hFU]
  refine it_rule (bot := fun _ _ => none) 8 (fun i (_ : Unit) => True) (fun k i _ => k h (nI i) = some h) ?_ ?_ N 0 () (by omega) (by omega) trivial
  · intro k _ _; unfold X1_talkOn_B2; rw [if_pos (by decide)]
  · intro k i _ hi _ hk
    unfold X1_talkOn_B2 X1_talkOn_J46
    rw [if_neg (show ¬ (8 : Int32) ≤ nI i from nlit (by decide) hi), chk_nI hi (by decide), nI_clamp (by omega), hh.2.2 i hi, if_neg (by decide), nI_1]
    exact hk () trivial
theorem anyTalks_0 {h : HS} (hh : Hz0 h) : f_X1_anyTalks h = some 0 := by
  obtain ⟨N, hN, hFU⟩ := FU_ex
  unfold f_X1_anyTalks
  rw [hFU]
  refine it_rule (bot := fun _ _ => none) 8 (fun i (_ : Unit) => True) (fun k i _ => k h (nI i) = some 0) ?_ ?_ N 0 () (by omega) (by omega) trivial
  · intro k _ _; unfold X1_anyTalks_B2; rw [if_pos (by decide)]
  · intro k i _ hi _ hk
    unfold X1_anyTalks_B2
    rw [if_neg (show ¬ (8 : Int32) ≤ nI i from nlit (by decide) hi), chk_nI hi (by decide), nI_clamp (by omega), hh.2.2 i hi, if_neg (by decide), nI_1]
    exact hk () trivial
theorem minute_0 {d : DS} (hd : Dz0 d) : ∃ d', f_X0_minute d = some (0, d') ∧ Dz0 d' := by
  obtain ⟨N, hN, hFU⟩ := FU_ex
  unfold f_X0_minute
  rw [hFU, ltA_eq]
  obtain ⟨e, he⟩ : ∃ e, e = D_set_gone d (fillA 36 (0 : Int32) (D_gone d)) := ⟨_, rfl⟩
  rw [← he]
  have e1 : D_house e = D_house d := by rw [he]; rfl
  have e2 : D_crowd e = D_crowd d := by rw [he]; rfl
  have hh : Hz0 (D_house e) := by rw [e1]; exact hd.1
  refine ⟨D_set_house e (D_house e), ?_, hh, fun r hr => (congrFun e2 r).trans (hd.2 r hr)⟩
  refine it_rule (bot := fun _ _ _ => none) 8 (fun i (_ : Unit) => True) (fun k i _ => k e 0 (nI i) = some (0, D_set_house e (D_house e))) ?_ ?_ N 0 () (by omega) (by omega) trivial
  · intro k _ _; unfold X0_minute_B12; rw [if_pos (by decide), talkOn_0 hh, Option.bind_some]
  · intro k i _ hi _ hk
    unfold X0_minute_B12 X0_minute_J52
    rw [if_neg (show ¬ (8 : Int32) ≤ nI i from nlit (by decide) hi), isTh_0 hh, Option.bind_some, if_pos rfl, nI_1]
    exact hk () trivial
theorem stillMin_0 {d : DS} (hd : Dz0 d) : ∃ d', f_X0_stillMinute d = some (1, d') ∧ Dz0 d' := by
  obtain ⟨d', e, h⟩ := minute_0 hd
  refine ⟨d', ?_, h⟩
  unfold f_X0_stillMinute
  rw [anyTalks_0 hd.1, Option.bind_some, e, Option.bind_some]
  rfl
theorem run_0 {d : DS} (hd : Dz0 d) (m : Nat) (hm : m < 100) : ∃ d', f_X0_run d (nI m) = some d' ∧ Dz0 d' := by
  obtain ⟨N, hN, hFU⟩ := FU_ex
  obtain ⟨n, rfl⟩ : ∃ n, N = n + 1 := ⟨N - 1, by omega⟩
  unfold f_X0_run
  rw [hFU, it_s]
  unfold X0_run_B2
  by_cases c : nI m ≤ 0
  · exact ⟨d, by rw [if_pos c], hd⟩
  · obtain ⟨d', e, h⟩ := stillMin_0 hd
    refine ⟨d', ?_, h⟩
    rw [if_neg c, e, Option.bind_some]
    rfl
theorem cfull_0 {d : DS} (hd : Dz0 d) : f_X0_fullest d = some 0 := by
  obtain ⟨N, hN, hFU⟩ := FU_ex
  unfold f_X0_fullest
  rw [hFU]
  refine it_rule (bot := fun _ _ _ => none) 3 (fun i (n : Int32) => n = 0) (fun k i n => k d n (nI i) = some 0) ?_ ?_ N 0 0 (by omega) (by omega) rfl
  · intro k n hn
    unfold X0_fullest_B4
    rw [hd.1.2.1, if_pos (by decide), hn]
  · intro k i n hi hn hk
    unfold X0_fullest_B4
    rw [hd.1.2.1, if_neg (show ¬ (3 : Int32) ≤ nI i from nlit (by decide) hi), chk_nI (show i < 6 by omega) (by decide), nI_clamp (by omega), hd.2 i (by omega), hn, if_neg (by decide), nI_1]
    exact hk _ rfl
