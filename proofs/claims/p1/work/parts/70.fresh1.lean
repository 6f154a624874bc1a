/-! p1: the first call on a fresh object; the reference's side -/
def w0k : MS := (f_X9_empty zM0).getD zM0
theorem w0k_eq : f_X9_empty zM0 = some w0k := by
  obtain ⟨w, h, -⟩ := empty_spec zM0
  unfold w0k; rw [h]; rfl
theorem ex_w0 : ∃ w, f_X9_empty zM0 = some w := ⟨_, w0k_eq⟩
/-- the reference at first; w0k is the same, told out -/
noncomputable def w0c : MS := Classical.choose ex_w0
theorem w0_eq : f_X9_empty zM0 = some w0c := Classical.choose_spec ex_w0
theorem w0_k : w0c = w0k := Option.some.inj (w0_eq.symm.trans w0k_eq)
theorem w0_Mc : Mc (mcore w0c) (a0 3) := by
  obtain ⟨w, h, hE⟩ := empty_spec zM0
  have e : w = w0c := Option.some.inj (h.symm.trans w0_eq)
  rw [← e]
  exact (empty_Mc (n := 3) hE rfl).1
def q0k : HS := (f_X1_clear zH0 3).getD zH0
theorem q0k_eq : f_X1_clear zH0 (3 : Int32) = some q0k := by unfold q0k; rw [clear_eq]; rfl
theorem ex_q0 : ∃ q, f_X1_clear zH0 (3 : Int32) = some q := ⟨_, q0k_eq⟩
noncomputable def q0c : HS := Classical.choose ex_q0
theorem q0_eq : f_X1_clear zH0 (3 : Int32) = some q0c := Classical.choose_spec ex_q0
theorem q0_k : q0c = q0k := Option.some.inj (q0_eq.symm.trans q0k_eq)
theorem q0_Hc : Hc q0c (a0 3) := by
  obtain ⟨q, h, hE⟩ := clear_spec zH0 3
  have e : q = q0c := Option.some.inj (h.symm.trans q0_eq)
  rw [← e]; exact hE
theorem Iz3 : Inv (a0 3) := Inv_a0 (by decide) (by decide)
/-- the reference is as at first, in all that lasts -/
def Fz0 (z : MS) : Prop := Mc (mcore z) (a0 3)
theorem Fz0.to {z z' : MS} (h : Fz0 z) (e : mkeep z' = mkeep z) : Fz0 z' := by
  unfold Fz0; rw [show mcore z' = mcore z from congrArg (fun m => m.1) e]; exact h
theorem Fz0.th {z : MS} (h : Fz0 z) : M_there z = 0 := h.2.1
theorem Fz0.rm {z : MS} (h : Fz0 z) : M_rooms z = 3 := h.1
theorem Fz0.wd {z : MS} (h : Fz0 z) {r q : Nat} (hr : r < 6) (hq : q < 6) : M_width z (6 * r + q) = 0 := h.2.2.2.2.1 r q hr hq
theorem Fz0.isTh {z : MS} (h : Fz0 z) (x : Int32) : f_X9_isThere z x = some 0 := by
  rcases th_cases Iz3 q0_Hc h x with ⟨g, -, -, hg, -⟩ | ⟨-, h2⟩
  · rw [a0_is] at hg; cases hg
  · exact h2
theorem has_z {g : Nat} (hg : g < 8) : f_X9_has 0 (nI g) = some 0 := has_0 (T := 0) (by decide) hg (Nat.zero_testBit g)
theorem it_s {γ : Type} (B : γ → γ) (bot : γ) (n : Nat) : it B bot (n + 1) = B (it B bot n) := rfl
/-- shut(): no one has gone through any door -/
theorem shut_spec (z : MS) : ∃ w f, f_X9_shut z = some w ∧ mkeep w = mkeep z ∧ msc w = ((msc z).1, (msc z).2.1, (msc z).2.2.1, (msc z).2.2.2.1, (msc z).2.2.2.2.1, (msc z).2.2.2.2.2.1, f) ∧ ∀ k, k < 36 → f k = 0 := by
  obtain ⟨N, hN, hFU⟩ := FU_ex
  unfold f_X9_shut
  rw [hFU]
  refine it_rule (bot := fun _ _ => none) 36 (fun i (y : MS) => mkeep y = mkeep z ∧ ∃ f, msc y = ((msc z).1, (msc z).2.1, (msc z).2.2.1, (msc z).2.2.2.1, (msc z).2.2.2.2.1, (msc z).2.2.2.2.2.1, f) ∧ ∀ k, k < i → f k = 0) (fun k i y => ∃ w f, k y (nI i) = some w ∧ mkeep w = mkeep z ∧ msc w = ((msc z).1, (msc z).2.1, (msc z).2.2.1, (msc z).2.2.2.1, (msc z).2.2.2.2.1, (msc z).2.2.2.2.2.1, f) ∧ ∀ k, k < 36 → f k = 0) ?_ ?_ N 0 z (by omega) (by omega) ⟨rfl, M_through z, rfl, fun k hk => absurd hk (Nat.not_lt_zero _)⟩
  · intro k y ⟨h1, f, h2, h3⟩
    exact ⟨y, f, by unfold X9_shut_B2; rw [if_pos (by decide)], h1, h2, h3⟩
  · intro k i y hi ⟨h1, f, h2, h3⟩ hk
    obtain ⟨y1, ey1⟩ : ∃ x, x = M_set_through y (upd (M_through y) i 0) := ⟨_, rfl⟩
    obtain ⟨e1, e2⟩ := set_through ey1
    have ht : M_through y = f := congrArg (fun m => m.2.2.2.2.2.2) h2
    obtain ⟨w, f', a1, a2⟩ := hk y1 ⟨e1.trans h1, upd f i 0, by rw [e2, h2, ht], fun j hj => by
      by_cases q : j = i
      · subst q; exact pk_us
      · exact (pk_un q).trans (h3 j (by omega))⟩
    refine ⟨w, f', ?_, a2⟩
    unfold X9_shut_B2
    rw [if_neg (show ¬ (36 : Int32) ≤ nI i from nlit (by decide) hi), chk_nI hi (by decide), nI_clamp (by omega), ltA_eq, ← ey1, nI_1]
    exact a1
theorem pass_0 {z : MS} (h : Fz0 z) : ∃ w, f_X9_pass z = some (0, w) ∧ mkeep w = mkeep z := by
  obtain ⟨N, hN, hFU⟩ := FU_ex
  obtain ⟨w, f, h1, h2, -, -⟩ := shut_spec z
  have hw : Fz0 w := h.to h2
  refine ⟨w, ?_, h2⟩
  unfold f_X9_pass
  rw [h1, Option.bind_some, hFU]
  refine it_rule (bot := fun _ _ _ => none) 8 (fun i (_ : Unit) => True) (fun k i _ => k w 0 (nI i) = some (0, w)) ?_ ?_ N 0 () (by omega) (by omega) trivial
  · intro k _ _
    unfold X9_pass_B8
    rw [if_pos (by decide), hFU]
    refine it_rule (bot := fun _ _ _ => none) 8 (fun i (_ : Unit) => True) (fun k i _ => k w 0 (nI i) = some (0, w)) ?_ ?_ N 0 () (by omega) (by omega) trivial
    · intro k _ _; unfold X9_pass_B108; rw [if_pos (by decide)]
    · intro k i _ hi _ hk
      unfold X9_pass_B108 X9_pass_J165
      rw [if_neg (show ¬ (8 : Int32) ≤ nI i from nlit (by decide) hi), hw.th, has_z hi, Option.bind_some, if_pos rfl, nI_1]
      exact hk () trivial
  · intro k i _ hi _ hk
    unfold X9_pass_B8 X9_pass_J100
    rw [if_neg (show ¬ (8 : Int32) ≤ nI i from nlit (by decide) hi), hw.th, has_z hi, Option.bind_some, if_pos rfl, nI_1]
    exact hk () trivial
theorem goMin_0 {z : MS} (h : Fz0 z) {m : Nat} (hm : m < 100) : ∃ w, f_X9_goMinutes z (nI m) = some w ∧ mkeep w = mkeep z := by
  obtain ⟨N, hN, hFU⟩ := FU_ex
  unfold f_X9_goMinutes
  rw [hFU]
  refine it_rule (bot := fun _ _ _ => none) m (fun _ (y : MS) => mkeep y = mkeep z) (fun k i y => ∃ w, k y (nI m) (nI i) = some w ∧ mkeep w = mkeep z) ?_ ?_ N 0 z (by omega) (by omega) rfl
  · intro k y hy
    exact ⟨y, by unfold X9_goMinutes_B2; rw [if_pos (Int32.le_refl _)], hy⟩
  · intro k i y hi hy hk
    obtain ⟨w, hw, e⟩ := pass_0 (h.to hy)
    obtain ⟨w2, a1, a2⟩ := hk w (e.trans hy)
    refine ⟨w2, ?_, a2⟩
    unfold X9_goMinutes_B2
    rw [if_neg (nI_ge hi (by omega)), hw, Option.bind_some, nI_1]
    exact a1
theorem crowdIn_0 {z : MS} (h : Fz0 z) (x : Int32) : f_X9_crowdIn z x = some 0 := by
  obtain ⟨N, hN, hFU⟩ := FU_ex
  unfold f_X9_crowdIn
  rw [hFU]
  refine it_rule (bot := fun _ _ _ _ => none) 8 (fun i (n : Int32) => n = 0) (fun k i n => k z x n (nI i) = some 0) ?_ ?_ N 0 0 (by omega) (by omega) rfl
  · intro k n hn
    unfold X9_crowdIn_B4
    rw [if_pos (by decide), hn]
  · intro k i n hi hn hk
    unfold X9_crowdIn_B4 X9_crowdIn_J38 X9_crowdIn_J39
    rw [if_neg (show ¬ (8 : Int32) ≤ nI i from nlit (by decide) hi), h.th, has_z hi, Option.bind_some, if_pos rfl, nI_1]
    exact hk _ (by rw [hn]; rfl)
theorem countIn_0 {z : MS} (h : Fz0 z) (x y : Int32) : f_X9_countIn z x y = some 0 := by
  obtain ⟨N, hN, hFU⟩ := FU_ex
  unfold f_X9_countIn
  rw [hFU]
  refine it_rule (bot := fun _ _ _ _ _ => none) 8 (fun i (n : Int32) => n = 0) (fun k i n => k z x y n (nI i) = some 0) ?_ ?_ N 0 0 (by omega) (by omega) rfl
  · intro k n hn
    unfold X9_countIn_B5
    rw [if_pos (by decide), hn]
  · intro k i n hi hn hk
    unfold X9_countIn_B5 X9_countIn_J46 X9_countIn_J47
    rw [if_neg (show ¬ (8 : Int32) ≤ nI i from nlit (by decide) hi), h.th, has_z hi, Option.bind_some, if_pos rfl, nI_1]
    exact hk _ (by rw [hn]; rfl)
theorem rfull_0 {z : MS} (h : Fz0 z) : f_X9_fullest z = some 0 := by
  obtain ⟨N, hN, hFU⟩ := FU_ex
  unfold f_X9_fullest
  rw [hFU]
  refine it_rule (bot := fun _ _ _ => none) 3 (fun i (n : Int32) => n = 0) (fun k i n => k z n (nI i) = some 0) ?_ ?_ N 0 0 (by omega) (by omega) rfl
  · intro k n hn
    unfold X9_fullest_B4
    rw [h.rm, if_pos (by decide), hn]
  · intro k i n hi hn hk
    unfold X9_fullest_B4 X9_fullest_J30
    rw [h.rm, if_neg (show ¬ (3 : Int32) ≤ nI i from nlit (by decide) hi), countIn_0 h, Option.bind_some, hn, if_pos (Int32.le_refl _), nI_1]
    exact hk _ rfl
theorem stillAt_0 {z : MS} (h : Fz0 z) : ∃ w, f_X9_stillAt z = some (1, w) ∧ mkeep w = mkeep z := by
  obtain ⟨N, hN, hFU⟩ := FU_ex
  obtain ⟨n, rfl⟩ : ∃ n, N = n + 1 := ⟨N - 1, by omega⟩
  obtain ⟨y, hy, hA, -⟩ := asNow_spec z
  have hF := h.to hA.1
  obtain ⟨w, hw, e⟩ := pass_0 hF
  refine ⟨w, ?_, e.trans hA.1⟩
  unfold f_X9_stillAt
  rw [hy, Option.bind_some, hFU, it_s]
  unfold X9_stillAt_B6
  rw [if_neg (by decide), hFU]
  refine it_rule (bot := fun _ _ _ _ => none) 8 (fun i (_ : Unit) => True) (fun k i _ => k y 1 0 (nI i) = some (1, w)) ?_ ?_ (n + 1) 0 () (by omega) (by omega) trivial
  · intro k _ _
    unfold X9_stillAt_B16
    rw [if_pos (by decide), hw, Option.bind_some]
    rfl
  · intro k i _ hi _ hk
    unfold X9_stillAt_B16 X9_stillAt_J51 X9_stillAt_J52
    rw [if_neg (show ¬ (8 : Int32) ≤ nI i from nlit (by decide) hi), if_pos rfl, hF.th, has_z hi, Option.bind_some, if_pos rfl, nI_1]
    exact hk () trivial
