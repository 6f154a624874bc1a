theorem it_s {γ : Type} (B : γ → γ) (bot : γ) (n : Nat) : it B bot (n + 1) = B (it B bot n) := rfl
/-- shut(): no one has gone through any door -/
theorem shut_spec (z : MS) : ∃ w f, f_X9_shut z = some w ∧ mkeep w = mkeep z ∧ msc w = ((msc z).1, (msc z).2.1, (msc z).2.2.1, (msc z).2.2.2.1, (msc z).2.2.2.2.1, (msc z).2.2.2.2.2.1, f) ∧ ∀ k, k < 36 → f k = 0 := by
  obtain ⟨N, hN, hFU⟩ := FU_ex
  unfold f_X9_shut
  rw [hFU]
  refine it_rule (bot := fun _ _ => none) 36 (fun i (y : MS) => mkeep y = mkeep z ∧ ∃ f, msc y = ((msc z).1, (msc z).2.1, (msc z).2.2.1, (msc z).2.2.2.1, (msc z).2.2.2.2.1, (msc z).2.2.2.2.2.1, f) ∧ ∀ k, k < i → f k = 0) (fun k i y => ∃ w f, k y (nI i) = some w ∧ mkeep w = mkeep z ∧ msc w = ((msc z).1, (msc z).2.1, (msc z).2.2.1, (msc z).2.2.2.1, (msc z).2.2.2.2.1, (msc z).2.2.2.2.2.1, f) ∧ ∀ k, k < 36 → f k = 0) ?_ ?_ N 0 z (by omega) (by omega) ⟨rfl, M_through z, rfl, fun k hk => absurd hk (Nat.not_lt_zero _)⟩
  · intro k y ⟨h1, f, h2, h3⟩
    exact ⟨y, f, by unfold X9_shut_B2; rw [if_pos (by decide)], h1, h2, h3⟩
  · intro k i y hi ⟨h1, f, h2, h3⟩ hk
    obtain ⟨y1, ey1⟩ : ∃ x, x = M_set_through y (upd (M_through y) i 0) := ⟨_, rfl⟩
    obtain ⟨e1, e2⟩ := set_through ey1
    have ht : M_through y = f := congrArg (fun m => m.2.2.2.2.2.2) h2
    obtain ⟨w, f', a1, a2⟩ := hk y1 ⟨e1.trans h1, upd f i 0, by rw [e2, h2, ht], fun j hj => by
      by_cases q : j = i
      · subst q; exact pk_us
      · exact (pk_un q).trans (h3 j (by omega))⟩
    refine ⟨w, f', ?_, a2⟩
    unfold X9_shut_B2
    rw [if_neg (show ¬ (36 : Int32) ≤ nI i from nlit (by decide) hi), chk_nI hi (by decide), nI_clamp (by omega), ltA_eq, ← ey1, nI_1]
    exact a1
theorem copy_eq (h h2 : HS) : f_X1_copy h h2 = some (H_rooms h2, H_there h2, H_sights h2, va_cpy (H_measure h2) (H_measure h) 0 0 36, va_cpy (H_width h2) (H_width h) 0 0 36, va_cpy (H_place h2) (H_place h) 0 0 8, va_cpy (H_busy h2) (H_busy h) 0 0 8, va_cpy (H_mate h2) (H_mate h) 0 0 8, va_cpy (H_left h2) (H_left h) 0 0 8, va_cpy (H_likes h2) (H_likes h) 0 0 40, va_cpy (H_sightGuest h2) (H_sightGuest h) 0 0 6, va_cpy (H_sightRoom h2) (H_sightRoom h) 0 0 6) := rfl
theorem cpy_at {α : Type} {f g : Nat → α} {n j : Nat} (h : j < n) : va_cpy f g 0 0 n j = f j := by
  unfold va_cpy
  simp [h]
/-- copy(): all of a house is as the other's -/
theorem copy_spec (h h2 : HS) : ∃ h', f_X1_copy h h2 = some h' ∧ H_rooms h' = H_rooms h2 ∧ H_there h' = H_there h2 ∧ H_sights h' = H_sights h2 ∧ (∀ j, j < 36 → H_measure h' j = H_measure h2 j) ∧ (∀ j, j < 36 → H_width h' j = H_width h2 j) ∧ (∀ j, j < 8 → H_place h' j = H_place h2 j ∧ H_busy h' j = H_busy h2 j ∧ H_mate h' j = H_mate h2 j ∧ H_left h' j = H_left h2 j) ∧ (∀ j, j < 40 → H_likes h' j = H_likes h2 j) ∧ (∀ j, j < 6 → H_sightGuest h' j = H_sightGuest h2 j ∧ H_sightRoom h' j = H_sightRoom h2 j) :=
  ⟨_, copy_eq h h2, rfl, rfl, rfl, fun _ hj => cpy_at hj, fun _ hj => cpy_at hj, fun _ hj => ⟨cpy_at hj, cpy_at hj, cpy_at hj, cpy_at hj⟩, fun _ hj => cpy_at hj, fun _ hj => ⟨cpy_at hj, cpy_at hj⟩⟩
