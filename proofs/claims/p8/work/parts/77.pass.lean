/-! the reference's minute -/
theorem gp_keep {w w' : MS} (h : mkeep w' = mkeep w) : M_rooms w' = M_rooms w ∧ M_size w' = M_size w ∧ M_chairs w' = M_chairs w ∧ M_width w' = M_width w ∧ M_there w' = M_there w ∧ M_likes w' = M_likes w ∧ M_sights w' = M_sights w ∧ M_sight w' = M_sight w := ⟨congrArg (fun m => m.1.1) h, congrArg (fun m => m.1.2.2.1) h, congrArg (fun m => m.1.2.2.2.1) h, congrArg (fun m => m.1.2.2.2.2.1) h, congrArg (fun m => m.1.2.2.2.2.2.1) h, congrArg (fun m => m.1.2.2.2.2.2.2.1) h, congrArg (fun m => m.1.2.2.2.2.2.2.2.2.2.2.2.1) h, congrArg (fun m => m.1.2.2.2.2.2.2.2.2.2.2.2.2) h⟩
/-- the present, out of what lasts and what is now -/
theorem mnow_eq {w w' : MS} (h : mkeep w' = mkeep w) : mnow w' = ((mnow w).1, M_thingsNow w', (mnow w).2.2.1, (mnow w).2.2.2.1, (mnow w).2.2.2.2.1, (mnow w).2.2.2.2.2.1, (mnow w).2.2.2.2.2.2.1, M_at w', M_busyNow w', M_withNow w', M_leftNow w', (mnow w).2.2.2.2.2.2.2.2.2.2.2.1, (mnow w).2.2.2.2.2.2.2.2.2.2.2.2) := by
  obtain ⟨e1, e2, e3, e4, e5, e6, e7, e8⟩ := gp_keep h
  unfold mnow
  rw [e1, e2, e3, e4, e5, e6, e7, e8]
/-- a change of the present -/
theorem Mc_now {w w' : MS} {b b' : AS} (h : mkeep w' = mkeep w) (hM : Mc (mnow w) b) (eR : a_R b' = a_R b) (eT : a_T b' = a_T b) (ek : a_k b' = a_k b) (esz : a_sz b' = a_sz b) (ech : a_ch b' = a_ch b) (ewd : a_wd b' = a_wd b) (esg : a_sg b' = a_sg b) (esr : a_sr b' = a_sr b) (hth : ∀ r s, r < 6 → s < 4 → M_thingsNow w' (4 * r + s) = nI (a_th b' r s)) (hlk : ∀ g k, g < 8 → k < 5 → a_is b g = true → lkf b' g k = lkf b g k) (hg : ∀ g, g < 8 → a_is b g = true → M_at w' g = nI (a_pl b' g) ∧ M_busyNow w' g = nI (a_bs b' g) ∧ M_leftNow w' g = nI (a_lf b' g) ∧ (a_bs b' g = 1 ∨ a_bs b' g = 3 → M_withNow w' g = Int32.ofInt (a_mt b' g))) : Mc (mnow w') b' := by
  rw [mnow_eq h]
  obtain ⟨m1, m2, m3, m4, m5, m6, m7⟩ := hM
  refine ⟨?_, ?_, ?_, fun r hr => ⟨fun s hs => hth r s hr hs, ?_, ?_⟩, fun r q hr hq => ?_, fun g hg' hi => ?_, fun s hs => ?_⟩
  · rw [eR]; exact m1
  · rw [eT]; exact m2
  · rw [ek]; exact m3
  · rw [esz]; exact (m4 r hr).2.1
  · rw [ech]; exact (m4 r hr).2.2
  · rw [ewd]; exact m5 r q hr hq
  · have hi' : a_is b g = true := by unfold a_is at hi ⊢; rw [← eT]; exact hi
    obtain ⟨q1, q2, q3, q4⟩ := hg g hg' hi'
    exact ⟨q1, q2, q3, q4, fun k hk => ((m6 g hg' hi').2.2.2.2 k hk).trans (hlk g k hg' hk hi').symm⟩
  · rw [ek] at hs; rw [esg, esr]; exact m7 s hs
theorem gt_now {w : MS} {b : AS} (hM : Mc (mnow w) b) {g : Nat} (hg : g < 8) (hi : a_is b g = true) : M_at w g = nI (a_pl b g) ∧ M_busyNow w g = nI (a_bs b g) ∧ M_leftNow w g = nI (a_lf b g) ∧ (a_bs b g = 1 ∨ a_bs b g = 3 → M_withNow w g = Int32.ofInt (a_mt b g)) := ⟨(hM.2.2.2.2.2.1 g hg hi).1, (hM.2.2.2.2.2.1 g hg hi).2.1, (hM.2.2.2.2.2.1 g hg hi).2.2.1, (hM.2.2.2.2.2.1 g hg hi).2.2.2.1⟩
theorem gt_th {w : MS} {b : AS} (hM : Mc (mnow w) b) {r s : Nat} (hr : r < 6) (hs : s < 4) : M_thingsNow w (4 * r + s) = nI (a_th b r s) := (hM.2.2.2.1 r hr).1 s hs
