/-! p1: what is told by closed numbers -/
theorem out_x {x : Int32} {n : Nat} (h : x < 0 ∨ nI n ≤ x) : x < 0 ∨ ¬ x < nI n := h.imp id (fun q => Int32.not_lt.mpr q)
set_option maxRecDepth 100000 in
theorem p1_fault : SimN_fault Rz0 Rz1 := by
  intro S z h_R; rw [h_R.1, h_R.2]
  exact ⟨-6, -6, (show f_X8_fault q0c zP0 = some (-6) by rw [q0_k]; decide +kernel), (show f_X9_fault w0c = some (-6) by rw [w0_k]; decide +kernel), rfl, trivial⟩
set_option maxRecDepth 100000 in
theorem p1_done : SimN_done Rz0 Rz1 := by
  intro S z h_R; rw [h_R.1, h_R.2]
  exact same_ex (show same (f_X8_done q0c zP0 zD0 zY0) (f_X9_done w0c) = true by rw [q0_k, w0_k]; decide +kernel)
set_option maxRecDepth 100000 in
theorem p1_still : SimN_still Rz0 Rz1 := by
  intro S z h_R; rw [h_R.1, h_R.2]
  exact same_ex (show same (f_X8_still q0c zD0) (f_X9_still w0c) = true by rw [q0_k, w0_k]; decide +kernel)
set_option maxRecDepth 100000 in
theorem p1_round : SimN_round Rz0 Rz1 := by
  intro S z h_R; rw [h_R.1, h_R.2]
  exact same_ex (show same (f_X8_round q0c zD0 (fun _ => 0)) (f_X9_round w0c) = true by rw [q0_k, w0_k]; decide +kernel)
set_option maxRecDepth 100000 in
theorem judge_c : ∀ j : Fin 2, same (f_X8_judge q0c zP0 zD0 zY0 (nI j.val)) (f_X9_judge w0c (nI j.val)) = true := by simp only [q0_k, w0_k]; decide +kernel
theorem p1_judge : SimN_judge Rz0 Rz1 := by
  intro S z x h_R; rw [h_R.1, h_R.2]
  rcases num_cases x (n := 2) (by decide) with ⟨j, hj, rfl⟩ | hx
  · exact same_ex (judge_c ⟨j, hj⟩)
  · refine ⟨(-2, zD0, zY0), (-2, w0c), ?_, ?_, rfl, trivial⟩
    · show f_X8_judge q0c zP0 zD0 zY0 x = _; unfold f_X8_judge
      by_cases c : x < 0
      · rw [if_pos c]
      · rw [if_neg c, if_neg (show ¬ x ≤ (1 : Int32) from fun q => absurd (hx.resolve_left c) (Int32.not_le.mpr (Int32.lt_of_le_of_lt q (by decide))))]
    · unfold f_X9_judge; rw [show f_X9_in x 0 1 = some 0 from in_no (n := 2) (by decide) (by decide) hx, Option.bind_some, if_pos rfl]
set_option maxRecDepth 100000 in
theorem image_c : ∀ j : Fin 2, same (f_X8_image q0c (fun _ => 0) zH0 zH0 (nI j.val)) (f_X9_image w0c (nI j.val)) = true := by simp only [q0_k, w0_k]; decide +kernel
theorem p1_image : SimN_image Rz0 Rz1 := by
  intro S z x h_R; rw [h_R.1, h_R.2]
  rcases num_cases x (n := 2) (by decide) with ⟨j, hj, rfl⟩ | hx
  · exact same_ex (image_c ⟨j, hj⟩)
  · refine ⟨(-2, (fun _ => 0), zH0, zH0), (-2, w0c), ?_, ?_, rfl, trivial⟩
    · show f_X8_image q0c (fun _ => 0) zH0 zH0 x = _; unfold f_X8_image
      by_cases c : x < 0
      · rw [if_pos c]
      · rw [if_neg c, if_neg (show ¬ x < (2 : Int32) from Int32.not_lt.mpr (hx.resolve_left c))]
    · unfold f_X9_image; rw [show f_X9_in x 0 1 = some 0 from in_no (n := 2) (by decide) (by decide) hx, Option.bind_some, if_pos rfl]
set_option maxRecDepth 100000 in
theorem restore_c : ∀ j : Fin 2, same (f_X8_restore q0c (fun _ => 0) zH0 zH0 (nI j.val)) (f_X9_restore w0c (nI j.val)) = true := by simp only [q0_k, w0_k]; decide +kernel
theorem p1_restore : SimN_restore Rz0 Rz1 := by
  intro S z x h_R; rw [h_R.1, h_R.2]
  rcases num_cases x (n := 2) (by decide) with ⟨j, hj, rfl⟩ | hx
  · exact same_ex (restore_c ⟨j, hj⟩)
  · refine ⟨(-2, q0c), (-2, w0c), ?_, ?_, rfl, trivial⟩
    · show f_X8_restore q0c (fun _ => 0) zH0 zH0 x = _; unfold f_X8_restore
      by_cases c : x < 0
      · rw [if_pos c]
      · rw [if_neg c, if_neg (show ¬ x < (2 : Int32) from Int32.not_lt.mpr (hx.resolve_left c))]
    · unfold f_X9_restore; rw [show f_X9_in x 0 1 = some 0 from in_no (n := 2) (by decide) (by decide) hx, Option.bind_some, if_pos rfl]
set_option maxRecDepth 100000 in
theorem guest_c : ∀ g : Fin 8, ∀ r : Fin 3, same (f_X8_guest q0c (nI g.val) (nI r.val)) (f_X9_guest w0c (nI g.val) (nI r.val)) = true := by simp only [q0_k, w0_k]; decide +kernel
theorem p1_guest : SimN_guest Rz0 Rz1 := by
  intro S z x y h_R; rw [h_R.1, h_R.2]
  rcases num_cases x (n := 8) (by decide) with ⟨g, hg, rfl⟩ | hx
  · rcases rm_cases Iz3 q0_Hc w0_Mc y with ⟨r, hr, rfl, -, -⟩ | ⟨-, e1, e2⟩
    · exact same_ex (guest_c ⟨g, hg⟩ ⟨r, hr⟩)
    · refine ⟨(-1, q0c), (-1, w0c), ?_, ?_, rfl, trivial⟩
      · show f_X8_guest q0c (nI g) y = _; unfold f_X8_guest
        rw [if_neg (nI_pos (by omega)), if_neg (show ¬ (8 : Int32) ≤ nI g from nlit (by decide) hg), e1, Option.bind_some, if_pos rfl]
      · unfold f_X9_guest; rw [show f_X9_in (nI g) 0 7 = some 1 from in_nI (n := 8) hg (by decide), Option.bind_some, if_neg (by decide), e2, Option.bind_some, if_pos rfl]
  · refine ⟨(-1, q0c), (-1, w0c), ?_, ?_, rfl, trivial⟩
    · show f_X8_guest q0c x y = _; unfold f_X8_guest
      by_cases c : x < 0
      · rw [if_pos c]
      · rw [if_neg c, if_pos (show (8 : Int32) ≤ x from hx.resolve_left c)]
    · unfold f_X9_guest; rw [show f_X9_in x 0 7 = some 0 from in_no (n := 8) (by decide) (by decide) hx, Option.bind_some, if_pos rfl]
set_option maxRecDepth 100000 in
theorem door_c : ∀ r q : Fin 3, ∀ v : Fin 4, same (f_X8_door q0c (nI r.val) (nI q.val) (nI v.val)) (f_X9_door w0c (nI r.val) (nI q.val) (nI v.val)) = true := by simp only [q0_k, w0_k]; decide +kernel
theorem p1_door : SimN_door Rz0 Rz1 := by
  intro S z x y v h_R; rw [h_R.1, h_R.2]
  rcases rm_cases Iz3 q0_Hc w0_Mc x with ⟨r, hr, rfl, a1, a2⟩ | ⟨-, a1, a2⟩
  · rcases rm_cases Iz3 q0_Hc w0_Mc y with ⟨q, hq, rfl, b1, b2⟩ | ⟨-, b1, b2⟩
    · rcases num_cases v (n := 4) (by decide) with ⟨j, hj, rfl⟩ | hx
      · exact same_ex (door_c ⟨r, hr⟩ ⟨q, hq⟩ ⟨j, hj⟩)
      · by_cases c : nI r = nI q
        · refine ⟨(-1, q0c), (-1, w0c), ?_, ?_, rfl, trivial⟩
          · show f_X8_door q0c (nI r) (nI q) v = _; unfold f_X8_door
            rw [a1, Option.bind_some, if_neg (by decide), b1, Option.bind_some, if_neg (by decide), if_pos c]
          · unfold f_X9_door; rw [a2, Option.bind_some, if_neg (by decide), b2, Option.bind_some, if_neg (by decide), if_pos c]
        · refine ⟨(-2, q0c), (-2, w0c), ?_, ?_, rfl, trivial⟩
          · show f_X8_door q0c (nI r) (nI q) v = _; unfold f_X8_door
            rw [a1, Option.bind_some, if_neg (by decide), b1, Option.bind_some, if_neg (by decide), if_neg c]
            by_cases c2 : v < 0
            · rw [if_pos c2]
            · rw [if_neg c2, if_neg (show ¬ v ≤ (3 : Int32) from fun q => absurd (hx.resolve_left c2) (Int32.not_le.mpr (Int32.lt_of_le_of_lt q (by decide))))]
          · unfold f_X9_door; rw [a2, Option.bind_some, if_neg (by decide), b2, Option.bind_some, if_neg (by decide), if_neg c, show f_X9_in v 0 3 = some 0 from in_no (n := 4) (by decide) (by decide) hx, Option.bind_some, if_pos rfl]
    · refine ⟨(-1, q0c), (-1, w0c), ?_, ?_, rfl, trivial⟩
      · show f_X8_door q0c (nI r) y v = _; unfold f_X8_door
        rw [a1, Option.bind_some, if_neg (by decide), b1, Option.bind_some, if_pos rfl]
      · unfold f_X9_door; rw [a2, Option.bind_some, if_neg (by decide), b2, Option.bind_some, if_pos rfl]
  · refine ⟨(-1, q0c), (-1, w0c), ?_, ?_, rfl, trivial⟩
    · show f_X8_door q0c x y v = _; unfold f_X8_door
      rw [a1, Option.bind_some, if_pos rfl]
    · unfold f_X9_door; rw [a2, Option.bind_some, if_pos rfl]
