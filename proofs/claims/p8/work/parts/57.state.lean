/-- the reference's present, read as a lasting part -/
def mnow (w : MS) : MK := (M_rooms w, M_thingsNow w, M_size w, M_chairs w, M_width w, M_there w, M_likes w, M_at w, M_busyNow w, M_withNow w, M_leftNow w, M_sights w, M_sight w)
theorem asNow_Mc {z w : MS} {a : AS} (hM : Mc (mcore z) a) (h : AsN z w 8 24) : Mc (mnow w) a := by
  obtain ⟨m1, m2, m3, m4, m5, m6, m7⟩ := hM
  obtain ⟨k, h1, h2⟩ := h
  have e0 : M_rooms w = M_rooms z := congrArg (fun m => m.1.1) k
  have e2 : M_size w = M_size z := congrArg (fun m => m.1.2.2.1) k
  have e3 : M_chairs w = M_chairs z := congrArg (fun m => m.1.2.2.2.1) k
  have e4 : M_width w = M_width z := congrArg (fun m => m.1.2.2.2.2.1) k
  have e5 : M_there w = M_there z := congrArg (fun m => m.1.2.2.2.2.2.1) k
  have e6 : M_likes w = M_likes z := congrArg (fun m => m.1.2.2.2.2.2.2.1) k
  have e7 : M_sights w = M_sights z := congrArg (fun m => m.1.2.2.2.2.2.2.2.2.2.2.2.1) k
  have e8 : M_sight w = M_sight z := congrArg (fun m => m.1.2.2.2.2.2.2.2.2.2.2.2.2) k
  refine ⟨e0.trans m1, e5.trans m2, e7.trans m3, fun r hr => ⟨fun s hs => (h2 _ (by omega)).trans ((m4 r hr).1 s hs), ?_, ?_⟩, fun r q hr hq => ?_, fun g hg hi => ⟨?_, ?_, ?_, fun hb => ?_, fun k hk => ?_⟩, fun s hs => ?_⟩
  · show M_size w r = _; rw [e2]; exact (m4 r hr).2.1
  · show M_chairs w r = _; rw [e3]; exact (m4 r hr).2.2
  · show M_width w _ = _; rw [e4]; exact m5 r q hr hq
  · exact (h1 g hg).1.trans (m6 g hg hi).1
  · exact (h1 g hg).2.1.trans (m6 g hg hi).2.1
  · exact (h1 g hg).2.2.2.trans (m6 g hg hi).2.2.1
  · exact (h1 g hg).2.2.1.trans ((m6 g hg hi).2.2.2.1 hb)
  · show M_likes w _ = _; rw [e6]; exact (m6 g hg hi).2.2.2.2 k hk
  · show M_sight w _ = _ ∧ M_sight w _ = _; rw [e8]; exact m7 s hs
/-- what is told of a guest -/
def tellA (a : AS) (g t : Nat) : Int32 := if t = 0 then nI (a_pl a g) else if t = 1 then nI (a_bs a g) else if t = 2 then Int32.ofInt (a_mt a g) else nI (a_lf a g)
theorem tell_spec {h : HS} {a : AS} (hH : Hc h a) {g t : Nat} (hg : g < 8) (ht : t < 4) : f_X1_tellGuest h (nI g) (nI t) = some (tellA a g t) := by
  have e := hH.2.2.2.2.2.1 g hg
  unfold f_X1_tellGuest tellA
  rw [chk_nI hg (by decide), chk_nI hg (by decide), chk_nI hg (by decide), chk_nI hg (by decide), nI_clamp (by omega), e.1, e.2.1, e.2.2.1, e.2.2.2]
  rcases (show t = 0 ∨ t = 1 ∨ t = 2 ∨ t = 3 by omega) with rfl | rfl | rfl | rfl <;> rfl
theorem lf_0 {a : AS} (hI : Inv a) {g : Nat} (hg : g < 8) (hb : a_bs a g ≠ 1) (h3 : a_bs a g ≤ 3) : a_lf a g = 0 := by
  rcases (show a_bs a g = 0 ∨ a_bs a g = 2 ∨ a_bs a g = 3 by omega) with q | q | q
  · exact (hI.2.2.2.2.2.2.1 g hg (Or.inl q)).2
  · exact (hI.2.2.2.2.2.2.1 g hg (Or.inr q)).2
  · exact (hI.2.2.2.2.2.2.2.2.1 g hg q).1
theorem stateNow_spec {w : MS} {a : AS} (hI : Inv a) (hM : Mc (mnow w) a) {g t : Nat} (hg : g < 8) (hi : a_is a g = true) (ht : t < 4) : f_X9_stateNow w (nI g) (nI t) = some (tellA a g t) := by
  obtain ⟨e1, e2, e3, e4, -⟩ := hM.2.2.2.2.2.1 g hg hi
  have e1 : M_at w g = nI (a_pl a g) := e1
  have e2 : M_busyNow w g = nI (a_bs a g) := e2
  have e3 : M_leftNow w g = nI (a_lf a g) := e3
  have e4 : a_bs a g = 1 ∨ a_bs a g = 3 → M_withNow w g = Int32.ofInt (a_mt a g) := e4
  have b3 := (hI.2.2.2.2.2.1 g hg hi).2.1
  have J : ∀ s0 : Int32, (s0 = 0 → a_bs a g = 1 ∨ a_bs a g = 3) → (¬ s0 = 0 → a_bs a g = 0 ∨ a_bs a g = 2) → X9_stateNow_J24 w (nI g) (nI t) s0 = some (tellA a g t) := by
    intro s0 q0 q1
    unfold X9_stateNow_J24 tellA
    rw [chk_nI hg (by decide), chk_nI hg (by decide), chk_nI hg (by decide), chk_nI hg (by decide), chk_nI hg (by decide), nI_clamp (by omega), e1, e2, e3]
    rcases (show t = 0 ∨ t = 1 ∨ t = 2 ∨ t = 3 by omega) with rfl | rfl | rfl | rfl
    · rfl
    · rfl
    · show (if s0 = 0 then some (M_withNow w g) else some (-6)) = some (Int32.ofInt (a_mt a g))
      by_cases c : s0 = 0
      · rw [if_pos c, e4 (q0 c)]
      · rw [if_neg c, (hI.2.2.2.2.2.2.1 g hg (q1 c)).1]; rfl
    · show (if nI (a_bs a g) = 1 then some (nI (a_lf a g)) else some 0) = some (nI (a_lf a g))
      by_cases c : a_bs a g = 1
      · rw [c, if_pos (show nI 1 = (1 : Int32) from rfl)]
      · rw [if_neg (show ¬ nI (a_bs a g) = (1 : Int32) from fun q => c ((nI_eq (by omega) (b := 1) (by decide)).mp q)), lf_0 hI hg c b3]; rfl
  unfold f_X9_stateNow X9_stateNow_J19
  rw [chk_nI hg (by decide), chk_nI hg (by decide), nI_clamp (by omega), e2]
  by_cases c0 : a_bs a g = 0
  · rw [c0, if_pos (show nI 0 = (0 : Int32) from rfl)]; exact J 1 (fun q => absurd q (by decide)) (fun _ => Or.inl c0)
  · rw [if_neg (show ¬ nI (a_bs a g) = (0 : Int32) from fun q => c0 ((nI_eq (by omega) (b := 0) (by decide)).mp q))]
    by_cases c2 : a_bs a g = 2
    · rw [c2, if_pos (show nI 2 = (2 : Int32) from rfl)]; exact J 1 (fun q => absurd q (by decide)) (fun _ => Or.inr c2)
    · rw [if_neg (show ¬ nI (a_bs a g) = (2 : Int32) from fun q => c2 ((nI_eq (by omega) (b := 2) (by decide)).mp q))]
      exact J 0 (fun _ => by omega) (fun q => absurd rfl q)
theorem sim_state : Sim_state Rel := by
  intro S z x1 x2 h
  obtain ⟨⟨a, hI, hH, hM⟩, h3⟩ := id h
  have hH : Hc (K_now S) a := hH
  have hM : Mc (mcore z) a := hM
  rcases th_cases hI hH hM x1 with ⟨g, hg, rfl, hg1, t1, t2⟩ | ⟨t1, t2⟩
  · rcases num_cases x2 (n := 4) (by decide) with ⟨t, ht, rfl⟩ | hx2
    · obtain ⟨w, hw, hA, -⟩ := asNow_spec z
      refine ⟨tellA a g t, (tellA a g t, w), ?_, ?_, rfl, h.to rfl hA.1⟩
      · unfold f_X8_state; rw [t1, Option.bind_some, if_neg (by decide), tell_spec hH hg ht, Option.bind_some]
      · unfold f_X9_state; rw [t2, Option.bind_some, if_neg (by decide), show f_X9_in (nI t) 0 3 = some 1 from in_nI (n := 4) ht (by decide), Option.bind_some, if_neg (by decide), hw, Option.bind_some, stateNow_spec hI (asNow_Mc hM hA) hg hg1 ht, Option.bind_some]
    · refine ⟨-2, (-2, z), ?_, ?_, rfl, h⟩
      · unfold f_X8_state f_X1_tellGuest
        have n0 : ∀ j : Nat, j < 4 → ¬ x2 = nI j := fun j hj q => by
          rcases hx2 with c | c
          · rw [q] at c; exact nI_pos (by omega) c
          · rw [q] at c; exact nlit (by decide) hj c
        rw [t1, Option.bind_some, if_neg (by decide), if_neg (show ¬ x2 = (0 : Int32) from n0 0 (by decide)), if_neg (show ¬ x2 = (1 : Int32) from n0 1 (by decide)), if_neg (show ¬ x2 = (2 : Int32) from n0 2 (by decide)), if_neg (show ¬ x2 = (3 : Int32) from n0 3 (by decide)), Option.bind_some]
      · unfold f_X9_state; rw [t2, Option.bind_some, if_neg (by decide), show f_X9_in x2 0 3 = some 0 from in_no (n := 4) (by decide) (by decide) hx2, Option.bind_some, if_pos rfl]
  · refine ⟨-1, (-1, z), ?_, ?_, rfl, h⟩
    · unfold f_X8_state; rw [t1, Option.bind_some, if_pos rfl]
    · unfold f_X9_state; rw [t2, Option.bind_some, if_pos rfl]
