/-- the party's whole play -/
def ptyA (c : Nat → Nat) (n : Nat) (a : AS) : Nat × AS × Nat := plA c n (n + 1) 0 a 0
theorem pty_ev {c : Nat → Nat} {n : Nat} : ∀ f i b ev, (plA c n f i b ev).2.2 ≤ ev + f
  | 0, _, _, ev => Nat.le_add_right ev 0
  | f + 1, i, b, ev => by
    rw [plA_s]
    split
    · show ev ≤ ev + (f + 1); omega
    · split
      · show ev ≤ ev + (f + 1); omega
      · have := pty_ev (c := c) (n := n) f (i + (evA c b i).2.2) (evA c b i).2.1 (ev + 1); omega
section PT
variable {a : AS} {R n : Nat} {c : Nat → Nat}
theorem cperf_spec {pd : PS} {h : HS} (hI : Inv a) (hH : Hc h a) (hn : n ≤ 60) (hu : P_used pd = nI n) (hs : ∀ j, j < n → P_signs pd j = nI (c j) ∧ 33 ≤ c j ∧ c j ≤ 126) (hf : fa (a_R a) c n n 0 0 = -6) (y : YS) (d : DS) : ∃ y' d', f_X3_perform y pd h d = some (y', d') ∧ Y_why y' = nI (ptyA c n a).1 ∧ Y_events y' = nI (ptyA c n a).2.2 ∧ ((ptyA c n a).1 = 0 → Inv (ptyA c n a).2.1 ∧ Hc (D_house d') (ptyA c n a).2.1) := by
  obtain ⟨N, hN, hFU⟩ := FU_ex
  obtain ⟨d1, b1, b2⟩ := begin_spec (d := d) hI hH
  obtain ⟨y', d', p1, p2⟩ := cplay_spec (R := a_R a) hn hu hs h N (n + 1) 0 0 a d1 (Y_set_why (Y_set_events y (0 : Int32)) (0 : Int32)) (by omega) (by omega) (by omega) (by omega) hI rfl (fun _ => hf) b2.1 rfl rfl
  refine ⟨y', d', ?_, p2⟩
  unfold f_X3_perform
  rw [b1, Option.bind_some, hFU]
  exact p1
theorem rparty_spec {z : MS} (hI : Inv a) (hM : Mc (mcore z) a) (hn : n ≤ 60) (hu : M_signs z = nI n) (hs : ∀ j, j < n → M_pad z j = nI (c j) ∧ 33 ≤ c j ∧ c j ≤ 126) (hf : fa (a_R a) c n n 0 0 = -6) : ∃ s', f_X9_goParty z = some (if (ptyA c n a).1 = 0 then -6 else nI (ptyA c n a).2.2, s') ∧ mkeep s' = mkeep z ∧ ((ptyA c n a).1 = 0 → Mx0 s' (ptyA c n a).2.1 lo0 ∧ M_events s' = nI (ptyA c n a).2.2) ∧ ((ptyA c n a).1 ≠ 0 → M_reason s' = nI (ptyA c n a).1) := by
  obtain ⟨N, hN, hFU⟩ := FU_ex
  obtain ⟨w, e1, e2, e3⟩ := asNow_Mx hM
  obtain ⟨w1, ew⟩ : ∃ y, y = M_set_events w 0 := ⟨_, rfl⟩
  obtain ⟨a1, a2, a3, a4⟩ := eev_sx ew
  obtain ⟨s', p1, p2⟩ := rplay_spec (R := a_R a) hn hu hs N (n + 1) 0 0 a w1 (by omega) (by omega) (by omega) hI rfl (fun _ => hf) (a1.trans e2) (e3.sc a1 a2) a4
  refine ⟨s', ?_, p2⟩
  unfold f_X9_goParty
  rw [e1, Option.bind_some, ltA_eq, ← ew, hFU]
  exact p1
/-- the party has a fault, or none, on both sides -/
theorem fa_cases (hn : n ≤ 60) : fa R c n n 0 0 = -6 ∨ ∃ k, k < 1000 ∧ fa R c n n 0 0 = nI k := fa_pos (by omega) n 0 0 (by omega)
end PT
theorem plA_why {c : Nat → Nat} {n R : Nat} (hn : n ≤ 60) : ∀ f i b ev, Inv b → a_R b = R → (i < n → fa R c n (n - i) i 0 = -6) → (plA c n f i b ev).1 ≤ 6
  | 0, _, _, _, _, _, _ => Nat.zero_le _
  | f + 1, i, b, ev, hI, hR, hf => by
    rw [plA_s]
    by_cases c1 : n ≤ i
    · rw [if_pos c1]; exact Nat.zero_le _
    · rw [if_neg c1]
      obtain ⟨o1, o2, o3⟩ := ev_ok hI hR hn (show i < n by omega) (hf (by omega))
      by_cases c2 : (evA c b i).1 = 0
      · obtain ⟨q1, q2, q3⟩ := o3 c2
        rw [if_neg (fun h => h c2)]
        exact plA_why hn f _ _ _ q1 q2 (fun _ => q3)
      · rw [if_pos c2]; exact o1
theorem sim_judge : Sim_judge Rel := by
  intro S z x h
  obtain ⟨⟨a, hI, hH, hM⟩, hp, h3⟩ := id h
  have hH : Hc (K_now S) a := hH
  have hM : Mc (mcore z) a := hM
  have hp : PadR (K_pad S) (M_signs z) (M_pad z) := hp
  obtain ⟨n, c, hn, u1, u2, s1, s2⟩ := PadR.nat hp
  have hR6 := hI.1.2.1
  have hR2 := hI.1.1
  have f1 := flaw_spec hR6 hn u1 s1
  have f2 := faultOf_spec (by omega) hR6 hn hM.1 u2 s2
  have f1 : f_X2_flaw (K_pad S) (H_rooms (K_now S)) = some (fa (a_R a) c n n 0 0) := by rw [hH.1]; exact f1
  rcases num_cases x (n := 2) (by decide) with ⟨j, hj, rfl⟩ | hx
  · have tin : f_X9_in (nI j) 0 1 = some 1 := in_nI (n := 2) hj (by decide)
    have n10 : ¬ (1 : Int32) = 0 := by decide
    rcases fa_cases (R := a_R a) (c := c) hn with hf | ⟨k, hk, hf⟩
    · obtain ⟨y', d', p1, p2, p3, p4⟩ := cperf_spec hI hH hn u1 s1 hf (K_play S) (K_drift S)
      obtain ⟨s', q1, q2, q3, q4⟩ := rparty_spec hI hM hn u2 s2 hf
      have hle : (ptyA c n a).1 ≤ 6 := plA_why hn (n + 1) 0 a 0 hI rfl (fun _ => hf)
      have hev : (ptyA c n a).2.2 ≤ 0 + (n + 1) := pty_ev (n + 1) 0 a 0
      have e1 : f_X8_judge (K_now S) (K_pad S) (K_drift S) (K_play S) (nI j) = some (if (ptyA c n a).1 = 0 then -6 else if j = 0 then nI (ptyA c n a).2.2 else nI (ptyA c n a).1, d', y') := by
        unfold f_X8_judge
        rw [if_neg (nI_pos (by omega)), if_pos (show nI j ≤ (1 : Int32) from nI_le (b := 1) (by omega) (by decide)), f1, Option.bind_some, if_pos hf, p1, Option.bind_some]
        show (if Y_why y' = 0 then some (-6, d', y') else if nI j = 0 then some (Y_events y', d', y') else some (Y_why y', d', y')) = _
        rw [p2, p3]
        by_cases c1 : (ptyA c n a).1 = 0
        · rw [if_pos (show nI (ptyA c n a).1 = 0 by rw [c1]; rfl), if_pos c1]
        · rw [if_neg (show ¬ nI (ptyA c n a).1 = 0 from fun q => c1 ((nI_eq (by omega) (b := 0) (by decide)).mp q)), if_neg c1]
          by_cases c2 : j = 0
          · rw [if_pos (show nI j = 0 by rw [c2]; rfl), if_pos c2]
          · rw [if_neg (show ¬ nI j = 0 from fun q => c2 ((nI_eq (by omega) (b := 0) (by decide)).mp q)), if_neg c2]
      have e2 : f_X9_judge z (nI j) = some (if (ptyA c n a).1 = 0 then -6 else if j = 0 then nI (ptyA c n a).2.2 else nI (ptyA c n a).1, s') := by
        unfold f_X9_judge X9_judge_J35
        rw [tin, Option.bind_some, if_neg n10, f2, Option.bind_some, hf, if_pos (by decide), q1, Option.bind_some]
        by_cases c1 : (ptyA c n a).1 = 0
        · simp only [c1, if_true]
          rw [if_pos (by decide)]
        · simp only [c1, if_false]
          rw [if_neg (nI_pos (by omega)), q4 c1]
          by_cases c2 : j = 0
          · rw [if_pos (show nI j = 0 by rw [c2]; rfl), if_pos c2]
          · rw [if_neg (show ¬ nI j = 0 from fun q => c2 ((nI_eq (by omega) (b := 0) (by decide)).mp q)), if_neg c2]
      exact ⟨_, _, e1, e2, rfl, h.to rfl q2⟩
    · refine ⟨(-5, K_drift S, K_play S), (-5, z), ?_, ?_, rfl, h.to rfl rfl⟩
      · unfold f_X8_judge
        rw [if_neg (nI_pos (by omega)), if_pos (show nI j ≤ (1 : Int32) from nI_le (b := 1) (by omega) (by decide)), f1, Option.bind_some, hf, if_neg (n6 hk)]
      · unfold f_X9_judge
        rw [tin, Option.bind_some, if_neg n10, f2, Option.bind_some, hf, if_neg (nI_pos (by omega))]
  · refine ⟨(-2, K_drift S, K_play S), (-2, z), ?_, ?_, rfl, h.to rfl rfl⟩
    · unfold f_X8_judge
      by_cases c : x < 0
      · rw [if_pos c]
      · rw [if_neg c, if_neg (show ¬ x ≤ (1 : Int32) from fun q => absurd (hx.resolve_left c) (Int32.not_le.mpr (Int32.lt_of_le_of_lt q (by decide))))]
    · unfold f_X9_judge; rw [show f_X9_in x 0 1 = some 0 from in_no (n := 2) (by decide) (by decide) hx, Option.bind_some, if_pos rfl]
