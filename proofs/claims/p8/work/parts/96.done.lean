/-! done, behind -/
theorem sd_place {z z' : MS} {f : Nat → Int32} (h : z' = M_set_place z f) : msc z' = msc z ∧ mrest z' = mrest z := by subst h; exact ⟨rfl, rfl⟩
theorem sd_busy {z z' : MS} {f : Nat → Int32} (h : z' = M_set_busy z f) : msc z' = msc z ∧ mrest z' = mrest z := by subst h; exact ⟨rfl, rfl⟩
theorem sd_with {z z' : MS} {f : Nat → Int32} (h : z' = M_set_with z f) : msc z' = msc z ∧ mrest z' = mrest z := by subst h; exact ⟨rfl, rfl⟩
theorem sd_left {z z' : MS} {f : Nat → Int32} (h : z' = M_set_left z f) : msc z' = msc z ∧ mrest z' = mrest z := by subst h; exact ⟨rfl, rfl⟩
theorem sd_things {z z' : MS} {f : Nat → Int32} (h : z' = M_set_things z f) : msc z' = msc z ∧ mrest z' = mrest z := by subst h; exact ⟨rfl, rfl⟩
theorem sd_signs {z z' : MS} {v : Int32} (h : z' = M_set_signs z v) : msc z' = msc z ∧ mrest z' = mrest z ∧ mkeep z' = (mcore z, v, M_pad z, M_image z, M_isKept z) := by subst h; exact ⟨rfl, rfl, rfl⟩
/-- so much of the present is made to last -/
def DnOk (w y : MS) (n m : Nat) : Prop := msc y = msc w ∧ mrest y = mrest w ∧ ∃ th pl bs wi lf, mkeep y = ((M_rooms w, th, M_size w, M_chairs w, M_width w, M_there w, M_likes w, pl, bs, wi, lf, M_sights w, M_sight w), M_signs w, M_pad w, M_image w, M_isKept w) ∧ (∀ j, j < n → pl j = M_at w j ∧ bs j = M_busyNow w j ∧ wi j = M_withNow w j ∧ lf j = M_leftNow w j) ∧ ∀ k, k < m → th k = M_thingsNow w k
def DnEnd (w : MS) (r : Option (Int32 × MS)) : Prop := ∃ w' th pl bs wi lf, r = some (M_events w, w') ∧ mkeep w' = ((M_rooms w, th, M_size w, M_chairs w, M_width w, M_there w, M_likes w, pl, bs, wi, lf, M_sights w, M_sight w), 0, M_pad w, M_image w, M_isKept w) ∧ (∀ j, j < 8 → pl j = M_at w j ∧ bs j = M_busyNow w j ∧ wi j = M_withNow w j ∧ lf j = M_leftNow w j) ∧ ∀ k, k < 24 → th k = M_thingsNow w k
theorem done_2 {w : MS} {N : Nat} (hN : 60000 < N) (y : MS) (h : DnOk w y 8 0) : DnEnd w (it X9_done_B74 (fun _ _ => none) N y (nI 0)) := by
  refine it_rule (bot := fun _ _ => none) 24 (fun i (y : MS) => DnOk w y 8 i) (fun k i y => DnEnd w (k y (nI i))) ?_ ?_ N 0 y (by omega) (by omega) h
  · intro k y ⟨h1, h2, th, pl, bs, wi, lf, h3, h4, h5⟩
    obtain ⟨y1, e1⟩ : ∃ x, x = M_set_signs y 0 := ⟨_, rfl⟩
    obtain ⟨s1, s2, s3⟩ := sd_signs e1
    refine ⟨y1, th, pl, bs, wi, lf, ?_, ?_, h4, h5⟩
    · unfold X9_done_B74
      have ev : M_events y1 = M_events w := (rvx (s2.trans h2)).2
      rw [if_pos (by decide), ltA_eq, ← e1, ev]
    · rw [s3]
      exact congrArg (fun m : MKK => (m.1, (0 : Int32), m.2.2.1, m.2.2.2.1, m.2.2.2.2)) h3
  · intro k i y hi ⟨h1, h2, th, pl, bs, wi, lf, h3, h4, h5⟩ hk
    obtain ⟨y1, e1⟩ : ∃ x, x = M_set_things y (upd (M_things y) i (M_thingsNow y i)) := ⟨_, rfl⟩
    obtain ⟨s1, s2⟩ := sd_things e1
    have k1 := st_things h3 e1
    have ht : M_things y = th := congrArg (fun m => m.1.2.1) h3
    have hn : M_thingsNow y = M_thingsNow w := congrArg (fun m => m.2.2.2.2.1) h1
    have := hk y1 ⟨s1.trans h1, s2.trans h2, _, pl, bs, wi, lf, k1, h4, up_eq (g := M_thingsNow w) (by rw [hn]) (by rw [ht]; exact h5)⟩
    unfold X9_done_B74
    rw [if_neg (show ¬ (24 : Int32) ≤ nI i from nlit (by decide) hi), chk_nI hi (by decide), chk_nI hi (by decide), nI_clamp (by omega), ltA_eq, ← e1, nI_1]
    exact this
theorem done_1 (w : MS) : DnEnd w (it X9_done_B12 (fun _ _ => none) FU w 0) := by
  obtain ⟨N, hN, hFU⟩ := FU_ex
  rw [hFU]
  refine it_rule (bot := fun _ _ => none) 8 (fun i (y : MS) => DnOk w y i 0) (fun k i y => DnEnd w (k y (nI i))) ?_ ?_ N 0 w (by omega) (by omega) ⟨rfl, rfl, M_things w, M_place w, M_busy w, M_with w, M_left w, rfl, fun j hj => absurd hj (Nat.not_lt_zero _), fun j hj => absurd hj (Nat.not_lt_zero _)⟩
  · intro k y hy
    unfold X9_done_B12
    rw [if_pos (by decide), hFU]
    exact done_2 hN y hy
  · intro k i y hi ⟨h1, h2, th, pl, bs, wi, lf, h3, h4, h5⟩ hk
    obtain ⟨y1, e1⟩ : ∃ x, x = M_set_place y (upd (M_place y) i (M_at y i)) := ⟨_, rfl⟩
    obtain ⟨s1, r1⟩ := sd_place e1
    have k1 := st_place h3 e1
    obtain ⟨y2, e2⟩ : ∃ x, x = M_set_busy y1 (upd (M_busy y1) i (M_busyNow y1 i)) := ⟨_, rfl⟩
    obtain ⟨s2, r2⟩ := sd_busy e2
    have k2 := st_busy k1 e2
    obtain ⟨y3, e3⟩ : ∃ x, x = M_set_with y2 (upd (M_with y2) i (M_withNow y2 i)) := ⟨_, rfl⟩
    obtain ⟨s3, r3⟩ := sd_with e3
    have k3 := st_with k2 e3
    obtain ⟨y4, e4⟩ : ∃ x, x = M_set_left y3 (upd (M_left y3) i (M_leftNow y3 i)) := ⟨_, rfl⟩
    obtain ⟨s4, r4⟩ := sd_left e4
    have k4 := st_left k3 e4
    have m1 := s1.trans h1
    have m2 := s2.trans m1
    have m3 := s3.trans m2
    have a0 : M_at y = M_at w := congrArg (fun m => m.1) h1
    have a1 : M_busyNow y1 = M_busyNow w := congrArg (fun m => m.2.1) m1
    have a2 : M_withNow y2 = M_withNow w := congrArg (fun m => m.2.2.1) m2
    have a3 : M_leftNow y3 = M_leftNow w := congrArg (fun m => m.2.2.2.1) m3
    have q1 : M_place y = pl := congrArg (fun m => m.1.2.2.2.2.2.2.2.1) h3
    have q2 : M_busy y1 = bs := congrArg (fun m => m.1.2.2.2.2.2.2.2.2.1) k1
    have q3 : M_with y2 = wi := congrArg (fun m => m.1.2.2.2.2.2.2.2.2.2.1) k2
    have q4 : M_left y3 = lf := congrArg (fun m => m.1.2.2.2.2.2.2.2.2.2.2.1) k3
    have u1 := up_eq (f := M_place y) (v := M_at y i) (g := M_at w) (i := i) (by rw [a0]) (by rw [q1]; exact fun j hj => (h4 j hj).1)
    have u2 := up_eq (f := M_busy y1) (v := M_busyNow y1 i) (g := M_busyNow w) (i := i) (by rw [a1]) (by rw [q2]; exact fun j hj => (h4 j hj).2.1)
    have u3 := up_eq (f := M_with y2) (v := M_withNow y2 i) (g := M_withNow w) (i := i) (by rw [a2]) (by rw [q3]; exact fun j hj => (h4 j hj).2.2.1)
    have u4 := up_eq (f := M_left y3) (v := M_leftNow y3 i) (g := M_leftNow w) (i := i) (by rw [a3]) (by rw [q4]; exact fun j hj => (h4 j hj).2.2.2)
    have := hk y4 ⟨s4.trans m3, ((r4.trans r3).trans r2).trans (r1.trans h2), th, _, _, _, _, k4, fun j hj => ⟨u1 j hj, u2 j hj, u3 j hj, u4 j hj⟩, h5⟩
    unfold X9_done_B12
    rw [if_neg (show ¬ (8 : Int32) ≤ nI i from nlit (by decide) hi), chk_nI hi (by decide), chk_nI hi (by decide), nI_clamp (by omega), ltA_eq, ← e1, chk_nI hi (by decide), chk_nI hi (by decide), ltA_eq, ← e2, chk_nI hi (by decide), chk_nI hi (by decide), ltA_eq, ← e3, chk_nI hi (by decide), chk_nI hi (by decide), ltA_eq, ← e4, nI_1]
    exact this
theorem bar_spec {z : MS} {a : AS} {n : Nat} {c : Nat → Nat} (hI : Inv a) (hM : Mc (mcore z) a) (hn : n ≤ 60) (hu : M_signs z = nI n) (hs : ∀ j, j < n → M_pad z j = nI (c j) ∧ 33 ≤ c j ∧ c j ≤ 126) : ∃ s', f_X9_barOfParty z = some (if fa (a_R a) c n n 0 0 = -6 ∧ (ptyA c n a).1 = 0 then 0 else -5, s') ∧ mkeep s' = mkeep z ∧ (fa (a_R a) c n n 0 0 = -6 ∧ (ptyA c n a).1 = 0 → Mx0 s' (ptyA c n a).2.1 lo0 ∧ M_events s' = nI (ptyA c n a).2.2) := by
  have hR6 := hI.1.2.1
  have hR2 := hI.1.1
  have f2 := faultOf_spec (by omega) hR6 hn hM.1 hu hs
  unfold f_X9_barOfParty X9_barOfParty_J14
  rw [f2, Option.bind_some]
  rcases fa_cases (R := a_R a) (c := c) hn with hf | ⟨k, hk, hf⟩
  · obtain ⟨s', q1, q2, q3, q4⟩ := rparty_spec hI hM hn hu hs hf
    have hev : (ptyA c n a).2.2 ≤ 0 + (n + 1) := pty_ev (n + 1) 0 a 0
    refine ⟨s', ?_, q2, fun h => q3 h.2⟩
    rw [hf, if_neg (by decide), q1, Option.bind_some]
    by_cases c1 : (ptyA c n a).1 = 0
    · have e : (if (ptyA c n a).1 = 0 then (-6 : Int32) else nI (ptyA c n a).2.2) = -6 := if_pos c1
      rw [e, if_pos (show (-6 : Int32) = -6 ∧ (ptyA c n a).1 = 0 from ⟨rfl, c1⟩)]; rfl
    · have e : (if (ptyA c n a).1 = 0 then (-6 : Int32) else nI (ptyA c n a).2.2) = nI (ptyA c n a).2.2 := if_neg c1
      rw [e, if_neg (show ¬ ((-6 : Int32) = -6 ∧ (ptyA c n a).1 = 0) from fun h => c1 h.2)]
      show (if nI (ptyA c n a).2.2 < 0 then some ((0 : Int32), s') else some (-5, s')) = _
      rw [if_neg (nI_pos (by omega))]
  · refine ⟨z, ?_, rfl, fun h => absurd h.1 (by rw [hf]; exact n6 hk)⟩
    rw [hf, if_pos (nI_pos' (by omega)), if_neg (fun h => n6 hk h.1)]
theorem out_spec {S : KDS} {a : AS} {n : Nat} {c : Nat → Nat} (hI : Inv a) (hH : Hc (K_now S) a) (hn : n ≤ 60) (hu : P_used (K_pad S) = nI n) (hs : ∀ j, j < n → P_signs (K_pad S) j = nI (c j) ∧ 33 ≤ c j ∧ c j ≤ 126) : ∃ y' d', f_X8_playsOut (K_now S) (K_pad S) (K_drift S) (K_play S) = some (if fa (a_R a) c n n 0 0 = -6 ∧ (ptyA c n a).1 = 0 then 1 else 0, d', y') ∧ (fa (a_R a) c n n 0 0 = -6 ∧ (ptyA c n a).1 = 0 → Y_events y' = nI (ptyA c n a).2.2 ∧ Inv (ptyA c n a).2.1 ∧ Hc (D_house d') (ptyA c n a).2.1) := by
  have hR6 := hI.1.2.1
  have f1 : f_X2_flaw (K_pad S) (H_rooms (K_now S)) = some (fa (a_R a) c n n 0 0) := by rw [hH.1]; exact flaw_spec hR6 hn hu hs
  unfold f_X8_playsOut
  rw [f1, Option.bind_some]
  rcases fa_cases (R := a_R a) (c := c) hn with hf | ⟨k, hk, hf⟩
  · obtain ⟨y', d', p1, p2, p3, p4⟩ := cperf_spec hI hH hn hu hs hf (K_play S) (K_drift S)
    have hle : (ptyA c n a).1 ≤ 6 := plA_why hn (n + 1) 0 a 0 hI rfl (fun _ => hf)
    refine ⟨y', d', ?_, fun h => ⟨p3, p4 h.2⟩⟩
    rw [if_pos hf, p1, Option.bind_some]
    show (if Y_why y' = 0 then some ((1 : Int32), d', y') else some ((0 : Int32), d', y')) = _
    rw [p2]
    by_cases c1 : (ptyA c n a).1 = 0
    · rw [if_pos (show nI (ptyA c n a).1 = 0 by rw [c1]; rfl), if_pos ⟨hf, c1⟩]
    · rw [if_neg (show ¬ nI (ptyA c n a).1 = 0 from fun q => c1 ((nI_eq (by omega) (b := 0) (by decide)).mp q)), if_neg (fun h => c1 h.2)]
  · refine ⟨K_play S, K_drift S, ?_, fun h => absurd h.1 (by rw [hf]; exact n6 hk)⟩
    rw [hf, if_neg (n6 hk), if_neg (fun h => n6 hk h.1)]
theorem sim_done : Sim_done Rel := by
  intro S z h
  obtain ⟨⟨a, hI, hH, hM⟩, hp, h3⟩ := id h
  have hH : Hc (K_now S) a := hH
  have hM : Mc (mcore z) a := hM
  have hp : PadR (K_pad S) (M_signs z) (M_pad z) := hp
  obtain ⟨n, c, hn, u1, u2, s1, s2⟩ := PadR.nat hp
  obtain ⟨y', d', p1, p2⟩ := out_spec hI hH hn u1 s1
  obtain ⟨s', q1, q2, q3⟩ := bar_spec hI hM hn u2 s2
  by_cases c1 : fa (a_R a) c n n 0 0 = -6 ∧ (ptyA c n a).1 = 0
  · obtain ⟨r1, r2, r3⟩ := p2 c1
    obtain ⟨t1, t2⟩ := q3 c1
    obtain ⟨g, g1, g2⟩ := copy_Hc (h := K_now S) r2.1.2.2.2 r3
    obtain ⟨w', th, pl, bs, wi, lf, w1, w2, w3, w4⟩ := done_1 s'
    rw [if_pos c1] at p1 q1
    refine ⟨(nI (ptyA c n a).2.2, g, P_set_used (K_pad S) 0, d', y'), (nI (ptyA c n a).2.2, w'), ?_, ?_, rfl, ?_⟩
    · unfold f_X8_done
      rw [p1, Option.bind_some]
      show (if (1 : Int32) = 0 then _ else (f_X1_copy (K_now S) (D_house d')).bind _) = _
      rw [if_neg (by decide), g1, Option.bind_some]
      show some (Y_events y', g, P_set_used (K_pad S) 0, d', y') = _
      rw [r1]
    · unfold f_X9_done
      rw [q1, Option.bind_some]
      show (if (0 : Int32) ≤ 0 then it X9_done_B12 (fun _ _ => none) FU s' 0 else _) = _
      rw [if_pos (by decide), w1, t2]
    · have ks : (mkeep w').2 = (0, (mkeep z).2.2) := by rw [w2, ← q2]; rfl
      have hMn : Mc (mkeep w').1 (ptyA c n a).2.1 := by
        refine Mc_congr r2.1.2.2.2 ?_ t1.1
        rw [w2]
        exact ⟨rfl, rfl, rfl, w4, fun _ _ => rfl, fun _ _ => rfl, w3, fun _ _ => rfl, fun _ _ => ⟨rfl, rfl⟩⟩
      have e : mkeep w' = ((mkeep w').1, 0, (mkeep z).2.2) := by rw [← ks]
      unfold Rel
      rw [e]
      exact ⟨⟨_, r2, g2, hMn⟩, ⟨0, by decide, rfl, rfl, fun i hi => absurd hi (Nat.not_lt_zero _)⟩, h3⟩
  · rw [if_neg c1] at p1 q1
    refine ⟨(-5, K_now S, K_pad S, d', y'), (-5, s'), ?_, ?_, rfl, h.to rfl q2⟩
    · unfold f_X8_done
      rw [p1, Option.bind_some]; rfl
    · unfold f_X9_done
      rw [q1, Option.bind_some]; rfl
theorem sim_behind : Sim_behind Rel := by
  intro S z x1 x2 h
  obtain ⟨⟨a, hI, hH, hM⟩, hp, h3⟩ := id h
  have hH : Hc (K_now S) a := hH
  have hM : Mc (mcore z) a := hM
  have hp : PadR (K_pad S) (M_signs z) (M_pad z) := hp
  rcases th_cases hI hH hM x1 with ⟨g, hg, rfl, hg1, t1, t2⟩ | ⟨t1, t2⟩
  · rcases num_cases x2 (n := 4) (by decide) with ⟨t, ht, rfl⟩ | hx
    · obtain ⟨n, c, hn, u1, u2, s1, s2⟩ := PadR.nat hp
      obtain ⟨y', d', p1, p2⟩ := out_spec hI hH hn u1 s1
      obtain ⟨s', q1, q2, q3⟩ := bar_spec hI hM hn u2 s2
      have tin : f_X9_in (nI t) 0 3 = some 1 := in_nI (n := 4) ht (by decide)
      by_cases c1 : fa (a_R a) c n n 0 0 = -6 ∧ (ptyA c n a).1 = 0
      · obtain ⟨r1, r2, r3⟩ := p2 c1
        obtain ⟨v1, v2⟩ := q3 c1
        rw [if_pos c1] at p1 q1
        have hT : a_T (ptyA c n a).2.1 = a_T a := by
          have e1 : nI (a_T (ptyA c n a).2.1) = nI (a_T a) := by
            rw [← show M_there s' = nI (a_T (ptyA c n a).2.1) from v1.1.2.1, ← m_there hM]
            exact congrArg (fun m => m.1.2.2.2.2.2.1) q2
          exact (nI_eq (by have := r2.1.2.2.1; omega) (by have := hI.1.2.2.1; omega)).mp e1
        have hi2 : a_is (ptyA c n a).2.1 g = true := by unfold a_is; rw [hT]; exact hg1
        refine ⟨(tellA (ptyA c n a).2.1 g t, d', y'), (tellA (ptyA c n a).2.1 g t, s'), ?_, ?_, rfl, h.to rfl q2⟩
        · unfold f_X8_behind
          rw [t1, Option.bind_some, if_neg (show ¬ (1 : Int32) = 0 by decide), if_neg (nI_pos (by omega)), if_pos (show nI t ≤ (3 : Int32) from nI_le (b := 3) (by omega) (by decide)), p1, Option.bind_some]
          show (if (1 : Int32) = 0 then _ else (f_X1_tellGuest (D_house d') (nI g) (nI t)).bind _) = _
          rw [if_neg (by decide), tell_spec r3 hg ht, Option.bind_some]
        · unfold f_X9_behind
          rw [t2, Option.bind_some, if_neg (show ¬ (1 : Int32) = 0 by decide), tin, Option.bind_some, if_neg (show ¬ (1 : Int32) = 0 by decide), q1, Option.bind_some]
          show (if (0 : Int32) ≤ 0 then (f_X9_stateNow s' (nI g) (nI t)).bind _ else _) = _
          rw [if_pos (by decide), stateNow_spec r2 v1.1 hg hi2 ht, Option.bind_some]
      · rw [if_neg c1] at p1 q1
        refine ⟨(-5, d', y'), (-5, s'), ?_, ?_, rfl, h.to rfl q2⟩
        · unfold f_X8_behind
          rw [t1, Option.bind_some, if_neg (show ¬ (1 : Int32) = 0 by decide), if_neg (nI_pos (by omega)), if_pos (show nI t ≤ (3 : Int32) from nI_le (b := 3) (by omega) (by decide)), p1, Option.bind_some]
          rfl
        · unfold f_X9_behind
          rw [t2, Option.bind_some, if_neg (show ¬ (1 : Int32) = 0 by decide), tin, Option.bind_some, if_neg (show ¬ (1 : Int32) = 0 by decide), q1, Option.bind_some]
          rfl
    · refine ⟨(-2, K_drift S, K_play S), (-2, z), ?_, ?_, rfl, h.to rfl rfl⟩
      · unfold f_X8_behind
        rw [t1, Option.bind_some, if_neg (show ¬ (1 : Int32) = 0 by decide)]
        by_cases c : x2 < 0
        · rw [if_pos c]
        · rw [if_neg c, if_neg (show ¬ x2 ≤ (3 : Int32) from fun q => absurd (hx.resolve_left c) (Int32.not_le.mpr (Int32.lt_of_le_of_lt q (by decide))))]
      · unfold f_X9_behind
        rw [t2, Option.bind_some, if_neg (show ¬ (1 : Int32) = 0 by decide), show f_X9_in x2 0 3 = some 0 from in_no (n := 4) (by decide) (by decide) hx, Option.bind_some, if_pos rfl]
  · refine ⟨(-1, K_drift S, K_play S), (-1, z), ?_, ?_, rfl, h.to rfl rfl⟩
    · unfold f_X8_behind; rw [t1, Option.bind_some, if_pos rfl]
    · unfold f_X9_behind; rw [t2, Option.bind_some, if_pos rfl]
