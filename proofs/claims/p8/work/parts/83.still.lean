/-- the first still minute of those from i on, n at most -/
def fsA (b : AS) : Nat → Nat → Int32
  | 0, _ => -6
  | n + 1, i => if stil lo0 (minN lo0 b i) then nI (i + 1) else fsA b n (i + 1)
theorem fsA_0 (b : AS) (i : Nat) : fsA b 0 i = -6 := rfl
theorem fsA_s (b : AS) (n i : Nat) : fsA b (n + 1) i = if stil lo0 (minN lo0 b i) then nI (i + 1) else fsA b n (i + 1) := rfl
theorem cstill_spec {h : HS} {a : AS} (hI : Inv a) (hH : Hc h a) (d : DS) : ∃ d', f_X8_firstStill h d = some (fsA a 99 0, d') := by
  obtain ⟨N, hN, hFU⟩ := FU_ex
  obtain ⟨d1, b1, b2⟩ := begin_spec (d := d) hI hH
  unfold f_X8_firstStill
  rw [b1, Option.bind_some, hFU]
  refine it_rule (bot := fun _ _ _ => none) 99 (fun i (s : DS) => (∃ gn, Dx s (minN lo0 a i) gn lo0) ∧ fsA a (99 - i) i = fsA a 99 0) (fun k i s => ∃ d', k h s (nI (i + 1)) = some (fsA a 99 0, d')) ?_ ?_ N 0 d1 (by omega) (by omega) ⟨⟨_, b2⟩, rfl⟩
  · intro k s ⟨_, hf⟩
    exact ⟨s, by unfold X8_firstStill_B13; rw [if_pos (by decide), ← hf]; rfl⟩
  · intro k i s hi ⟨⟨gn, hs⟩, hf⟩ hk
    obtain ⟨d2, gn2, e1, e2⟩ := stillMin_spec (Inv_minN hI lo0 i) (Lo0 _) hs
    rw [show 99 - i = (99 - (i + 1)) + 1 by omega, fsA_s] at hf
    unfold X8_firstStill_B13
    rw [if_neg (show ¬ (99 : Int32) < nI (i + 1) from nI_nlt (a := 99) (by omega) (by omega)), e1, Option.bind_some, nI_1]
    cases c : stil lo0 (minN lo0 a i)
    · rw [c] at hf
      exact hk d2 ⟨⟨gn2, e2⟩, hf⟩
    · rw [c, if_pos rfl] at hf
      refine ⟨d2, ?_⟩
      rw [← hf]; rfl
theorem rtalk_spec {k6 : MS → Int32 → Option (Int32 × MS)} {w : MS} {b : AS} (hI : Inv b) (hM : Mx0 w b lo0) (x : Int32) : ∃ w', mkeep w' = mkeep w ∧ Mx0 w' (minA lo0 b) lo0 ∧ it (X9_stillAt_B16 k6) (fun _ _ _ _ => none) FU w x 0 0 = if stil lo0 b then some (x, w') else k6 w' (x + 1) := by
  obtain ⟨N, hN, hFU⟩ := FU_ex
  have hT := hI.1.2.2.1
  have et : M_there w = nI (a_T b) := hM.1.2.1
  obtain ⟨w', gn', p1, p2, p3⟩ := pass_spec hI (Lo0 b) hM
  have hw : wentA lo0 b ≤ 8 := (Kp_mv hI lo0 8 (Nat.le_refl _)).2.2.1
  refine ⟨w', p2, p3.to0, ?_⟩
  rw [hFU]
  refine it_rule (bot := fun _ _ _ _ => none) 8 (fun i (v : Bool) => v = (List.range i).any (fun g => a_bs b g == 1)) (fun k i v => k w x (if v then 1 else 0) (nI i) = if stil lo0 b then some (x, w') else k6 w' (x + 1)) ?_ ?_ N 0 false (by omega) (by omega) rfl
  · intro k v hv
    have hv : v = anyT b := hv
    unfold X9_stillAt_B16 X9_stillAt_J72 stil
    rw [if_pos (by decide), p1, Option.bind_some, hv]
    by_cases c : wentA lo0 b = 0
    · rw [if_pos (show nI (wentA lo0 b) = 0 by rw [c]; rfl), c]
      cases anyT b <;> rfl
    · rw [if_neg (show ¬ nI (wentA lo0 b) = 0 from fun h => c ((nI_eq (by omega) (b := 0) (by decide)).mp h))]
      simp [c]
  · intro k i v hi hv hk
    have hbs := bs_lt hI hi
    have es : ((List.range (i + 1)).any fun g => a_bs b g == 1) = (v || (a_bs b i == 1)) := by rw [List.range_succ, List.any_append, ← hv]; simp
    have hk' := hk _ rfl
    rw [es] at hk'
    unfold X9_stillAt_B16 X9_stillAt_J51 X9_stillAt_J47 X9_stillAt_J52
    rw [if_neg (show ¬ (8 : Int32) ≤ nI i from nlit (by decide) hi), nI_1]
    cases v
    · rw [if_pos (by decide), et, has_b hT hi, Option.bind_some]
      cases e : (a_T b).testBit i
      · have e' : a_is b i = false := e
        rw [(hI.2.2.2.2.1 i hi e').2.1] at hk'
        exact hk'
      · have e' : a_is b i = true := e
        rw [if_neg (by decide), chk_nI hi (by decide), nI_clamp (by omega), (gt_now hM.1 hi e').2.1]
        by_cases c : a_bs b i = 1
        · rw [if_pos (show nI (a_bs b i) = (1 : Int32) by rw [c]; rfl)]
          rw [c] at hk'; exact hk'
        · rw [if_neg (show ¬ nI (a_bs b i) = (1 : Int32) from fun h => c ((nI_eq (by omega) (b := 1) (by decide)).mp h))]
          rw [show (a_bs b i == 1) = false by simp [c]] at hk'
          exact hk'
    · rw [if_neg (by decide)]
      exact hk'
theorem rstill_spec {z : MS} {a : AS} (hI : Inv a) (hM : Mc (mcore z) a) : ∃ w, f_X9_stillAt z = some (fsA a 99 0, w) ∧ mkeep w = mkeep z := by
  obtain ⟨N, hN, hFU⟩ := FU_ex
  obtain ⟨w, e1, e2, e3⟩ := asNow_Mx hM
  unfold f_X9_stillAt
  rw [e1, Option.bind_some, hFU]
  refine it_rule (bot := fun _ _ => none) 99 (fun i (s : MS) => mkeep s = mkeep z ∧ Mx0 s (minN lo0 a i) lo0 ∧ fsA a (99 - i) i = fsA a 99 0) (fun k i s => ∃ w, k s (nI (i + 1)) = some (fsA a 99 0, w) ∧ mkeep w = mkeep z) ?_ ?_ N 0 w (by omega) (by omega) ⟨e2, e3, rfl⟩
  · intro k s ⟨h1, _, hf⟩
    exact ⟨s, by unfold X9_stillAt_B6; rw [if_pos (by decide), ← hf]; rfl, h1⟩
  · intro k i s hi ⟨h1, h2, hf⟩ hk
    obtain ⟨w', q1, q2, q3⟩ := rtalk_spec (k6 := k) (Inv_minN hI lo0 i) h2 (nI (i + 1))
    rw [show 99 - i = (99 - (i + 1)) + 1 by omega, fsA_s] at hf
    unfold X9_stillAt_B6
    rw [if_neg (show ¬ (100 : Int32) ≤ nI (i + 1) from nlit (b := 100) (by decide) (by omega)), q3]
    cases c : stil lo0 (minN lo0 a i)
    · rw [c] at hf
      rw [if_neg (by decide), nI_1]
      exact hk w' ⟨q1.trans h1, q2, hf⟩
    · rw [c, if_pos rfl] at hf
      exact ⟨w', by rw [if_pos rfl, hf], q1.trans h1⟩
theorem sim_still : Sim_still Rel := by
  intro S z h
  obtain ⟨⟨a, hI, hH, hM⟩, h3⟩ := id h
  have hH : Hc (K_now S) a := hH
  have hM : Mc (mcore z) a := hM
  obtain ⟨d', e1⟩ := cstill_spec hI hH (K_drift S)
  obtain ⟨w, e2, e3⟩ := rstill_spec hI hM
  refine ⟨(fsA a 99 0, d'), (fsA a 99 0, w), ?_, ?_, rfl, h.to rfl e3⟩
  · unfold f_X8_still; rw [e1, Option.bind_some]
  · unfold f_X9_still; rw [e2, Option.bind_some]
/-- the fullest ever in m minutes -/
def thA (a : AS) : Nat → Nat
  | 0 => 0
  | m + 1 => if thA a m < mxA (minN lo0 a (m + 1)) (a_R a) then mxA (minN lo0 a (m + 1)) (a_R a) else thA a m
theorem thA_s (a : AS) (m : Nat) : thA a (m + 1) = if thA a m < mxA (minN lo0 a (m + 1)) (a_R a) then mxA (minN lo0 a (m + 1)) (a_R a) else thA a m := rfl
theorem thA_le (a : AS) : ∀ m, thA a m ≤ 8
  | 0 => Nat.zero_le _
  | m + 1 => by
    rw [thA_s]
    have h1 := mxA_le (minN lo0 a (m + 1)) (a_R a)
    have h2 := thA_le a m
    split <;> omega
theorem cthrong_spec {h : HS} {a : AS} {d : DS} {gn : Nat → Nat → Nat} (hI : Inv a) (hD : Dx d a gn lo0) {m : Nat} (hm : m < 1000) : ∃ d', it X8_throng_B29 (fun _ _ _ _ _ => none) FU h d (nI m) 0 0 = some (nI (thA a m), d') := by
  obtain ⟨N, hN, hFU⟩ := FU_ex
  rw [hFU]
  refine it_rule (bot := fun _ _ _ _ _ => none) m (fun i (s : DS) => ∃ gn, Dx s (minN lo0 a i) gn lo0) (fun k i s => ∃ d', k h s (nI m) (nI (thA a i)) (nI i) = some (nI (thA a m), d')) ?_ ?_ N 0 d (by omega) (by omega) ⟨gn, hD⟩
  · intro k s _
    exact ⟨s, by unfold X8_throng_B29; rw [if_pos (Int32.le_refl _)]⟩
  · intro k i s hi ⟨gn, hs⟩ hk
    obtain ⟨d1, gn1, e1, e2⟩ := minute_spec (Inv_minN hI lo0 i) (Lo0 _) hs
    have e2 : Dx d1 (minN lo0 a (i + 1)) gn1 lo0 := e2
    obtain ⟨d2, k2⟩ := hk d1 ⟨gn1, e2⟩
    refine ⟨d2, ?_⟩
    have h1 := mxA_le (minN lo0 a (i + 1)) (a_R a)
    have h2 := thA_le a i
    have ef := cfull_spec (Inv_minN hI lo0 (i + 1)) e2
    rw [(minN_keep hI lo0 (i + 1)).1] at ef
    unfold X8_throng_B29
    rw [if_neg (nI_ge hi (by omega)), e1, Option.bind_some]
    show (f_X0_fullest d1).bind _ = _
    rw [ef, Option.bind_some, nI_1]
    rw [thA_s] at k2
    by_cases c : thA a i < mxA (minN lo0 a (i + 1)) (a_R a)
    · rw [if_pos c] at k2; rw [if_pos (nI_lt c (by omega))]; exact k2
    · rw [if_neg c] at k2; rw [if_neg (nI_nlt (by omega) (by omega))]; exact k2
theorem rthrong_spec {w : MS} {a : AS} (hI : Inv a) (hM : Mx0 w a lo0) {m : Nat} (hm : m < 1000) : ∃ w', it X9_throng_B21 (fun _ _ _ _ => none) FU w (nI m) 0 0 = some (nI (thA a m), w') ∧ mkeep w' = mkeep w := by
  obtain ⟨N, hN, hFU⟩ := FU_ex
  rw [hFU]
  refine it_rule (bot := fun _ _ _ _ => none) m (fun i (s : MS) => mkeep s = mkeep w ∧ Mx0 s (minN lo0 a i) lo0) (fun k i s => ∃ w', k s (nI m) (nI (thA a i)) (nI i) = some (nI (thA a m), w') ∧ mkeep w' = mkeep w) ?_ ?_ N 0 w (by omega) (by omega) ⟨rfl, hM⟩
  · intro k s hs
    exact ⟨s, by unfold X9_throng_B21; rw [if_pos (Int32.le_refl _)], hs.1⟩
  · intro k i s hi ⟨hs, hMs⟩ hk
    obtain ⟨w1, gn1, e1, e2, e3⟩ := pass_spec (Inv_minN hI lo0 i) (Lo0 _) hMs
    have e3 : Mx w1 (minN lo0 a (i + 1)) gn1 lo0 := e3
    obtain ⟨w', k1, k2⟩ := hk w1 ⟨e2.trans hs, e3.to0⟩
    refine ⟨w', ?_, k2⟩
    have h1 := mxA_le (minN lo0 a (i + 1)) (a_R a)
    have h2 := thA_le a i
    have ef := rfull_spec (Inv_minN hI lo0 (i + 1)) e3.1
    rw [(minN_keep hI lo0 (i + 1)).1] at ef
    unfold X9_throng_B21 X9_throng_J49
    rw [if_neg (nI_ge hi (by omega)), e1, Option.bind_some]
    show (f_X9_fullest w1).bind _ = _
    rw [ef, Option.bind_some, nI_1]
    rw [thA_s] at k1
    by_cases c : thA a i < mxA (minN lo0 a (i + 1)) (a_R a)
    · rw [if_pos c] at k1; rw [if_neg (nI_ge c (by omega))]; exact k1
    · rw [if_neg c] at k1; rw [if_pos (nI_le (by omega) (by omega))]; exact k1
theorem sim_throng : Sim_throng Rel := by
  intro S z x h
  obtain ⟨⟨a, hI, hH, hM⟩, h3⟩ := id h
  have hH : Hc (K_now S) a := hH
  have hM : Mc (mcore z) a := hM
  by_cases c1 : x < 1
  · refine ⟨(-2, K_drift S), (-2, z), ?_, ?_, rfl, h⟩
    · unfold f_X8_throng; rw [if_pos c1]
    · unfold f_X9_throng; rw [in_0 (Or.inl c1), Option.bind_some, if_pos rfl]
  · by_cases c2 : x ≤ 99
    · obtain ⟨m, hm', rfl⟩ := nI_of (x := x) (fun q => c1 (Int32.lt_of_lt_of_le q (by decide)))
      have hm : m ≤ 99 := (nI_leI hm' (b := 99) (by decide)).mp c2
      obtain ⟨w, e1, e2, e3⟩ := asNow_Mx hM
      obtain ⟨d', b1, b2⟩ := begin_spec (d := K_drift S) hI hH
      obtain ⟨d2, c3⟩ := cthrong_spec (h := K_now S) hI b2 (m := m) (by omega)
      obtain ⟨w', c4, c5⟩ := rthrong_spec hI e3 (m := m) (by omega)
      refine ⟨(nI (thA a m), d2), (nI (thA a m), w'), ?_, ?_, rfl, h.to rfl (c5.trans e2)⟩
      · unfold f_X8_throng; rw [if_neg c1, if_pos c2, b1, Option.bind_some]; exact c3
      · unfold f_X9_throng; rw [in_1 c1 (Int32.not_lt.mpr c2), Option.bind_some, if_neg (show ¬ (1 : Int32) = 0 by decide), e1, Option.bind_some]; exact c4
    · refine ⟨(-2, K_drift S), (-2, z), ?_, ?_, rfl, h⟩
      · unfold f_X8_throng; rw [if_neg c1, if_neg c2]
      · unfold f_X9_throng; rw [in_0 (Or.inr (Int32.not_le.mp c2)), Option.bind_some, if_pos rfl]
