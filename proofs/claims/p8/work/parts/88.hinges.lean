/-! a door off its hinges -/
def loR (r q : Nat) : Nat → Nat → Bool := fun r' q' => decide ((r' = r ∧ q' = q) ∨ (r' = q ∧ q' = r))
theorem Lo_R {b : AS} (hI : Inv b) {r q : Nat} (hr : r < 6) (hq : q < 6) (h : 1 ≤ a_wd b r q) : LoOk b (loR r q) := by
  intro r' q' hr' hq' hl
  unfold loR at hl
  rw [decide_eq_true_eq] at hl
  rcases hl with ⟨h1, h2⟩ | ⟨h1, h2⟩
  · rw [h1, h2]; exact h
  · rw [h1, h2, ← (hI.2.2.1 r q hr hq).2.1]; exact h
theorem unhinge_spec {d : DS} {b : AS} {gn : Nat → Nat → Nat} (hD : Dx d b gn lo0) {r q : Nat} (hr : r < 6) (hq : q < 6) : ∃ d', f_X0_unhinge d (nI r) (nI q) = some d' ∧ Dx d' b gn (loR r q) := by
  obtain ⟨h1, h2, h3, h4, h5⟩ := hD
  refine ⟨D_set_wide d (upd (upd (D_wide d) (r * 6 + q) 1000) (q * 6 + r) 1000), ?_, h1, h2, h3, fun r' q' hr' hq' => ?_, h5⟩
  · unfold f_X0_unhinge
    rw [ix6, ix6, chk_nI (by omega) (by decide), nI_clamp (by omega), nI_clamp (by omega), ltA_eq, chk_nI (by omega) (by decide), ltA_eq]
  · show upd (upd (D_wide d) (r * 6 + q) 1000) (q * 6 + r) 1000 (r' * 6 + q') = wdv b (loR r q) r' q'
    unfold wdv loR
    by_cases c1 : r' = q ∧ q' = r
    · rw [c1.1, c1.2, pk_us, if_pos (decide_eq_true (Or.inr ⟨rfl, rfl⟩))]
    · rw [pk_un (by omega)]
      by_cases c2 : r' = r ∧ q' = q
      · rw [c2.1, c2.2, pk_us, if_pos (decide_eq_true (Or.inl ⟨rfl, rfl⟩))]
      · rw [pk_un (by omega), if_neg (by rw [decide_eq_true_eq]; omega)]
        exact h4 r' q' hr' hq'
def uhA (a : AS) (m r q : Nat) : Nat := mxA (minN (loR r q) a m) (a_R a)
def hS (a : AS) (m r q : Nat) (s : Nat × Int32) : Nat × Int32 := if 1 ≤ a_wd a r q ∧ uhA a m r q < s.1 then (uhA a m r q, nI (10 * r + q)) else s
def hIn (a : AS) (m r : Nat) (s : Nat × Int32) : Nat → Nat × Int32
  | 0 => s
  | n + 1 => hS a m r (r + 1 + n) (hIn a m r s n)
theorem hIn_s (a : AS) (m r : Nat) (s : Nat × Int32) (n : Nat) : hIn a m r s (n + 1) = hS a m r (r + 1 + n) (hIn a m r s n) := rfl
def hO (a : AS) (m : Nat) : Nat → Nat × Int32
  | 0 => (mxA (minN lo0 a m) (a_R a), -6)
  | r + 1 => hIn a m r (hO a m r) (a_R a - (r + 1))
theorem hO_s (a : AS) (m r : Nat) : hO a m (r + 1) = hIn a m r (hO a m r) (a_R a - (r + 1)) := rfl
theorem hIn_le (a : AS) (m r : Nat) (s : Nat × Int32) (hs : s.1 ≤ 8) : ∀ n, (hIn a m r s n).1 ≤ 8
  | 0 => hs
  | n + 1 => by
    rw [hIn_s]
    unfold hS
    split
    · exact mxA_le _ _
    · exact hIn_le a m r s hs n
theorem hO_le (a : AS) (m : Nat) : ∀ r, (hO a m r).1 ≤ 8
  | 0 => mxA_le _ _
  | r + 1 => by rw [hO_s]; exact hIn_le a m r _ (hO_le a m r) _
theorem cunh_spec {h : HS} {a : AS} (hI : Inv a) (hH : Hc h a) (d : DS) {m r q : Nat} (hm : m < 1000) (hr : r < 6) (hq : q < 6) (hw : 1 ≤ a_wd a r q) : ∃ d', f_X8_fullestUnhinged h d (nI r) (nI q) (nI m) = some (nI (uhA a m r q), d') := by
  obtain ⟨d1, b1, b2⟩ := begin_spec (d := d) hI hH
  obtain ⟨d2, b3, b4⟩ := unhinge_spec b2 hr hq
  obtain ⟨d3, gn, c1, c2⟩ := run_spec hI (Lo_R hI hr hq hw) b4 hm
  have ef := cfull_spec (Inv_minN hI (loR r q) m) c2
  rw [(minN_keep hI (loR r q) m).1] at ef
  refine ⟨d3, ?_⟩
  unfold f_X8_fullestUnhinged
  rw [b1, Option.bind_some, b3, Option.bind_some, c1, Option.bind_some, ef, Option.bind_some]
  rfl
theorem ten_i (r q : Nat) : ((10 : Int32) * nI r) + nI q = nI (10 * r + q) := by rw [show (10 : Int32) = nI 10 from rfl, pk_mul, nI_add]
theorem chin_spec {k35 : HS → DS → Int32 → Int32 → Int32 → Int32 → Int32 → Option (Int32 × DS)} {h : HS} {a : AS} (hI : Inv a) (hH : Hc h a) (d : DS) {m r : Nat} (hm : m < 1000) (hr : r < a_R a) (x2 : Int32) (s : Nat × Int32) (hs : s.1 ≤ 8) : ∃ d', it (X8_hinges_B53 k35) (fun _ _ _ _ _ _ _ _ => none) FU h d (nI m) x2 (nI s.1) s.2 (nI r) (nI (r + 1)) = k35 h d' (nI m) x2 (nI (hIn a m r s (a_R a - (r + 1))).1) (hIn a m r s (a_R a - (r + 1))).2 (nI (r + 1)) := by
  obtain ⟨N, hN, hFU⟩ := FU_ex
  have hR6 := hI.1.2.1
  rw [hFU]
  suffices g : ∃ d', it (X8_hinges_B53 k35) (fun _ _ _ _ _ _ _ _ => none) N h d (nI m) x2 (nI (hIn a m r s (r + 1 - (r + 1))).1) (hIn a m r s (r + 1 - (r + 1))).2 (nI r) (nI (r + 1)) = k35 h d' (nI m) x2 (nI (hIn a m r s (a_R a - (r + 1))).1) (hIn a m r s (a_R a - (r + 1))).2 (nI (r + 1)) by
    rw [Nat.sub_self] at g; exact g
  refine it_rule (bot := fun _ _ _ _ _ _ _ _ => none) (a_R a) (fun i (_ : DS) => r + 1 ≤ i) (fun k i t => ∃ d', k h t (nI m) x2 (nI (hIn a m r s (i - (r + 1))).1) (hIn a m r s (i - (r + 1))).2 (nI r) (nI i) = k35 h d' (nI m) x2 (nI (hIn a m r s (a_R a - (r + 1))).1) (hIn a m r s (a_R a - (r + 1))).2 (nI (r + 1))) ?_ ?_ N (r + 1) d (by omega) (by omega) (Nat.le_refl _)
  · intro k t _
    refine ⟨t, ?_⟩
    unfold X8_hinges_B53
    rw [hH.1, if_pos (Int32.le_refl _), nI_1]
  · intro k i t hi hri hk
    have h8 := hIn_le a m r s hs (i - (r + 1))
    rw [show i + 1 - (r + 1) = (i - (r + 1)) + 1 by omega, hIn_s, show r + 1 + (i - (r + 1)) = i by omega] at hk
    generalize hIn a m r s (i - (r + 1)) = u at *
    unfold hS at hk
    have w3 := (hI.2.2.1 r i (by omega) (by omega)).1
    unfold X8_hinges_B53
    rw [hH.1, if_neg (nI_ge hi (by omega)), width_spec hH (by omega) (by omega), Option.bind_some]
    by_cases c1 : 1 ≤ a_wd a r i
    · obtain ⟨d1, f1⟩ := cunh_spec hI hH t hm (show r < 6 by omega) (show i < 6 by omega) c1
      have g8 : uhA a m r i ≤ 8 := mxA_le _ _
      rw [if_neg (show ¬ nI (a_wd a r i) ≤ 0 from nI_ge (a := 0) (by omega) (by omega)), f1, Option.bind_some]
      unfold X8_hinges_J92 X8_hinges_J113
      show ∃ d', (if nI u.1 ≤ nI (uhA a m r i) then k h d1 (nI m) x2 (nI u.1) u.2 (nI r) (nI i + 1) else k h d1 (nI m) x2 (nI (uhA a m r i)) (((10 : Int32) * nI r) + nI i) (nI r) (nI i + 1)) = _
      rw [ten_i, nI_1]
      by_cases c3 : uhA a m r i < u.1
      · rw [if_pos ⟨c1, c3⟩] at hk
        rw [if_neg (nI_ge c3 (by omega))]
        exact hk d1 (by omega)
      · rw [if_neg (fun h => c3 h.2)] at hk
        rw [if_pos (nI_le (by omega) (by omega))]
        exact hk d1 (by omega)
    · rw [if_neg (fun h => c1 h.1)] at hk
      rw [if_pos (show nI (a_wd a r i) ≤ 0 from nI_le (b := 0) (by omega) (by decide))]
      unfold X8_hinges_J92 X8_hinges_J113
      rw [if_pos (Int32.le_refl _), nI_1]
      exact hk t (by omega)
theorem chinges_spec {h : HS} {a : AS} (hI : Inv a) (hH : Hc h a) (d : DS) {m : Nat} (hm : m < 1000) (x2 : Int32) : ∃ d', it X8_hinges_B35 (fun _ _ _ _ _ _ _ => none) FU h d (nI m) x2 (nI (hO a m 0).1) (-6) 0 = some (if x2 = 0 then nI (hO a m (a_R a)).1 else (hO a m (a_R a)).2, d') := by
  obtain ⟨N, hN, hFU⟩ := FU_ex
  have hR6 := hI.1.2.1
  rw [hFU]
  refine it_rule (bot := fun _ _ _ _ _ _ _ => none) (a_R a) (fun _ (_ : DS) => True) (fun k i s => ∃ d', k h s (nI m) x2 (nI (hO a m i).1) (hO a m i).2 (nI i) = some (if x2 = 0 then nI (hO a m (a_R a)).1 else (hO a m (a_R a)).2, d')) ?_ ?_ N 0 d (by omega) (by omega) trivial
  · intro k s _
    refine ⟨s, ?_⟩
    unfold X8_hinges_B35
    rw [hH.1, if_pos (Int32.le_refl _)]
    by_cases c : x2 = 0
    · rw [if_pos c, if_pos c]
    · rw [if_neg c, if_neg c]
  · intro k i s hi _ hk
    obtain ⟨d1, e1⟩ := chin_spec (k35 := k) hI hH s hm hi x2 (hO a m i) (hO_le a m i)
    obtain ⟨d2, e2⟩ := hk d1 trivial
    refine ⟨d2, ?_⟩
    unfold X8_hinges_B35
    rw [hH.1, if_neg (nI_ge hi (by omega)), nI_1, e1]
    exact e2
theorem rloose_spec {w : MS} {a : AS} (hM : Mx0 w a lo0) {r q : Nat} (hr : r < 6) (hq : q < 6) : ∃ w', w' = M_set_loose w (nI (6 * r + q)) ∧ mkeep w' = mkeep w ∧ Mx0 w' a (loR r q) := by
  obtain ⟨y, ey⟩ : ∃ x, x = M_set_loose w (nI (6 * r + q)) := ⟨_, rfl⟩
  obtain ⟨a1, b1⟩ := set_loose ey
  have g1 : M_at y = M_at w := congrArg (fun m => m.1) b1
  have g2 : M_busyNow y = M_busyNow w := congrArg (fun m => m.2.1) b1
  have g3 : M_withNow y = M_withNow w := congrArg (fun m => m.2.2.1) b1
  have g4 : M_leftNow y = M_leftNow w := congrArg (fun m => m.2.2.2.1) b1
  have g5 : M_thingsNow y = M_thingsNow w := congrArg (fun m => m.2.2.2.2.1) b1
  have g6 : M_loose y = nI (6 * r + q) := congrArg (fun m => m.2.2.2.2.2.1) b1
  refine ⟨y, ey, a1, Mc_now a1 hM.1 rfl rfl rfl rfl rfl rfl rfl rfl (fun r s hr hs => by rw [g5]; exact gt_th hM.1 hr hs) (fun _ _ _ _ _ => rfl) (fun j hj hi => by rw [g1, g2, g3, g4]; exact gt_now hM.1 hj hi), fun r' q' hr' hq' => ?_⟩
  rw [g6]
  unfold loR
  rw [decide_eq_true_eq, nI_eq (by omega) (by omega), nI_eq (by omega) (by omega)]
  omega
theorem rhin_spec {k43 : MS → Int32 → Int32 → Int32 → Int32 → Int32 → Option (Int32 × MS)} {z w : MS} {a : AS} (hI : Inv a) (hM : Mc (mcore z) a) (hw0 : mkeep w = mkeep z) {m r : Nat} (hm : m < 1000) (hr : r < a_R a) (x2 : Int32) (s : Nat × Int32) (hs : s.1 ≤ 8) : ∃ w', mkeep w' = mkeep z ∧ it (X9_hinges_B58 k43) (fun _ _ _ _ _ _ _ => none) FU w (nI m) x2 (nI s.1) s.2 (nI r) (nI (r + 1)) = k43 w' (nI m) x2 (nI (hIn a m r s (a_R a - (r + 1))).1) (hIn a m r s (a_R a - (r + 1))).2 (nI (r + 1)) := by
  obtain ⟨N, hN, hFU⟩ := FU_ex
  have hR6 := hI.1.2.1
  rw [hFU]
  suffices g : ∃ w', mkeep w' = mkeep z ∧ it (X9_hinges_B58 k43) (fun _ _ _ _ _ _ _ => none) N w (nI m) x2 (nI (hIn a m r s (r + 1 - (r + 1))).1) (hIn a m r s (r + 1 - (r + 1))).2 (nI r) (nI (r + 1)) = k43 w' (nI m) x2 (nI (hIn a m r s (a_R a - (r + 1))).1) (hIn a m r s (a_R a - (r + 1))).2 (nI (r + 1)) by
    rw [Nat.sub_self] at g; exact g
  refine it_rule (bot := fun _ _ _ _ _ _ _ => none) (a_R a) (fun i (t : MS) => r + 1 ≤ i ∧ mkeep t = mkeep z) (fun k i t => ∃ w', mkeep w' = mkeep z ∧ k t (nI m) x2 (nI (hIn a m r s (i - (r + 1))).1) (hIn a m r s (i - (r + 1))).2 (nI r) (nI i) = k43 w' (nI m) x2 (nI (hIn a m r s (a_R a - (r + 1))).1) (hIn a m r s (a_R a - (r + 1))).2 (nI (r + 1))) ?_ ?_ N (r + 1) w (by omega) (by omega) ⟨Nat.le_refl _, hw0⟩
  · intro k t ⟨_, ht⟩
    have hMt : Mc (mcore t) a := by rw [show mcore t = mcore z from congrArg (fun m => m.1) ht]; exact hM
    refine ⟨t, ht, ?_⟩
    unfold X9_hinges_B58
    rw [m_rooms hMt, if_pos (Int32.le_refl _), nI_1]
  · intro k i t hi ⟨hri, ht⟩ hk
    have hMt : Mc (mcore t) a := by rw [show mcore t = mcore z from congrArg (fun m => m.1) ht]; exact hM
    have h8 := hIn_le a m r s hs (i - (r + 1))
    rw [show i + 1 - (r + 1) = (i - (r + 1)) + 1 by omega, hIn_s, show r + 1 + (i - (r + 1)) = i by omega] at hk
    generalize hIn a m r s (i - (r + 1)) = u at *
    unfold hS at hk
    have w3 := (hI.2.2.1 r i (by omega) (by omega)).1
    have hwd : M_width t (6 * r + i) = nI (a_wd a r i) := hMt.2.2.2.2.1 r i (by omega) (by omega)
    unfold X9_hinges_B58 X9_hinges_J144
    rw [m_rooms hMt, if_neg (nI_ge hi (by omega)), ix6', chk_nI (by omega) (by decide), nI_clamp (by omega), hwd]
    by_cases c1 : 1 ≤ a_wd a r i
    · obtain ⟨t1, e1, e2, e3⟩ := asNow_Mx hMt
      obtain ⟨t2, f1, f2, f3⟩ := rloose_spec e3 (r := r) (q := i) (by omega) (by omega)
      obtain ⟨t3, g1, g2, g3⟩ := goMin_spec hI (Lo_R hI (by omega) (by omega) c1) f3 hm
      have ef := rfull_spec (Inv_minN hI (loR r i) m) g3.1
      rw [(minN_keep hI (loR r i) m).1] at ef
      have ef : f_X9_fullest t3 = some (nI (uhA a m r i)) := ef
      have g8 : uhA a m r i ≤ 8 := mxA_le _ _
      rw [if_neg (show ¬ nI (a_wd a r i) ≤ 0 from nI_ge (a := 0) (by omega) (by omega)), e1, Option.bind_some, ltA_eq, ← f1, g1, Option.bind_some, ef, Option.bind_some]
      unfold X9_hinges_J129 X9_hinges_J143 X9_hinges_J144
      rw [ten_i, nI_1]
      have kk := ((g2.trans f2).trans e2).trans ht
      by_cases c3 : uhA a m r i < u.1
      · rw [if_pos ⟨c1, c3⟩] at hk
        rw [if_neg (nI_ge c3 (by omega)), if_neg (nI_ge c3 (by omega))]
        exact hk t3 ⟨by omega, kk⟩
      · rw [if_neg (fun h => c3 h.2)] at hk
        rw [if_pos (nI_le (by omega) (by omega)), if_pos (nI_le (by omega) (by omega))]
        exact hk t3 ⟨by omega, kk⟩
    · rw [if_neg (fun h => c1 h.1)] at hk
      rw [if_pos (show nI (a_wd a r i) ≤ 0 from nI_le (b := 0) (by omega) (by decide)), nI_1]
      exact hk t ⟨by omega, ht⟩
theorem rhinges_spec {z w : MS} {a : AS} (hI : Inv a) (hM : Mc (mcore z) a) (hw0 : mkeep w = mkeep z) {m : Nat} (hm : m < 1000) (x2 : Int32) : ∃ w', it X9_hinges_B43 (fun _ _ _ _ _ _ => none) FU w (nI m) x2 (nI (hO a m 0).1) (-6) 0 = some (if x2 = 0 then nI (hO a m (a_R a)).1 else (hO a m (a_R a)).2, w') ∧ mkeep w' = mkeep z := by
  obtain ⟨N, hN, hFU⟩ := FU_ex
  have hR6 := hI.1.2.1
  rw [hFU]
  refine it_rule (bot := fun _ _ _ _ _ _ => none) (a_R a) (fun _ (t : MS) => mkeep t = mkeep z) (fun k i s => ∃ w', k s (nI m) x2 (nI (hO a m i).1) (hO a m i).2 (nI i) = some (if x2 = 0 then nI (hO a m (a_R a)).1 else (hO a m (a_R a)).2, w') ∧ mkeep w' = mkeep z) ?_ ?_ N 0 w (by omega) (by omega) hw0
  · intro k s hs
    have hMt : Mc (mcore s) a := by rw [show mcore s = mcore z from congrArg (fun m => m.1) hs]; exact hM
    refine ⟨s, ?_, hs⟩
    unfold X9_hinges_B43
    rw [m_rooms hMt, if_pos (Int32.le_refl _)]
    by_cases c : x2 = 0
    · rw [if_pos c, if_pos c]
    · rw [if_neg c, if_neg c]
  · intro k i s hi hs hk
    have hMt : Mc (mcore s) a := by rw [show mcore s = mcore z from congrArg (fun m => m.1) hs]; exact hM
    obtain ⟨d1, e0, e1⟩ := rhin_spec (k43 := k) hI hM hs hm hi x2 (hO a m i) (hO_le a m i)
    obtain ⟨d2, e2, e3⟩ := hk d1 e0
    refine ⟨d2, ?_, e3⟩
    unfold X9_hinges_B43
    rw [m_rooms hMt, if_neg (nI_ge hi (by omega)), nI_1, e1]
    exact e2
theorem sim_hinges : Sim_hinges Rel := by
  intro S z x y h
  obtain ⟨⟨a, hI, hH, hM⟩, h3⟩ := id h
  have hH : Hc (K_now S) a := hH
  have hM : Mc (mcore z) a := hM
  by_cases hx : (x < 0 ∨ nI 21 ≤ x) ∨ (y < 0 ∨ nI 2 ≤ y)
  · refine ⟨(-2, K_drift S), (-2, z), ?_, ?_, rfl, h⟩
    · unfold f_X8_hinges
      rcases out_20 hx with (a | ⟨a, b⟩) | ⟨⟨a, b⟩, c | ⟨c, c'⟩⟩
      · rw [if_pos a]
      · rw [if_neg a, if_pos b]
      · rw [if_neg a, if_neg b, if_pos c]
      · rw [if_neg a, if_neg b, if_neg c, if_neg c']
    · unfold f_X9_hinges; exact rin_20 hx _ _
  · obtain ⟨m, hm, rfl⟩ := (num_cases x (n := 21) (by decide)).resolve_right (fun q => hx (Or.inl q))
    obtain ⟨j, hj, rfl⟩ := (num_cases y (n := 2) (by decide)).resolve_right (fun q => hx (Or.inr q))
    obtain ⟨d1, e1⟩ := cbehind_spec hI hH (K_drift S) (m := m) (by omega)
    obtain ⟨d2, e2⟩ := chinges_spec hI hH d1 (m := m) (by omega) (nI j)
    obtain ⟨w1, g1, g2, g3⟩ := asNow_Mx hM
    obtain ⟨w2, k1, k2, k3⟩ := goMin_spec hI (Lo0 a) g3 (m := m) (by omega)
    have ef := rfull_spec (Inv_minN hI lo0 m) k3.1
    rw [(minN_keep hI lo0 m).1] at ef
    obtain ⟨w3, r1, r2⟩ := rhinges_spec hI hM (k2.trans g2) (m := m) (by omega) (nI j)
    refine ⟨(if nI j = 0 then nI (hO a m (a_R a)).1 else (hO a m (a_R a)).2, d2), (if nI j = 0 then nI (hO a m (a_R a)).1 else (hO a m (a_R a)).2, w3), ?_, ?_, rfl, h.to rfl r2⟩
    · unfold f_X8_hinges
      rw [if_neg (nI_pos (by omega)), if_neg (show ¬ (20 : Int32) < nI m from nI_nlt (a := 20) (by omega) (by omega)), if_neg (nI_pos (by omega)), if_pos (show nI j ≤ (1 : Int32) from nI_le (b := 1) (by omega) (by decide)), e1, Option.bind_some]
      exact e2
    · unfold f_X9_hinges
      rw [show f_X9_in (nI m) 0 20 = some 1 from in_nI (n := 21) hm (by decide), Option.bind_some, if_neg (by decide), show f_X9_in (nI j) 0 1 = some 1 from in_nI (n := 2) hj (by decide), Option.bind_some, if_neg (by decide), g1, Option.bind_some, k1, Option.bind_some, ef, Option.bind_some]
      exact r1
