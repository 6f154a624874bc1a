/-! 83.still -/
section
/-- the first still minute of those from i on, n at most -/
def fsA (b : AS) : Nat → Nat → Int32
  | 0, _ => -6
  | n + 1, i => if stil lo0 (minN lo0 b i) then nI (i + 1) else fsA b n (i + 1)
theorem fsA_0 (b : AS) (i : Nat) : fsA b 0 i = -6 := rfl
theorem fsA_s (b : AS) (n i : Nat) : fsA b (n + 1) i = if stil lo0 (minN lo0 b i) then nI (i + 1) else fsA b n (i + 1) := rfl
theorem cstill_spec {h : HS} {a : AS} (hI : Inv a) (hH : Hc h a) (d : DS) : ∃ d', f_X8_firstStill h d = some (fsA a 99 0, d') := by
  obtain ⟨N, hN, hFU⟩ := FU_ex
  obtain ⟨d1, b1, b2⟩ := begin_spec (d := d) hI hH
  unfold f_X8_firstStill
  rw [b1, Option.bind_some, hFU]
  refine it_rule (bot := fun _ _ _ => none) 99 (fun i (s : DS) => (∃ gn, Dx s (minN lo0 a i) gn lo0) ∧ fsA a (99 - i) i = fsA a 99 0) (fun k i s => ∃ d', k h s (nI (i + 1)) = some (fsA a 99 0, d')) ?_ ?_ N 0 d1 (by omega) (by omega) ⟨⟨_, b2⟩, rfl⟩
  · intro k s ⟨_, hf⟩
    exact ⟨s, by unfold X8_firstStill_B13; rw [if_pos (by decide), ← hf]; rfl⟩
  · intro k i s hi ⟨⟨gn, hs⟩, hf⟩ hk
    obtain ⟨d2, gn2, e1, e2⟩ := stillMin_spec (Inv_minN hI lo0 i) (Lo0 _) hs
    rw [show 99 - i = (99 - (i + 1)) + 1 by omega, fsA_s] at hf
    unfold X8_firstStill_B13
    rw [if_neg (show ¬ (99 : Int32) < nI (i + 1) from nI_nlt (a := 99) (by omega) (by omega)), e1, Option.bind_some, nI_1]
    cases c : stil lo0 (minN lo0 a i)
    · rw [c] at hf
      exact hk d2 ⟨⟨gn2, e2⟩, hf⟩
    · rw [c, if_pos rfl] at hf
      refine ⟨d2, ?_⟩
      rw [← hf]; rfl
theorem rtalk_spec {k6 : MS → Int32 → Option (Int32 × MS)} {w : MS} {b : AS} (hI : Inv b) (hM : Mx0 w b lo0) (x : Int32) : ∃ w', mkeep w' = mkeep w ∧ Mx0 w' (minA lo0 b) lo0 ∧ it (X9_stillAt_B16 k6) (fun _ _ _ _ => none) FU w x 0 0 = if stil lo0 b then some (x, w') else k6 w' (x + 1) := by
  obtain ⟨N, hN, hFU⟩ := FU_ex
  have hT := hI.1.2.2.1
  have et : M_there w = nI (a_T b) := hM.1.2.1
  obtain ⟨w', gn', p1, p2, p3⟩ := pass_spec hI (Lo0 b) hM
  have hw : wentA lo0 b ≤ 8 := (Kp_mv hI lo0 8 (Nat.le_refl _)).2.2.1
  refine ⟨w', p2, p3.to0, ?_⟩
  rw [hFU]
  refine it_rule (bot := fun _ _ _ _ => none) 8 (fun i (v : Bool) => v = (List.range i).any (fun g => a_bs b g == 1)) (fun k i v => k w x (if v then 1 else 0) (nI i) = if stil lo0 b then some (x, w') else k6 w' (x + 1)) ?_ ?_ N 0 false (by omega) (by omega) rfl
  · intro k v hv
    have hv : v = anyT b := hv
    unfold X9_stillAt_B16 X9_stillAt_J72 stil
    rw [if_pos (by decide), p1, Option.bind_some, hv]
    by_cases c : wentA lo0 b = 0
    · rw [if_pos (show nI (wentA lo0 b) = 0 by rw [c]; rfl), c]
      cases anyT b <;> rfl
    · rw [if_neg (show ¬ nI (wentA lo0 b) = 0 from fun h => c ((nI_eq (by omega) (b := 0) (by decide)).mp h))]
      simp [c]
  · intro k i v hi hv hk
    have hbs := bs_lt hI hi
    have es : ((List.range (i + 1)).any fun g => a_bs b g == 1) = (v || (a_bs b i == 1)) := by rw [List.range_succ, List.any_append, ← hv]; simp
    have hk' := hk _ rfl
    rw [es] at hk'
    unfold X9_stillAt_B16 X9_stillAt_J51 X9_stillAt_J47 X9_stillAt_J52
    rw [if_neg (show ¬ (8 : Int32) ≤ nI i from nlit (by decide) hi), nI_1]
    cases v
    · rw [if_pos (by decide), et, has_b hT hi, Option.bind_some]
      cases e : (a_T b).testBit i
      · have e' : a_is b i = false := e
        rw [(hI.2.2.2.2.1 i hi e').2.1] at hk'
        exact hk'
      · have e' : a_is b i = true := e
        rw [if_neg (by decide), chk_nI hi (by decide), nI_clamp (by omega), (gt_now hM.1 hi e').2.1]
        by_cases c : a_bs b i = 1
        · rw [if_pos (show nI (a_bs b i) = (1 : Int32) by rw [c]; rfl)]
          rw [c] at hk'; exact hk'
        · rw [if_neg (show ¬ nI (a_bs b i) = (1 : Int32) from fun h => c ((nI_eq (by omega) (b := 1) (by decide)).mp h))]
          rw [show (a_bs b i == 1) = false by simp [c]] at hk'
          exact hk'
    · rw [if_neg (by decide)]
      exact hk'
theorem rstill_spec {z : MS} {a : AS} (hI : Inv a) (hM : Mc (mcore z) a) : ∃ w, f_X9_stillAt z = some (fsA a 99 0, w) ∧ mkeep w = mkeep z := by
  obtain ⟨N, hN, hFU⟩ := FU_ex
  obtain ⟨w, e1, e2, e3⟩ := asNow_Mx hM
  unfold f_X9_stillAt
  rw [e1, Option.bind_some, hFU]
  refine it_rule (bot := fun _ _ => none) 99 (fun i (s : MS) => mkeep s = mkeep z ∧ Mx0 s (minN lo0 a i) lo0 ∧ fsA a (99 - i) i = fsA a 99 0) (fun k i s => ∃ w, k s (nI (i + 1)) = some (fsA a 99 0, w) ∧ mkeep w = mkeep z) ?_ ?_ N 0 w (by omega) (by omega) ⟨e2, e3, rfl⟩
  · intro k s ⟨h1, _, hf⟩
    exact ⟨s, by unfold X9_stillAt_B6; rw [if_pos (by decide), ← hf]; rfl, h1⟩
  · intro k i s hi ⟨h1, h2, hf⟩ hk
    obtain ⟨w', q1, q2, q3⟩ := rtalk_spec (k6 := k) (Inv_minN hI lo0 i) h2 (nI (i + 1))
    rw [show 99 - i = (99 - (i + 1)) + 1 by omega, fsA_s] at hf
    unfold X9_stillAt_B6
    rw [if_neg (show ¬ (100 : Int32) ≤ nI (i + 1) from nlit (b := 100) (by decide) (by omega)), q3]
    cases c : stil lo0 (minN lo0 a i)
    · rw [c] at hf
      rw [if_neg (by decide), nI_1]
      exact hk w' ⟨q1.trans h1, q2, hf⟩
    · rw [c, if_pos rfl] at hf
      exact ⟨w', by rw [if_pos rfl, hf], q1.trans h1⟩
theorem sim_still : Sim_still Rel := by
  intro S z h
  obtain ⟨⟨a, hI, hH, hM⟩, h3⟩ := id h
  have hH : Hc (K_now S) a := hH
  have hM : Mc (mcore z) a := hM
  obtain ⟨d', e1⟩ := cstill_spec hI hH (K_drift S)
  obtain ⟨w, e2, e3⟩ := rstill_spec hI hM
  refine ⟨(fsA a 99 0, d'), (fsA a 99 0, w), ?_, ?_, rfl, h.to rfl e3⟩
  · unfold f_X8_still; rw [e1, Option.bind_some]
  · unfold f_X9_still; rw [e2, Option.bind_some]
/-- the fullest ever in m minutes -/
def thA (a : AS) : Nat → Nat
  | 0 => 0
  | m + 1 => if thA a m < mxA (minN lo0 a (m + 1)) (a_R a) then mxA (minN lo0 a (m + 1)) (a_R a) else thA a m
theorem thA_s (a : AS) (m : Nat) : thA a (m + 1) = if thA a m < mxA (minN lo0 a (m + 1)) (a_R a) then mxA (minN lo0 a (m + 1)) (a_R a) else thA a m := rfl
theorem thA_le (a : AS) : ∀ m, thA a m ≤ 8
  | 0 => Nat.zero_le _
  | m + 1 => by
    rw [thA_s]
    have h1 := mxA_le (minN lo0 a (m + 1)) (a_R a)
    have h2 := thA_le a m
    split <;> omega
theorem cthrong_spec {h : HS} {a : AS} {d : DS} {gn : Nat → Nat → Nat} (hI : Inv a) (hD : Dx d a gn lo0) {m : Nat} (hm : m < 1000) : ∃ d', it X8_throng_B29 (fun _ _ _ _ _ => none) FU h d (nI m) 0 0 = some (nI (thA a m), d') := by
  obtain ⟨N, hN, hFU⟩ := FU_ex
  rw [hFU]
  refine it_rule (bot := fun _ _ _ _ _ => none) m (fun i (s : DS) => ∃ gn, Dx s (minN lo0 a i) gn lo0) (fun k i s => ∃ d', k h s (nI m) (nI (thA a i)) (nI i) = some (nI (thA a m), d')) ?_ ?_ N 0 d (by omega) (by omega) ⟨gn, hD⟩
  · intro k s _
    exact ⟨s, by unfold X8_throng_B29; rw [if_pos (Int32.le_refl _)]⟩
  · intro k i s hi ⟨gn, hs⟩ hk
    obtain ⟨d1, gn1, e1, e2⟩ := minute_spec (Inv_minN hI lo0 i) (Lo0 _) hs
    have e2 : Dx d1 (minN lo0 a (i + 1)) gn1 lo0 := e2
    obtain ⟨d2, k2⟩ := hk d1 ⟨gn1, e2⟩
    refine ⟨d2, ?_⟩
    have h1 := mxA_le (minN lo0 a (i + 1)) (a_R a)
    have h2 := thA_le a i
    have ef := cfull_spec (Inv_minN hI lo0 (i + 1)) e2
    rw [(minN_keep hI lo0 (i + 1)).1] at ef
    unfold X8_throng_B29
    rw [if_neg (nI_ge hi (by omega)), e1, Option.bind_some]
    show (f_X0_fullest d1).bind _ = _
    rw [ef, Option.bind_some, nI_1]
    rw [thA_s] at k2
    by_cases c : thA a i < mxA (minN lo0 a (i + 1)) (a_R a)
    · rw [if_pos c] at k2; rw [if_pos (nI_lt c (by omega))]; exact k2
    · rw [if_neg c] at k2; rw [if_neg (nI_nlt (by omega) (by omega))]; exact k2
theorem rthrong_spec {w : MS} {a : AS} (hI : Inv a) (hM : Mx0 w a lo0) {m : Nat} (hm : m < 1000) : ∃ w', it X9_throng_B21 (fun _ _ _ _ => none) FU w (nI m) 0 0 = some (nI (thA a m), w') ∧ mkeep w' = mkeep w := by
  obtain ⟨N, hN, hFU⟩ := FU_ex
  rw [hFU]
  refine it_rule (bot := fun _ _ _ _ => none) m (fun i (s : MS) => mkeep s = mkeep w ∧ Mx0 s (minN lo0 a i) lo0) (fun k i s => ∃ w', k s (nI m) (nI (thA a i)) (nI i) = some (nI (thA a m), w') ∧ mkeep w' = mkeep w) ?_ ?_ N 0 w (by omega) (by omega) ⟨rfl, hM⟩
  · intro k s hs
    exact ⟨s, by unfold X9_throng_B21; rw [if_pos (Int32.le_refl _)], hs.1⟩
  · intro k i s hi ⟨hs, hMs⟩ hk
    obtain ⟨w1, gn1, e1, e2, e3⟩ := pass_spec (Inv_minN hI lo0 i) (Lo0 _) hMs
    have e3 : Mx w1 (minN lo0 a (i + 1)) gn1 lo0 := e3
    obtain ⟨w', k1, k2⟩ := hk w1 ⟨e2.trans hs, e3.to0⟩
    refine ⟨w', ?_, k2⟩
    have h1 := mxA_le (minN lo0 a (i + 1)) (a_R a)
    have h2 := thA_le a i
    have ef := rfull_spec (Inv_minN hI lo0 (i + 1)) e3.1
    rw [(minN_keep hI lo0 (i + 1)).1] at ef
    unfold X9_throng_B21 X9_throng_J49
    rw [if_neg (nI_ge hi (by omega)), e1, Option.bind_some]
    show (f_X9_fullest w1).bind _ = _
    rw [ef, Option.bind_some, nI_1]
    rw [thA_s] at k1
    by_cases c : thA a i < mxA (minN lo0 a (i + 1)) (a_R a)
    · rw [if_pos c] at k1; rw [if_neg (nI_ge c (by omega))]; exact k1
    · rw [if_neg c] at k1; rw [if_pos (nI_le (by omega) (by omega))]; exact k1
theorem sim_throng : Sim_throng Rel := by
  intro S z x h
  obtain ⟨⟨a, hI, hH, hM⟩, h3⟩ := id h
  have hH : Hc (K_now S) a := hH
  have hM : Mc (mcore z) a := hM
  by_cases c1 : x < 1
  · refine ⟨(-2, K_drift S), (-2, z), ?_, ?_, rfl, h⟩
    · unfold f_X8_throng; rw [if_pos c1]
    · unfold f_X9_throng; rw [in_0 (Or.inl c1), Option.bind_some, if_pos rfl]
  · by_cases c2 : x ≤ 99
    · obtain ⟨m, hm', rfl⟩ := nI_of (x := x) (fun q => c1 (Int32.lt_of_lt_of_le q (by decide)))
      have hm : m ≤ 99 := (nI_leI hm' (b := 99) (by decide)).mp c2
      obtain ⟨w, e1, e2, e3⟩ := asNow_Mx hM
      obtain ⟨d', b1, b2⟩ := begin_spec (d := K_drift S) hI hH
      obtain ⟨d2, c3⟩ := cthrong_spec (h := K_now S) hI b2 (m := m) (by omega)
      obtain ⟨w', c4, c5⟩ := rthrong_spec hI e3 (m := m) (by omega)
      refine ⟨(nI (thA a m), d2), (nI (thA a m), w'), ?_, ?_, rfl, h.to rfl (c5.trans e2)⟩
      · unfold f_X8_throng; rw [if_neg c1, if_pos c2, b1, Option.bind_some]; exact c3
      · unfold f_X9_throng; rw [in_1 c1 (Int32.not_lt.mpr c2), Option.bind_some, if_neg (show ¬ (1 : Int32) = 0 by decide), e1, Option.bind_some]; exact c4
    · refine ⟨(-2, K_drift S), (-2, z), ?_, ?_, rfl, h⟩
      · unfold f_X8_throng; rw [if_neg c1, if_neg c2]
      · unfold f_X9_throng; rw [in_0 (Or.inr (Int32.not_le.mp c2)), Option.bind_some, if_pos rfl]
end
/-! 84.talk -/
section
/-! two begin to talk -/
theorem eng_is (a : AS) (g b : Nat) (m : Int) (l j : Nat) : a_is (eng a g b m l) j = a_is a j := rfl
theorem eng_in (a : AS) (g b : Nat) (m : Int) (l r : Nat) : a_in (eng a g b m l) r = a_in a r := rfl
def tkk (b : AS) (g q l : Nat) : AS := eng (eng b g 1 (q : Int) l) q 1 (g : Int) l
theorem tkk_R (b : AS) (g q l : Nat) : a_R (tkk b g q l) = a_R b := rfl
theorem tkk_T (b : AS) (g q l : Nat) : a_T (tkk b g q l) = a_T b := rfl
theorem tkk_k (b : AS) (g q l : Nat) : a_k (tkk b g q l) = a_k b := rfl
theorem tkk_th (b : AS) (g q l : Nat) : a_th (tkk b g q l) = a_th b := rfl
theorem tkk_sz (b : AS) (g q l : Nat) : a_sz (tkk b g q l) = a_sz b := rfl
theorem tkk_ch (b : AS) (g q l : Nat) : a_ch (tkk b g q l) = a_ch b := rfl
theorem tkk_wd (b : AS) (g q l : Nat) : a_wd (tkk b g q l) = a_wd b := rfl
theorem tkk_lk (b : AS) (g q l : Nat) : a_lk (tkk b g q l) = a_lk b := rfl
theorem tkk_pl (b : AS) (g q l : Nat) : a_pl (tkk b g q l) = a_pl b := rfl
theorem tkk_sg (b : AS) (g q l : Nat) : a_sg (tkk b g q l) = a_sg b := rfl
theorem tkk_sr (b : AS) (g q l : Nat) : a_sr (tkk b g q l) = a_sr b := rfl
theorem tkk_is (b : AS) (g q l j : Nat) : a_is (tkk b g q l) j = a_is b j := rfl
theorem tkk_in (b : AS) (g q l r : Nat) : a_in (tkk b g q l) r = a_in b r := rfl
theorem tkk_bs (b : AS) (g q l j : Nat) : a_bs (tkk b g q l) j = if j = q then 1 else if j = g then 1 else a_bs b j := rfl
theorem tkk_mt (b : AS) (g q l j : Nat) : a_mt (tkk b g q l) j = if j = q then (g : Int) else if j = g then (q : Int) else a_mt b j := rfl
theorem tkk_lf (b : AS) (g q l j : Nat) : a_lf (tkk b g q l) j = if j = q then l else if j = g then l else a_lf b j := rfl
theorem Inv_tkk {b : AS} (hI : Inv b) {g q l : Nat} (hg : g < 8) (hq : q < 8) (ig : a_is b g = true) (iq : a_is b q = true) (bg : a_bs b g = 0) (bq : a_bs b q = 0) (hgq : g ≠ q) (h1 : 1 ≤ l) (h9 : l ≤ 9) : Inv (tkk b g q l) := by
  obtain ⟨i1, i2, i3, i4, i5, i6, i7, i8, i9, i10, i11⟩ := id hI
  unfold Inv
  simp only [tkk_R, tkk_T, tkk_k, tkk_th, tkk_sz, tkk_ch, tkk_wd, tkk_lk, tkk_pl, tkk_sg, tkk_sr, tkk_is, tkk_in, tkk_bs, tkk_mt, tkk_lf]
  refine ⟨i1, i2, i3, i4, ?_, ?_, ?_, ?_, ?_, i10, i11⟩
  · intro j hj e
    have n1 : j ≠ q := fun h => by rw [h, iq] at e; cases e
    have n2 : j ≠ g := fun h => by rw [h, ig] at e; cases e
    rw [if_neg n1, if_neg n2]; exact i5 j hj e
  · intro j hj e
    obtain ⟨q1, q2, q3⟩ := i6 j hj e
    exact ⟨q1, by split; decide; split; decide; exact q2, q3⟩
  · intro j hj e
    have n1 : j ≠ q := fun h => by rw [if_pos h] at e; omega
    have n2 : j ≠ g := fun h => by rw [if_neg n1, if_pos h] at e; omega
    rw [if_neg n1, if_neg n2] at e ⊢
    rw [if_neg n1, if_neg n2]; exact i7 j hj e
  · intro j hj e
    by_cases c1 : j = q
    · rw [if_pos c1, if_pos c1]
      refine ⟨g, hg, by omega, rfl, ig, ?_, ?_, ?_, h1, h9⟩
      · rw [if_neg hgq, if_pos rfl]
      · rw [if_neg hgq, if_pos rfl, c1]
      · rw [if_neg hgq, if_pos rfl]
    · by_cases c2 : j = g
      · rw [if_neg c1, if_neg c1, if_pos c2, if_pos c2]
        refine ⟨q, hq, by omega, rfl, iq, ?_, ?_, ?_, h1, h9⟩
        · rw [if_pos rfl]
        · rw [if_pos rfl, c2]
        · rw [if_pos rfl]
      · rw [if_neg c1, if_neg c2] at e
        rw [if_neg c1, if_neg c1, if_neg c2, if_neg c2]
        obtain ⟨i, k1, k2, k3, k4, k5, k6, k7⟩ := i8 j hj e
        have n1 : i ≠ q := fun h => by rw [h] at k5; omega
        have n2 : i ≠ g := fun h => by rw [h] at k5; omega
        refine ⟨i, k1, k2, k3, k4, ?_, ?_, ?_⟩
        · rw [if_neg n1, if_neg n2]; exact k5
        · rw [if_neg n1, if_neg n2]; exact k6
        · rw [if_neg n1, if_neg n2]; exact k7
  · intro j hj e
    have n1 : j ≠ q := fun h => by rw [if_pos h] at e; omega
    have n2 : j ≠ g := fun h => by rw [if_neg n1, if_pos h] at e; omega
    rw [if_neg n1, if_neg n2] at e
    rw [if_neg n1, if_neg n2, if_neg n1, if_neg n2]; exact i9 j hj e
theorem ctalk_spec {h : HS} {b : AS} (hH : Hc h b) {g q l : Nat} (hg : g < 8) (hq : q < 8) : ∃ h', f_X1_talk h (nI g) (nI q) (nI l) = some h' ∧ Hc h' (tkk b g q l) := by
  have h1 : Hc (hEng h g 1 (nI q) (nI l)) (eng b g 1 (q : Int) l) := Hc_eng' hH rfl (oI_nat q).symm rfl
  have h2 : Hc (hEng (hEng h g 1 (nI q) (nI l)) q 1 (nI g) (nI l)) (eng (eng b g 1 (q : Int) l) q 1 (g : Int) l) := Hc_eng' h1 rfl (oI_nat g).symm rfl
  refine ⟨hEng (hEng h g 1 (nI q) (nI l)) q 1 (nI g) (nI l), ?_, h2⟩
  unfold f_X1_talk
  rw [engage_spec _ hg, Option.bind_some, engage_spec _ hq, Option.bind_some]
theorem Mx0.now {w w' : MS} {b b' : AS} {lo : Nat → Nat → Bool} (h : Mx0 w b lo) (hm : Mc (mnow w') b') (e : M_loose w' = M_loose w) : Mx0 w' b' lo := ⟨hm, fun r q hr hq => by rw [e]; exact h.2 r q hr hq⟩
theorem rtalk2_spec {w : MS} {b : AS} {lo : Nat → Nat → Bool} (hM : Mx0 w b lo) {g q l : Nat} (hg : g < 8) (hq : q < 8) (hgq : g ≠ q) : ∃ w', f_X9_talk w (nI g) (nI q) (nI l) = some w' ∧ mkeep w' = mkeep w ∧ Mx0 w' (tkk b g q l) lo ∧ mrest w' = mrest w := by
  obtain ⟨y1, ey1⟩ : ∃ x, x = M_set_busyNow w (upd (M_busyNow w) g 1) := ⟨_, rfl⟩
  obtain ⟨a1, b1, c1⟩ := sx_busyNow ey1
  obtain ⟨y2, ey2⟩ : ∃ x, x = M_set_busyNow y1 (upd (M_busyNow y1) q 1) := ⟨_, rfl⟩
  obtain ⟨a2, b2, c2⟩ := sx_busyNow ey2
  obtain ⟨y3, ey3⟩ : ∃ x, x = M_set_withNow y2 (upd (M_withNow y2) g (nI q)) := ⟨_, rfl⟩
  obtain ⟨a3, b3, c3⟩ := sx_withNow ey3
  obtain ⟨y4, ey4⟩ : ∃ x, x = M_set_withNow y3 (upd (M_withNow y3) q (nI g)) := ⟨_, rfl⟩
  obtain ⟨a4, b4, c4⟩ := sx_withNow ey4
  obtain ⟨y5, ey5⟩ : ∃ x, x = M_set_leftNow y4 (upd (M_leftNow y4) g (nI l)) := ⟨_, rfl⟩
  obtain ⟨a5, b5, c5⟩ := sx_leftNow ey5
  obtain ⟨y6, ey6⟩ : ∃ x, x = M_set_leftNow y5 (upd (M_leftNow y5) q (nI l)) := ⟨_, rfl⟩
  obtain ⟨a6, b6, c6⟩ := sx_leftNow ey6
  have kk := ((((a6.trans a5).trans a4).trans a3).trans a2).trans a1
  have f1 : M_busyNow y1 = upd (M_busyNow w) g 1 := congrArg (fun m => m.2.1) b1
  have f2 : M_busyNow y2 = upd (M_busyNow y1) q 1 := congrArg (fun m => m.2.1) b2
  have f3 : M_withNow y2 = M_withNow w := (congrArg (fun m => m.2.2.1) b2).trans (congrArg (fun m => m.2.2.1) b1)
  have f4 : M_withNow y3 = upd (M_withNow y2) g (nI q) := congrArg (fun m => m.2.2.1) b3
  have f5 : M_withNow y4 = upd (M_withNow y3) q (nI g) := congrArg (fun m => m.2.2.1) b4
  have f6 : M_leftNow y4 = M_leftNow w := (((congrArg (fun m => m.2.2.2.1) b4).trans (congrArg (fun m => m.2.2.2.1) b3)).trans (congrArg (fun m => m.2.2.2.1) b2)).trans (congrArg (fun m => m.2.2.2.1) b1)
  have f7 : M_leftNow y5 = upd (M_leftNow y4) g (nI l) := congrArg (fun m => m.2.2.2.1) b5
  have f8 : M_leftNow y6 = upd (M_leftNow y5) q (nI l) := congrArg (fun m => m.2.2.2.1) b6
  have g1 : M_at y6 = M_at w := (((((congrArg (fun m => m.1) b6).trans (congrArg (fun m => m.1) b5)).trans (congrArg (fun m => m.1) b4)).trans (congrArg (fun m => m.1) b3)).trans (congrArg (fun m => m.1) b2)).trans (congrArg (fun m => m.1) b1)
  have g2 : M_busyNow y6 = upd (upd (M_busyNow w) g 1) q 1 := by
    have : M_busyNow y6 = M_busyNow y2 := (((congrArg (fun m => m.2.1) b6).trans (congrArg (fun m => m.2.1) b5)).trans (congrArg (fun m => m.2.1) b4)).trans (congrArg (fun m => m.2.1) b3)
    rw [this, f2, f1]
  have g3 : M_withNow y6 = upd (upd (M_withNow w) g (nI q)) q (nI g) := by
    have : M_withNow y6 = M_withNow y4 := (congrArg (fun m => m.2.2.1) b6).trans (congrArg (fun m => m.2.2.1) b5)
    rw [this, f5, f4, f3]
  have g4 : M_leftNow y6 = upd (upd (M_leftNow w) g (nI l)) q (nI l) := by rw [f8, f7, f6]
  have g5 : M_thingsNow y6 = M_thingsNow w := (((((congrArg (fun m => m.2.2.2.2.1) b6).trans (congrArg (fun m => m.2.2.2.2.1) b5)).trans (congrArg (fun m => m.2.2.2.2.1) b4)).trans (congrArg (fun m => m.2.2.2.2.1) b3)).trans (congrArg (fun m => m.2.2.2.2.1) b2)).trans (congrArg (fun m => m.2.2.2.2.1) b1)
  have g6 : M_loose y6 = M_loose w := (((((congrArg (fun m => m.2.2.2.2.2.1) b6).trans (congrArg (fun m => m.2.2.2.2.2.1) b5)).trans (congrArg (fun m => m.2.2.2.2.2.1) b4)).trans (congrArg (fun m => m.2.2.2.2.2.1) b3)).trans (congrArg (fun m => m.2.2.2.2.2.1) b2)).trans (congrArg (fun m => m.2.2.2.2.2.1) b1)
  refine ⟨y6, ?_, kk, hM.now (Mc_now kk hM.1 rfl rfl rfl rfl rfl rfl rfl rfl (fun r s hr hs => by rw [g5]; exact gt_th hM.1 hr hs) (fun _ _ _ _ _ => rfl) (fun j hj hi => ?_)) g6, ((((c6.trans c5).trans c4).trans c3).trans c2).trans c1⟩
  · unfold f_X9_talk
    rw [chk_nI hg (by decide), nI_clamp (by omega), ltA_eq, ← ey1, chk_nI hq (by decide), nI_clamp (by omega), ltA_eq, ← ey2, chk_nI hg (by decide), ltA_eq, ← ey3, chk_nI hq (by decide), ltA_eq, ← ey4, chk_nI hg (by decide), ltA_eq, ← ey5, chk_nI hq (by decide), ltA_eq, ← ey6]
  · rw [g1, g2, g3, g4]
    simp only [tkk_pl, tkk_bs, tkk_mt, tkk_lf]
    obtain ⟨p1, p2, p3, p4⟩ := gt_now hM.1 hj hi
    by_cases d1 : j = q
    · rw [if_pos d1, if_pos d1, if_pos d1, d1, pk_us, pk_us, pk_us]
      exact ⟨by rw [← d1]; exact p1, rfl, rfl, fun _ => rfl⟩
    · rw [if_neg d1, if_neg d1, if_neg d1, pk_un d1, pk_un d1, pk_un d1]
      by_cases d2 : j = g
      · rw [if_pos d2, if_pos d2, if_pos d2, d2, pk_us, pk_us, pk_us]
        exact ⟨by rw [← d2]; exact p1, rfl, rfl, fun _ => rfl⟩
      · rw [if_neg d2, if_neg d2, if_neg d2, pk_un d2, pk_un d2, pk_un d2]
        exact ⟨p1, p2, p3, p4⟩
/-- why two can't talk -/
def wnt (b : AS) (g q : Nat) : Nat := if ¬ (a_is b g = true ∧ a_is b q = true) then 1 else if ¬ (a_bs b g = 0 ∧ a_bs b q = 0) then 2 else if ¬ a_pl b g = a_pl b q then 3 else 0
theorem cwnt_spec {h : HS} {b : AS} (hI : Inv b) (hH : Hc h b) {g q : Nat} (hg : g < 8) (hq : q < 8) : f_X1_whyNotTalk h (nI g) (nI q) = some (nI (wnt b g q)) := by
  have b1 := bs_lt hI hg
  have b2 := bs_lt hI hq
  have p1 := pl_lt hI hg
  have p2 := pl_lt hI hq
  obtain ⟨e1, e2, -⟩ := hH.2.2.2.2.2.1 g hg
  obtain ⟨e3, e4, -⟩ := hH.2.2.2.2.2.1 q hq
  unfold f_X1_whyNotTalk wnt
  rw [th_at hI hH hg, th_at hI hH hq, Option.bind_some, Option.bind_some, chk_nI hg (by decide), chk_nI hq (by decide), chk_nI hg (by decide), chk_nI hq (by decide), nI_clamp (by omega), nI_clamp (by omega), e1, e2, e3, e4]
  simp only [b10]
  simp (disch := omega) only [s_lit, p_eq]
  cases a_is b g <;> cases a_is b q <;> by_cases c1 : a_bs b g = 0 <;> by_cases c2 : a_bs b q = 0 <;> by_cases c3 : a_pl b g = a_pl b q <;> simp [c1, c2, c3]
theorem isTh_now {w : MS} {b : AS} (hI : Inv b) (hM : Mc (mnow w) b) {g : Nat} (hg : g < 8) : f_X9_isThere w (nI g) = some (if a_is b g then 1 else 0) := by
  have hT := hI.1.2.2.1
  have et : M_there w = nI (a_T b) := hM.2.1
  unfold f_X9_isThere
  rw [show f_X9_in (nI g) 0 7 = some 1 from in_nI (n := 8) hg (by decide), Option.bind_some, if_neg (by decide), et, has_b hT hg, Option.bind_some]
  unfold a_is
  cases (a_T b).testBit g <;> rfl
theorem rwnt_spec {w : MS} {b : AS} (hI : Inv b) (hM : Mc (mnow w) b) {g q : Nat} (hg : g < 8) (hq : q < 8) : f_X9_whyNotTalk w (nI g) (nI q) = some (nI (wnt b g q)) := by
  have b1 := bs_lt hI hg
  have b2 := bs_lt hI hq
  have p1 := pl_lt hI hg
  have p2 := pl_lt hI hq
  unfold f_X9_whyNotTalk X9_whyNotTalk_J16 X9_whyNotTalk_J36 f_X9_isBusy wnt
  rw [isTh_now hI hM hg, isTh_now hI hM hq, Option.bind_some, Option.bind_some]
  cases i1 : a_is b g
  · simp only [b10]; simp; rfl
  · cases i2 : a_is b q
    · simp only [b10]; simp; rfl
    · obtain ⟨e1, e2, -⟩ := gt_now hM hg i1
      obtain ⟨e3, e4, -⟩ := gt_now hM hq i2
      simp only [b10, if_true, chk_nI hg (show 8 < 2 ^ 31 by decide), chk_nI hq (show 8 < 2 ^ 31 by decide), nI_clamp (show g < 2 ^ 31 by omega), nI_clamp (show q < 2 ^ 31 by omega), e1, e2, e3, e4]
      simp (disch := omega) only [s_lit, p_eq, p_le]
      by_cases c1 : a_bs b g = 0 <;> by_cases c2 : a_bs b q = 0 <;> by_cases c3 : a_pl b g = a_pl b q <;> simp [c1, c2, c3, s_lit, p_eq]
end
/-! 85.year -/
section
/-! a year -/
abbrev YA : Type := AS × Nat × Nat × Nat
def yX (X : Nat) : Nat := (75 * X + 74) % 65537
/-- the two meet -/
def meetA (b : AS) (X : Nat) : AS := if X % 8 ≠ X / 8 % 8 ∧ wnt b (X % 8) (X / 8 % 8) = 0 then tkk b (X % 8) (X / 8 % 8) (1 + X / 64 % 5) else b
def meetN (b : AS) (X : Nat) : Nat := if X % 8 ≠ X / 8 % 8 ∧ wnt b (X % 8) (X / 8 % 8) = 0 then 1 else 0
def yS (s : YA) : YA := (minA lo0 (meetA s.1 (yX s.2.2.2)), s.2.1 + wentA lo0 (meetA s.1 (yX s.2.2.2)), s.2.2.1 + meetN s.1 (yX s.2.2.2), yX s.2.2.2)
def yA (s : YA) : Nat → YA
  | 0 => s
  | m + 1 => yS (yA s m)
theorem yA_s (s : YA) (m : Nat) : yA s (m + 1) = yS (yA s m) := rfl
theorem wnt_0 {b : AS} {g q : Nat} (h : wnt b g q = 0) : a_is b g = true ∧ a_is b q = true ∧ a_bs b g = 0 ∧ a_bs b q = 0 ∧ a_pl b g = a_pl b q := by
  unfold wnt at h
  by_cases c1 : a_is b g = true ∧ a_is b q = true
  · rw [if_neg (fun h => h c1)] at h
    by_cases c2 : a_bs b g = 0 ∧ a_bs b q = 0
    · rw [if_neg (fun h => h c2)] at h
      by_cases c3 : a_pl b g = a_pl b q
      · exact ⟨c1.1, c1.2, c2.1, c2.2, c3⟩
      · rw [if_pos c3] at h; cases h
    · rw [if_pos c2] at h; cases h
  · rw [if_pos c1] at h; cases h
theorem wnt_le (b : AS) (g q : Nat) : wnt b g q ≤ 3 := by
  unfold wnt
  repeat' split
  all_goals decide
theorem Inv_meet {b : AS} (hI : Inv b) (X : Nat) : Inv (meetA b X) := by
  unfold meetA
  by_cases c : X % 8 ≠ X / 8 % 8 ∧ wnt b (X % 8) (X / 8 % 8) = 0
  · rw [if_pos c]
    obtain ⟨h1, h2, h3, h4, -⟩ := wnt_0 c.2
    exact Inv_tkk hI (Nat.mod_lt _ (by decide)) (Nat.mod_lt _ (by decide)) h1 h2 h3 h4 c.1 (by omega) (by omega)
  · rw [if_neg c]; exact hI
theorem yA_ok {s : YA} (hI : Inv s.1) (hX : s.2.2.2 < 65537) (h0 : s.2.1 = 0) (h1 : s.2.2.1 = 0) : ∀ m, Inv (yA s m).1 ∧ (yA s m).2.1 ≤ 8 * m ∧ (yA s m).2.2.1 ≤ m ∧ (yA s m).2.2.2 < 65537
  | 0 => ⟨hI, by rw [show (yA s 0) = s from rfl, h0]; omega, by rw [show (yA s 0) = s from rfl, h1]; omega, hX⟩
  | m + 1 => by
    obtain ⟨i1, i2, i3, i4⟩ := yA_ok hI hX h0 h1 m
    rw [yA_s]
    have hw : wentA lo0 (meetA (yA s m).1 (yX (yA s m).2.2.2)) ≤ 8 := (Kp_mv (Inv_meet i1 _) lo0 8 (Nat.le_refl _)).2.2.1
    refine ⟨Inv_min (Inv_meet i1 _) lo0, ?_, ?_, Nat.mod_lt _ (by decide)⟩
    · show (yA s m).2.1 + _ ≤ _; omega
    · show (yA s m).2.2.1 + meetN _ _ ≤ _
      unfold meetN; split <;> omega
theorem yX_i {X : Nat} (hX : X < 65537) : (((75 : Int32) * nI X) + (74 : Int32)) - (((75 : Int32) * nI X) + (74 : Int32)) / (65537 : Int32) * (65537 : Int32) = nI (yX X) := by
  rw [show (75 : Int32) = nI 75 from rfl, pk_mul, show (74 : Int32) = nI 74 from rfl, nI_add, show (65537 : Int32) = nI 65537 from rfl, pk_rem (by omega) (by decide) (by decide)]
  rfl
theorem m8 {X : Nat} (hX : X < 65537) : nI X - nI X / (8 : Int32) * (8 : Int32) = nI (X % 8) := pk_rem (a := X) (d := 8) (by omega) (by decide) (by decide)
theorem d8 {X : Nat} (hX : X < 65537) : nI X / (8 : Int32) - nI X / (8 : Int32) / (8 : Int32) * (8 : Int32) = nI (X / 8 % 8) := by
  rw [show nI X / (8 : Int32) = nI (X / 8) from pk_div (by omega) (by decide) (by decide)]
  exact pk_rem (a := X / 8) (d := 8) (by omega) (by decide) (by decide)
theorem d64 {X : Nat} (hX : X < 65537) : (1 : Int32) + (nI X / (64 : Int32) - nI X / (64 : Int32) / (5 : Int32) * (5 : Int32)) = nI (1 + X / 64 % 5) := by
  rw [show nI X / (64 : Int32) = nI (X / 64) from pk_div (by omega) (by decide) (by decide), show nI (X / 64) - nI (X / 64) / (5 : Int32) * (5 : Int32) = nI (X / 64 % 5) from pk_rem (d := 5) (by omega) (by decide) (by decide), show (1 : Int32) = nI 1 from rfl, nI_add]
/-- the present may change but for crowds, tastes and doors -/
theorem Dx_house {d : DS} {b b' : AS} {gn : Nat → Nat → Nat} {lo : Nat → Nat → Bool} {h' : HS} (hD : Dx d b gn lo) (hH : Hc h' b') (hT : a_T b' = a_T b) (hR : a_R b' = a_R b) (hin : ∀ r, r < 6 → a_in b' r = a_in b r) (hth : a_th b' = a_th b) (hlk : a_lk b' = a_lk b) (hwd : a_wd b' = a_wd b) (hj : ∀ r q, r < 6 → q < 6 → jam b' r q = jam b r q) : Dx (D_set_house d h') b' gn lo := by
  obtain ⟨h1, h2, h3, h4, h5⟩ := hD
  refine ⟨hH, fun r hr => (h2 r hr).trans (by rw [hin r hr]), fun g r hg hi hr => ?_, fun r q hr hq => ?_, h5⟩
  · have hi' : a_is b g = true := by unfold a_is at hi ⊢; rw [← hT]; exact hi
    rw [hR] at hr
    have e : lkf b' g = lkf b g := by unfold lkf; rw [hlk]
    rw [e, pt_th hth]; exact h3 g r hg hi' hr
  · refine (h4 r q hr hq).trans ?_
    unfold wdv; rw [hwd, hj r q hr hq]
theorem jam_tkk {b : AS} {g q l : Nat} (bg : a_bs b g ≠ 3) (bq : a_bs b q ≠ 3) (r t : Nat) : jam (tkk b g q l) r t = jam b r t := cnt_congr (fun j _ => by
  unfold stn
  simp only [tkk_bs, tkk_mt, tkk_pl]
  by_cases c1 : j = q
  · have e : (a_bs b j == 3) = false := by rw [c1]; simp [bq]
    rw [if_pos c1, e]; simp
  · by_cases c2 : j = g
    · have e : (a_bs b j == 3) = false := by rw [c2]; simp [bg]
      rw [if_neg c1, if_pos c2, e]; simp
    · rw [if_neg c1, if_neg c2, if_neg c1, if_neg c2])
theorem cmeet_spec {d : DS} {b : AS} {gn : Nat → Nat → Nat} (hI : Inv b) (hD : Dx d b gn lo0) (yr : US) {X n : Nat} (hX : X < 65537) (ht : U_talks yr = nI n) : ∃ yr' h', f_X7_meet yr (D_house d) (nI X) = some (yr', h') ∧ U_went yr' = U_went yr ∧ U_talks yr' = nI (n + meetN b X) ∧ Dx (D_set_house d h') (meetA b X) gn lo0 := by
  have l1 : X % 8 < 8 := Nat.mod_lt _ (by decide)
  have l2 : X / 8 % 8 < 8 := Nat.mod_lt _ (by decide)
  have hw := wnt_le b (X % 8) (X / 8 % 8)
  unfold f_X7_meet meetN meetA
  rw [m8 hX, d8 hX, d64 hX]
  by_cases c1 : X % 8 = X / 8 % 8
  · rw [if_pos (by rw [c1]), if_neg (fun h => h.1 c1), if_neg (fun h => h.1 c1)]
    exact ⟨yr, D_house d, rfl, rfl, ht, hD⟩
  · rw [if_neg (fun h => c1 ((nI_eq (by omega) (by omega)).mp h)), cwnt_spec hI hD.1 l1 l2, Option.bind_some]
    by_cases c2 : wnt b (X % 8) (X / 8 % 8) = 0
    · obtain ⟨w1, w2, w3, w4, -⟩ := wnt_0 c2
      obtain ⟨h', t1, t2⟩ := ctalk_spec (l := 1 + X / 64 % 5) hD.1 l1 l2
      rw [if_pos (show nI (wnt b (X % 8) (X / 8 % 8)) = 0 by rw [c2]; rfl), t1, Option.bind_some, if_pos ⟨c1, c2⟩, if_pos ⟨c1, c2⟩]
      refine ⟨_, h', rfl, rfl, ?_, Dx_house hD t2 rfl rfl (fun _ _ => rfl) rfl rfl rfl (fun r q _ _ => jam_tkk (by omega) (by omega) r q)⟩
      show U_talks yr + 1 = _
      rw [ht, nI_1]
    · rw [if_neg (show ¬ nI (wnt b (X % 8) (X / 8 % 8)) = 0 from fun h => c2 ((nI_eq (by omega) (b := 0) (by decide)).mp h)), if_neg (fun h => c2 h.2), if_neg (fun h => c2 h.2)]
      exact ⟨yr, D_house d, rfl, rfl, ht, hD⟩
theorem cyear_spec {d : DS} {a : AS} {gn : Nat → Nat → Nat} (hI : Inv a) (hD : Dx d a gn lo0) (yr : US) (u0 : U_went yr = 0) (u1 : U_talks yr = 0) {X m : Nat} (hX : X < 65537) (hm : m < 1000) : ∃ yr' d' gn', it X7_pass_B16 (fun _ _ _ _ _ => none) FU yr d (nI m) (nI X) 0 = some (yr', d') ∧ U_went yr' = nI (yA (a, 0, 0, X) m).2.1 ∧ U_talks yr' = nI (yA (a, 0, 0, X) m).2.2.1 ∧ Dx d' (yA (a, 0, 0, X) m).1 gn' lo0 := by
  obtain ⟨N, hN, hFU⟩ := FU_ex
  rw [hFU]
  have ok := yA_ok (s := (a, 0, 0, X)) hI hX rfl rfl
  refine it_rule (bot := fun _ _ _ _ _ => none) m (fun i (s : US × DS) => U_went s.1 = nI (yA (a, 0, 0, X) i).2.1 ∧ U_talks s.1 = nI (yA (a, 0, 0, X) i).2.2.1 ∧ ∃ gn, Dx s.2 (yA (a, 0, 0, X) i).1 gn lo0) (fun k i s => ∃ yr' d' gn', k s.1 s.2 (nI m) (nI (yA (a, 0, 0, X) i).2.2.2) (nI i) = some (yr', d') ∧ U_went yr' = nI (yA (a, 0, 0, X) m).2.1 ∧ U_talks yr' = nI (yA (a, 0, 0, X) m).2.2.1 ∧ Dx d' (yA (a, 0, 0, X) m).1 gn' lo0) ?_ ?_ N 0 (yr, d) (by omega) (by omega) ⟨u0, u1, gn, hD⟩
  · rintro k ⟨yr, d⟩ ⟨h1, h2, gn, h3⟩
    exact ⟨yr, d, gn, by unfold X7_pass_B16; rw [if_pos (Int32.le_refl _)], h1, h2, h3⟩
  · rintro k i ⟨yr, d⟩ hi ⟨h1, h2, gn, h3⟩ hk
    obtain ⟨i1, i2, i3, i4⟩ := ok i
    rw [yA_s] at hk
    generalize yA (a, 0, 0, X) i = s at *
    obtain ⟨b, n1, n2, Y⟩ := s
    have hX' : yX Y < 65537 := Nat.mod_lt _ (by decide)
    obtain ⟨yr1, h', e1, e2, e3, e4⟩ := cmeet_spec i1 h3 yr hX' h2
    obtain ⟨d1, gn1, m1, m2⟩ := minute_spec (Inv_meet i1 (yX Y)) (Lo0 _) e4
    obtain ⟨yr', d', gn', k1, k2⟩ := hk (U_set_went yr1 (U_went yr1 + nI (wentA lo0 (meetA b (yX Y)))), d1) ⟨by
      show U_went yr1 + nI (wentA lo0 (meetA b (yX Y))) = nI (n1 + _)
      rw [e2, show U_went yr = nI n1 from h1, nI_add], e3, gn1, m2⟩
    refine ⟨yr', d', gn', ?_, k2⟩
    show X7_pass_B16 k yr d (nI m) (nI Y) (nI i) = _
    unfold X7_pass_B16
    rw [if_neg (nI_ge hi (by omega)), yX_i i4, e1, Option.bind_some]
    show (f_X0_minute (D_set_house d h')).bind _ = _
    rw [m1, Option.bind_some, nI_1]
    exact k1
theorem ryear_spec {w : MS} {a : AS} (hI : Inv a) (hM : Mx0 w a lo0) (x3 : Int32) {X m : Nat} (hX : X < 65537) (hm : m < 1000) : ∃ w', it X9_year_B49 (fun _ _ _ _ _ _ _ => none) FU w (nI m) x3 (nI X) 0 0 0 = some (if x3 = 0 then nI (yA (a, 0, 0, X) m).2.1 else if x3 = 1 then nI (yA (a, 0, 0, X) m).2.2.1 else nI (a_in (yA (a, 0, 0, X) m).1 0), w') ∧ mkeep w' = mkeep w := by
  obtain ⟨N, hN, hFU⟩ := FU_ex
  rw [hFU]
  have ok := yA_ok (s := (a, 0, 0, X)) hI hX rfl rfl
  refine it_rule (bot := fun _ _ _ _ _ _ _ => none) m (fun i (s : MS) => mkeep s = mkeep w ∧ Mx0 s (yA (a, 0, 0, X) i).1 lo0) (fun k i s => ∃ w', k s (nI m) x3 (nI (yA (a, 0, 0, X) i).2.2.2) (nI (yA (a, 0, 0, X) i).2.1) (nI (yA (a, 0, 0, X) i).2.2.1) (nI i) = some (if x3 = 0 then nI (yA (a, 0, 0, X) m).2.1 else if x3 = 1 then nI (yA (a, 0, 0, X) m).2.2.1 else nI (a_in (yA (a, 0, 0, X) m).1 0), w') ∧ mkeep w' = mkeep w) ?_ ?_ N 0 w (by omega) (by omega) ⟨rfl, hM⟩
  · intro k s ⟨h1, h2⟩
    refine ⟨s, ?_, h1⟩
    unfold X9_year_B49
    have hc : f_X9_countIn s 0 (-6) = some (nI (a_in (yA (a, 0, 0, X) m).1 0)) := cin_all (ok m).1 h2.1 (r := 0) (by decide)
    rw [if_pos (Int32.le_refl _), hc, Option.bind_some]
    by_cases c1 : x3 = 0
    · rw [if_pos c1, if_pos c1]
    · rw [if_neg c1, if_neg c1]
      by_cases c2 : x3 = 1
      · rw [if_pos c2, if_pos c2]
      · rw [if_neg c2, if_neg c2]
  · intro k i s hi ⟨h1, h2⟩ hk
    obtain ⟨i1, i2, i3, i4⟩ := ok i
    rw [yA_s] at hk
    generalize yA (a, 0, 0, X) i = t at *
    obtain ⟨b, n1, n2, Y⟩ := t
    have hX' : yX Y < 65537 := Nat.mod_lt _ (by decide)
    have h2 : Mx0 s b lo0 := h2
    have i1 : Inv b := i1
    have l1 : yX Y % 8 < 8 := Nat.mod_lt _ (by decide)
    have l2 : yX Y / 8 % 8 < 8 := Nat.mod_lt _ (by decide)
    have hw := wnt_le b (yX Y % 8) (yX Y / 8 % 8)
    have fin : ∀ s' : MS, mkeep s' = mkeep s → Mx0 s' (meetA b (yX Y)) lo0 → ∀ n : Nat, n = n2 + meetN b (yX Y) → ∃ w', X9_year_J123 k s' (nI m) x3 (nI (yX Y)) (nI n1) (nI n) (nI i) = some (if x3 = 0 then nI (yA (a, 0, 0, X) m).2.1 else if x3 = 1 then nI (yA (a, 0, 0, X) m).2.2.1 else nI (a_in (yA (a, 0, 0, X) m).1 0), w') ∧ mkeep w' = mkeep w := by
      intro s' e1 e2 n hn
      obtain ⟨s2, gn2, p1, p2, p3⟩ := pass_spec (Inv_meet i1 (yX Y)) (Lo0 _) e2
      obtain ⟨w', k1, k2⟩ := hk s2 ⟨(p2.trans e1).trans h1, p3.to0⟩
      refine ⟨w', ?_, k2⟩
      unfold X9_year_J123
      rw [p1, Option.bind_some, hn]
      show k s2 (nI m) x3 (nI (yX Y)) (nI n1 + nI (wentA lo0 (meetA b (yX Y)))) (nI (n2 + meetN b (yX Y))) (nI i + 1) = _
      rw [nI_add, nI_1]
      exact k1
    show ∃ w', X9_year_B49 k s (nI m) x3 (nI Y) (nI n1) (nI n2) (nI i) = _ ∧ _
    unfold X9_year_B49
    rw [if_neg (nI_ge hi (by omega)), yX_i i4, m8 hX', d8 hX', d64 hX']
    by_cases c1 : yX Y % 8 = yX Y / 8 % 8
    · rw [if_pos (by rw [c1])]
      exact fin s rfl (by unfold meetA; rw [if_neg (fun h => h.1 c1)]; exact h2) n2 (by unfold meetN; rw [if_neg (fun h => h.1 c1)]; rfl)
    · rw [if_neg (fun h => c1 ((nI_eq (by omega) (by omega)).mp h)), rwnt_spec i1 h2.1 l1 l2, Option.bind_some]
      by_cases c2 : wnt b (yX Y % 8) (yX Y / 8 % 8) = 0
      · obtain ⟨s', t1, t2, t3, -⟩ := rtalk2_spec (l := 1 + yX Y / 64 % 5) h2 l1 l2 c1
        rw [if_pos (show nI (wnt b (yX Y % 8) (yX Y / 8 % 8)) = 0 by rw [c2]; rfl), t1, Option.bind_some, nI_1]
        exact fin s' t2 (by unfold meetA; rw [if_pos ⟨c1, c2⟩]; exact t3) (n2 + 1) (by unfold meetN; rw [if_pos ⟨c1, c2⟩])
      · rw [if_neg (show ¬ nI (wnt b (yX Y % 8) (yX Y / 8 % 8)) = 0 from fun h => c2 ((nI_eq (by omega) (b := 0) (by decide)).mp h))]
        exact fin s rfl (by unfold meetA; rw [if_neg (fun h => c2 h.2)]; exact h2) n2 (by unfold meetN; rw [if_neg (fun h => c2 h.2)]; rfl)
theorem sim_year : Sim_year Rel := by
  intro S z x1 x2 x3 h
  obtain ⟨⟨a, hI, hH, hM⟩, h3⟩ := id h
  have hH : Hc (K_now S) a := hH
  have hM : Mc (mcore z) a := hM
  have out : ∀ v : Int32, f_X8_year (K_now S) (K_drift S) (K_draws S) x1 x2 x3 = some (v, K_drift S, K_draws S) → f_X9_year z x1 x2 x3 = some (v, z) → ∃ q w, f_X8_year (K_now S) (K_drift S) (K_draws S) x1 x2 x3 = some q ∧ f_X9_year z x1 x2 x3 = some w ∧ q.1 = w.1 ∧ Rel (K_set_draws (K_set_drift S q.2.1) q.2.2) w.2 := fun v e1 e2 => ⟨_, _, e1, e2, rfl, h.to rfl rfl⟩
  have n10 : ¬ (1 : Int32) = 0 := by decide
  by_cases b1 : x1 < 0
  · exact out (-2) (by unfold f_X8_year; rw [if_pos b1]) (by unfold f_X9_year; rw [in_0 (Or.inl b1), Option.bind_some, if_pos rfl])
  · by_cases b2 : (9999 : Int32) < x1
    · exact out (-2) (by unfold f_X8_year; rw [if_neg b1, if_pos b2]) (by unfold f_X9_year; rw [in_0 (Or.inr b2), Option.bind_some, if_pos rfl])
    · by_cases b3 : x2 < 1
      · exact out (-2) (by unfold f_X8_year; rw [if_neg b1, if_neg b2, if_pos b3]) (by unfold f_X9_year; rw [in_1 b1 b2, Option.bind_some, if_neg n10, in_0 (Or.inl b3), Option.bind_some, if_pos rfl])
      · by_cases b4 : (99 : Int32) < x2
        · exact out (-2) (by unfold f_X8_year; rw [if_neg b1, if_neg b2, if_neg b3, if_pos b4]) (by unfold f_X9_year; rw [in_1 b1 b2, Option.bind_some, if_neg n10, in_0 (Or.inr b4), Option.bind_some, if_pos rfl])
        · by_cases b5 : x3 < 0
          · exact out (-2) (by unfold f_X8_year; rw [if_neg b1, if_neg b2, if_neg b3, if_neg b4, if_pos b5]) (by unfold f_X9_year; rw [in_1 b1 b2, Option.bind_some, if_neg n10, in_1 b3 b4, Option.bind_some, if_neg n10, in_0 (Or.inl b5), Option.bind_some, if_pos rfl])
          · by_cases b6 : x3 ≤ 2
            · obtain ⟨X, hX', rfl⟩ := nI_of b1
              have hX : X ≤ 9999 := (nI_leI hX' (b := 9999) (by decide)).mp (Int32.not_lt.mp b2)
              obtain ⟨m, hm', rfl⟩ := nI_of (x := x2) (fun q => b3 (Int32.lt_of_lt_of_le q (by decide)))
              have hm : m ≤ 99 := (nI_leI hm' (b := 99) (by decide)).mp (Int32.not_lt.mp b4)
              obtain ⟨w, e1, e2, e3⟩ := asNow_Mx hM
              obtain ⟨d', g1, g2⟩ := begin_spec (d := K_drift S) hI hH
              obtain ⟨yr, d2, gn, y1, y2, y3, y4⟩ := cyear_spec hI g2 (U_set_talks (U_set_went (K_draws S) (0 : Int32)) (0 : Int32)) rfl rfl (X := X) (m := m) (by omega) (by omega)
              obtain ⟨w', r1, r2⟩ := ryear_spec hI e3 x3 (X := X) (m := m) (by omega) (by omega)
              have hIy := (yA_ok (s := (a, 0, 0, X)) hI (show X < 65537 by omega) rfl rfl m).1
              refine ⟨(if x3 = 0 then nI (yA (a, 0, 0, X) m).2.1 else if x3 = 1 then nI (yA (a, 0, 0, X) m).2.2.1 else nI (a_in (yA (a, 0, 0, X) m).1 0), d2, yr), (_, w'), ?_, ?_, rfl, h.to rfl (r2.trans e2)⟩
              · unfold f_X8_year f_X7_pass
                rw [if_neg b1, if_neg b2, if_neg b3, if_neg b4, if_neg b5, if_pos b6, g1, Option.bind_some, y1, Option.bind_some]
                show (if x3 = 0 then some (U_went yr, d2, yr) else if x3 = 1 then some (U_talks yr, d2, yr) else (f_X1_count (D_house d2) 0).bind fun q93 => some (q93, d2, yr)) = _
                have hc : f_X1_count (D_house d2) 0 = some (nI (a_in (yA (a, 0, 0, X) m).1 0)) := count_spec hIy y4.1 (r := 0) (by decide)
                rw [y2, y3, hc, Option.bind_some]
                by_cases c1 : x3 = 0
                · rw [if_pos c1, if_pos c1]
                · rw [if_neg c1, if_neg c1]
                  by_cases c2 : x3 = 1
                  · rw [if_pos c2, if_pos c2]
                  · rw [if_neg c2, if_neg c2]
              · unfold f_X9_year
                rw [in_1 b1 b2, Option.bind_some, if_neg n10, in_1 b3 b4, Option.bind_some, if_neg n10, in_1 b5 (Int32.not_lt.mpr b6), Option.bind_some, if_neg n10, e1, Option.bind_some]
                exact r1
            · exact out (-2) (by unfold f_X8_year; rw [if_neg b1, if_neg b2, if_neg b3, if_neg b4, if_neg b5, if_neg b6]) (by unfold f_X9_year; rw [in_1 b1 b2, Option.bind_some, if_neg n10, in_1 b3 b4, Option.bind_some, if_neg n10, in_0 (Or.inr (Int32.not_le.mp b6)), Option.bind_some, if_pos rfl])
end
/-! 86.carry -/
section
/-! carrying -/
def crT (a : AS) (r q s : Nat) (r' s' : Nat) : Nat := if r' = q ∧ s' = s then a_th a q s + 1 else if r' = r ∧ s' = s then a_th a r s - 1 else a_th a r' s'
def crA (a : AS) (r q s : Nat) : AS := (a_R a, a_T a, a_k a, crT a r q s, a_sz a, a_ch a, a_wd a, a_lk a, a_pl a, a_bs a, a_mt a, a_lf a, a_sg a, a_sr a)
/-- why a thing can't be carried -/
def wnc (a : AS) (r q s : Nat) : Nat := if r ≠ q ∧ 1 ≤ a_th a r s ∧ a_th a q s < 9 then 0 else 6
theorem wnc_0 {a : AS} {r q s : Nat} (h : wnc a r q s = 0) : r ≠ q ∧ 1 ≤ a_th a r s ∧ a_th a q s < 9 := by
  unfold wnc at h
  by_cases c : r ≠ q ∧ 1 ≤ a_th a r s ∧ a_th a q s < 9
  · exact c
  · rw [if_neg c] at h; cases h
theorem wnc_or (a : AS) (r q s : Nat) : wnc a r q s = 0 ∨ wnc a r q s = 6 := by unfold wnc; split <;> simp
theorem Inv_cr {a : AS} (hI : Inv a) {r q s : Nat} (hr : r < 6) (hq : q < 6) (hs : s < 4) (h : wnc a r q s = 0) : Inv (crA a r q s) := by
  obtain ⟨i1, i2, i3, i4, i5, i6, i7, i8, i9, i10, i11⟩ := id hI
  obtain ⟨c1, c2, c3⟩ := wnc_0 h
  refine ⟨i1, ?_, i3, i4, i5, i6, i7, i8, i9, i10, i11⟩
  intro r' hr'
  refine ⟨fun s' hs' => ?_, (i2 r' hr').2⟩
  show crT a r q s r' s' ≤ 9
  unfold crT
  have h1 := (i2 r' hr').1 s' hs'
  have h2 := (i2 r hr).1 s hs
  split
  · omega
  · split <;> omega
theorem cwnc_spec {h : HS} {a : AS} (hI : Inv a) (hH : Hc h a) {r q s : Nat} (hr : r < 6) (hq : q < 6) (hs : s < 4) : f_X1_whyNotCarry h (nI r) (nI q) (nI s) = some (nI (wnc a r q s)) := by
  have e1 := (hH.2.2.2.1 r hr).1 s hs
  have e2 := (hH.2.2.2.1 q hq).1 s hs
  have l1 := (hI.2.1 r hr).1 s hs
  have l2 := (hI.2.1 q hq).1 s hs
  unfold f_X1_whyNotCarry X1_whyNotCarry_J19 X1_whyNotCarry_J42 wnc
  rw [ix6, ix6, chk_nI (by omega) (by decide), chk_nI (by omega) (by decide), chk_nI (by omega) (by decide), nI_clamp (by omega), nI_clamp (by omega), e1, e2]
  simp (disch := omega) only [s_lit, p_le, p_eq, if_true]
  repeat' split
  all_goals first
    | rfl
    | (exfalso; omega)
theorem rwnc_spec {w : MS} {a : AS} (hI : Inv a) (hM : Mc (mnow w) a) {r q s : Nat} (hr : r < 6) (hq : q < 6) (hs : s < 4) : f_X9_whyNotCarry w (nI r) (nI q) (nI s) = some (nI (wnc a r q s)) := by
  have e1 := gt_th hM hr hs
  have e2 := gt_th hM hq hs
  have l1 := (hI.2.1 r hr).1 s hs
  have l2 := (hI.2.1 q hq).1 s hs
  unfold f_X9_whyNotCarry X9_whyNotCarry_J33 wnc
  rw [ix4', ix4', chk_nI (by omega) (by decide), chk_nI (by omega) (by decide), nI_clamp (by omega), nI_clamp (by omega), e1, e2]
  simp (disch := omega) only [s_lit, p_le, p_eq]
  repeat' split
  all_goals first
    | rfl
    | (exfalso; omega)
theorem ccarry_spec {h : HS} {a : AS} (hI : Inv a) (hH : Hc h a) {r q s : Nat} (hr : r < 6) (hq : q < 6) (hs : s < 4) (hw : wnc a r q s = 0) : ∃ h', f_X1_carry h (nI r) (nI q) (nI s) = some h' ∧ Hc h' (crA a r q s) := by
  obtain ⟨c1, c2, c3⟩ := wnc_0 hw
  obtain ⟨b1, b2, b3, b4, b5, b6, b7, b8⟩ := hH
  have e1 := (b4 r hr).1 s hs
  have e2 := (b4 q hq).1 s hs
  refine ⟨H_set_measure h (upd (upd (H_measure h) (r * 6 + s) (H_measure h (r * 6 + s) - 1)) (q * 6 + s) (upd (H_measure h) (r * 6 + s) (H_measure h (r * 6 + s) - 1) (q * 6 + s) + 1)), ?_, ?_⟩
  · unfold f_X1_carry
    rw [ix6, ix6, chk_nI (by omega) (by decide), chk_nI (by omega) (by decide), nI_clamp (by omega), nI_clamp (by omega), ltA_eq, chk_nI (by omega) (by decide), chk_nI (by omega) (by decide), ltA_eq]
  · have ee : ∀ k, upd (upd (H_measure h) (r * 6 + s) (H_measure h (r * 6 + s) - 1)) (q * 6 + s) (upd (H_measure h) (r * 6 + s) (H_measure h (r * 6 + s) - 1) (q * 6 + s) + 1) k = if k = q * 6 + s then nI (a_th a q s + 1) else if k = r * 6 + s then nI (a_th a r s - 1) else H_measure h k := by
      intro k
      rw [pk_un (show q * 6 + s ≠ r * 6 + s by omega), e1, e2]
      by_cases q1 : k = q * 6 + s
      · rw [q1, pk_us, if_pos rfl, nI_1]
      · rw [pk_un q1, if_neg q1]
        by_cases q2 : k = r * 6 + s
        · rw [q2, pk_us, if_pos rfl]; exact pk_sub (b := 1) c2
        · rw [pk_un q2, if_neg q2]
    refine ⟨b1, b2, b3, fun r' hr' => ⟨fun s' hs' => ?_, ?_, ?_⟩, b5, b6, b7, b8⟩
    · refine (ee _).trans ?_
      show _ = nI (crT a r q s r' s')
      unfold crT
      by_cases q1 : r' = q ∧ s' = s
      · rw [if_pos (by omega), if_pos q1]
      · rw [if_neg (by omega), if_neg q1]
        by_cases q2 : r' = r ∧ s' = s
        · rw [if_pos (by omega), if_pos q2]
        · rw [if_neg (by omega), if_neg q2]; exact (b4 r' hr').1 s' hs'
    · refine (ee _).trans ?_
      rw [if_neg (by omega), if_neg (by omega)]; exact (b4 r' hr').2.1
    · refine (ee _).trans ?_
      rw [if_neg (by omega), if_neg (by omega)]; exact (b4 r' hr').2.2
theorem rcarry_spec {w : MS} {a : AS} {lo : Nat → Nat → Bool} (hM : Mx0 w a lo) {r q s : Nat} (hr : r < 6) (hq : q < 6) (hs : s < 4) (hw : wnc a r q s = 0) : ∃ w', f_X9_carry w (nI r) (nI q) (nI s) = some w' ∧ mkeep w' = mkeep w ∧ Mx0 w' (crA a r q s) lo ∧ mrest w' = mrest w := by
  obtain ⟨c1, c2, c3⟩ := wnc_0 hw
  have e1 := gt_th hM.1 hr hs
  have e2 := gt_th hM.1 hq hs
  obtain ⟨y1, ey1⟩ : ∃ x, x = M_set_thingsNow w (upd (M_thingsNow w) (4 * r + s) (M_thingsNow w (4 * r + s) - 1)) := ⟨_, rfl⟩
  obtain ⟨a1, b1, d1⟩ := sx_thingsNow ey1
  obtain ⟨y2, ey2⟩ : ∃ x, x = M_set_thingsNow y1 (upd (M_thingsNow y1) (4 * q + s) (M_thingsNow y1 (4 * q + s) + 1)) := ⟨_, rfl⟩
  obtain ⟨a2, b2, d2⟩ := sx_thingsNow ey2
  have f1 : M_thingsNow y1 = upd (M_thingsNow w) (4 * r + s) (M_thingsNow w (4 * r + s) - 1) := congrArg (fun m => m.2.2.2.2.1) b1
  have f2 : M_thingsNow y2 = upd (M_thingsNow y1) (4 * q + s) (M_thingsNow y1 (4 * q + s) + 1) := congrArg (fun m => m.2.2.2.2.1) b2
  have g1 : M_at y2 = M_at w := (congrArg (fun m => m.1) b2).trans (congrArg (fun m => m.1) b1)
  have g2 : M_busyNow y2 = M_busyNow w := (congrArg (fun m => m.2.1) b2).trans (congrArg (fun m => m.2.1) b1)
  have g3 : M_withNow y2 = M_withNow w := (congrArg (fun m => m.2.2.1) b2).trans (congrArg (fun m => m.2.2.1) b1)
  have g4 : M_leftNow y2 = M_leftNow w := (congrArg (fun m => m.2.2.2.1) b2).trans (congrArg (fun m => m.2.2.2.1) b1)
  have g5 : M_loose y2 = M_loose w := (congrArg (fun m => m.2.2.2.2.2.1) b2).trans (congrArg (fun m => m.2.2.2.2.2.1) b1)
  refine ⟨y2, ?_, a2.trans a1, hM.now (Mc_now (a2.trans a1) hM.1 rfl rfl rfl rfl rfl rfl rfl rfl (fun r' s' hr' hs' => ?_) (fun _ _ _ _ _ => rfl) (fun j hj hi => by rw [g1, g2, g3, g4]; exact gt_now hM.1 hj hi)) g5, d2.trans d1⟩
  · unfold f_X9_carry
    rw [ix4', ix4', chk_nI (by omega) (by decide), chk_nI (by omega) (by decide), nI_clamp (by omega), nI_clamp (by omega), ltA_eq, ← ey1, chk_nI (by omega) (by decide), chk_nI (by omega) (by decide), ltA_eq, ← ey2]
  · rw [f2, f1, pk_un (show 4 * q + s ≠ 4 * r + s by omega), e1, e2]
    show _ = nI (crT a r q s r' s')
    unfold crT
    by_cases q1 : r' = q ∧ s' = s
    · rw [if_pos q1, q1.1, q1.2, pk_us, nI_1]
    · rw [pk_un (by omega), if_neg q1]
      by_cases q2 : r' = r ∧ s' = s
      · rw [if_pos q2, q2.1, q2.2, pk_us]; exact pk_sub (b := 1) c2
      · rw [pk_un (by omega), if_neg q2]; exact gt_th hM.1 hr' hs'
/-- which ways to carry -/
def cnB (a : AS) (i : Nat) : Bool := decide (i / 24 < a_R a) && decide (i / 4 % 6 < a_R a) && (wnc a (i / 24) (i / 4 % 6) (i % 4) == 0)
/-- the fullest room behind m minutes, once the thing is carried -/
def fcA (a : AS) (m i : Nat) : Nat := mxA (minN lo0 (crA a (i / 24) (i / 4 % 6) (i % 4)) m) (a_R a)
def cdA (a : AS) (m : Nat) : Nat → Nat × Nat
  | 0 => (mxA (minN lo0 a m) (a_R a), 0)
  | i + 1 => if cnB a i = true ∧ fcA a m i < (cdA a m i).1 then (fcA a m i, 100 * (i / 24 + 1) + 10 * (i / 4 % 6) + i % 4) else cdA a m i
theorem cdA_s (a : AS) (m i : Nat) : cdA a m (i + 1) = if cnB a i = true ∧ fcA a m i < (cdA a m i).1 then (fcA a m i, 100 * (i / 24 + 1) + 10 * (i / 4 % 6) + i % 4) else cdA a m i := rfl
theorem cdA_le (a : AS) (m : Nat) : ∀ i, (cdA a m i).1 ≤ 8
  | 0 => mxA_le _ _
  | i + 1 => by
    rw [cdA_s]
    split
    · exact mxA_le _ _
    · exact cdA_le a m i
theorem cbehind_spec {h : HS} {a : AS} (hI : Inv a) (hH : Hc h a) (d : DS) {m : Nat} (hm : m < 1000) : ∃ d', f_X8_fullestBehind h d (nI m) = some (nI (mxA (minN lo0 a m) (a_R a)), d') := by
  obtain ⟨d1, b1, b2⟩ := begin_spec (d := d) hI hH
  obtain ⟨d2, gn, c1, c2⟩ := run_spec hI (Lo0 a) b2 hm
  have ef := cfull_spec (Inv_minN hI lo0 m) c2
  rw [(minN_keep hI lo0 m).1] at ef
  refine ⟨d2, ?_⟩
  unfold f_X8_fullestBehind
  rw [b1, Option.bind_some, c1, Option.bind_some, ef, Option.bind_some]
theorem ccarrying_spec {h : HS} {a : AS} (hI : Inv a) (hH : Hc h a) (d : DS) {m r q s : Nat} (hm : m < 1000) (hr : r < 6) (hq : q < 6) (hs : s < 4) (hw : wnc a r q s = 0) : ∃ d', f_X8_fullestCarrying h d (nI r) (nI q) (nI s) (nI m) = some (nI (mxA (minN lo0 (crA a r q s) m) (a_R a)), d') := by
  obtain ⟨h1, e1, e2⟩ := copy_Hc (h := D_house d) hI.1.2.2.2 hH
  obtain ⟨h2, e3, e4⟩ := ccarry_spec hI e2 hr hq hs hw
  have hIc := Inv_cr hI hr hq hs hw
  obtain ⟨d1, b1, b2⟩ := ready_spec (d := D_set_house d h2) hIc e4
  obtain ⟨d2, gn, c1, c2⟩ := run_spec hIc (Lo0 _) b2 hm
  have ef := cfull_spec (Inv_minN hIc lo0 m) c2
  rw [(minN_keep hIc lo0 m).1] at ef
  refine ⟨d2, ?_⟩
  unfold f_X8_fullestCarrying
  rw [e1, Option.bind_some, e3, Option.bind_some, b1, Option.bind_some, c1, Option.bind_some, ef, Option.bind_some]
  rfl
theorem isRoom_at {h : HS} {a : AS} (hI : Inv a) (hH : Hc h a) {r : Nat} (hr : r < 1000) : f_X1_isRoom h (nI r) = some (if r < a_R a then 1 else 0) := by
  have hR6 := hI.1.2.1
  unfold f_X1_isRoom
  rw [if_neg (nI_pos (by omega)), hH.1]
  by_cases c : r < a_R a
  · rw [if_neg (nI_ge c (by omega)), if_pos c]
  · rw [if_pos (nI_le (by omega) (by omega)), if_neg c]
theorem dv24 {i : Nat} (hi : i < 144) : nI i / (24 : Int32) = nI (i / 24) := pk_div (by omega) (by decide) (by decide)
theorem dv46 {i : Nat} (hi : i < 144) : (nI i / (4 : Int32)) - (nI i / (4 : Int32)) / (6 : Int32) * (6 : Int32) = nI (i / 4 % 6) := by
  rw [show nI i / (4 : Int32) = nI (i / 4) from pk_div (by omega) (by decide) (by decide)]
  exact pk_rem (d := 6) (by omega) (by decide) (by decide)
theorem md4 {i : Nat} (hi : i < 144) : nI i - nI i / (4 : Int32) * (4 : Int32) = nI (i % 4) := pk_rem (d := 4) (by omega) (by decide) (by decide)
theorem code_i (r q s : Nat) : ((100 : Int32) * (nI r + 1)) + ((10 : Int32) * nI q) + nI s = nI (100 * (r + 1) + 10 * q + s) := by
  rw [nI_1, show (100 : Int32) = nI 100 from rfl, show (10 : Int32) = nI 10 from rfl, pk_mul, pk_mul, nI_add, nI_add]
end
/-! 87.carried -/
section
theorem ccarried_spec {h : HS} {a : AS} (hI : Inv a) (hH : Hc h a) (d : DS) {m : Nat} (hm : m < 1000) (x2 : Int32) : ∃ d', it X8_carried_B34 (fun _ _ _ _ _ _ _ => none) FU h d (nI m) x2 (nI (cdA a m 0).1) 0 0 = some (if x2 = 0 then nI (cdA a m 144).1 else nI (cdA a m 144).2, d') := by
  obtain ⟨N, hN, hFU⟩ := FU_ex
  have hR6 := hI.1.2.1
  rw [hFU]
  refine it_rule (bot := fun _ _ _ _ _ _ _ => none) 144 (fun _ (_ : DS) => True) (fun k i s => ∃ d', k h s (nI m) x2 (nI (cdA a m i).1) (nI (cdA a m i).2) (nI i) = some (if x2 = 0 then nI (cdA a m 144).1 else nI (cdA a m 144).2, d')) ?_ ?_ N 0 d (by omega) (by omega) trivial
  · intro k s _
    refine ⟨s, ?_⟩
    unfold X8_carried_B34
    rw [if_pos (by decide)]
    by_cases c : x2 = 0
    · rw [if_pos c, if_pos c]
    · rw [if_neg c, if_neg c]
  · intro k i s hi _ hk
    have l1 : i / 24 < 6 := by omega
    have l2 : i / 4 % 6 < 6 := Nat.mod_lt _ (by decide)
    have l3 : i % 4 < 4 := Nat.mod_lt _ (by decide)
    have h8 := cdA_le a m i
    rw [cdA_s] at hk
    have skip : cnB a i = false → ∃ d', X8_carried_J108 k h s (nI m) x2 (nI (cdA a m i).1) (nI (cdA a m i).2) (nI i) (nI (i / 24)) (nI (i / 4 % 6)) (nI (i % 4)) = some (if x2 = 0 then nI (cdA a m 144).1 else nI (cdA a m 144).2, d') := by
      intro hc
      rw [if_neg (fun h => by rw [hc] at h; cases h.1)] at hk
      unfold X8_carried_J108 X8_carried_J109 X8_carried_J131 X8_carried_J160
      rw [if_pos rfl, if_pos (Int32.le_refl _), nI_1]
      exact hk s trivial
    unfold X8_carried_B34
    rw [if_neg (show ¬ (144 : Int32) ≤ nI i from nlit (by decide) hi), dv24 hi, dv46 hi, md4 hi, isRoom_at hI hH (by omega), Option.bind_some, isRoom_at hI hH (by omega), Option.bind_some, cwnc_spec hI hH l1 l2 l3, Option.bind_some]
    by_cases c1 : i / 24 < a_R a
    · rw [if_pos c1, if_neg (by decide)]
      by_cases c2 : i / 4 % 6 < a_R a
      · rw [if_pos c2, if_neg (by decide)]
        rcases wnc_or a (i / 24) (i / 4 % 6) (i % 4) with hw | hw
        · have hc : cnB a i = true := by unfold cnB; simp [c1, c2, hw]
          obtain ⟨d1, f1⟩ := ccarrying_spec hI hH s hm l1 l2 l3 hw
          have g8 : fcA a m i ≤ 8 := mxA_le _ _
          have f1 : f_X8_fullestCarrying h s (nI (i / 24)) (nI (i / 4 % 6)) (nI (i % 4)) (nI m) = some (nI (fcA a m i), d1) := f1
          rw [hw, if_pos (by decide)]
          unfold X8_carried_J109 X8_carried_J131 X8_carried_J160
          rw [if_neg (show ¬ (1 : Int32) = 0 by decide), f1, Option.bind_some]
          show ∃ d', (if nI (cdA a m i).1 ≤ nI (fcA a m i) then k h d1 (nI m) x2 (nI (cdA a m i).1) (nI (cdA a m i).2) (nI i + 1) else k h d1 (nI m) x2 (nI (fcA a m i)) (((100 : Int32) * (nI (i / 24) + 1)) + ((10 : Int32) * nI (i / 4 % 6)) + nI (i % 4)) (nI i + 1)) = _
          rw [code_i, nI_1]
          by_cases c3 : fcA a m i < (cdA a m i).1
          · rw [if_pos ⟨hc, c3⟩] at hk
            rw [if_neg (nI_ge c3 (by omega))]
            exact hk d1 trivial
          · rw [if_neg (fun h => c3 h.2)] at hk
            rw [if_pos (nI_le (by omega) (by omega))]
            exact hk d1 trivial
        · rw [hw, if_neg (by decide)]
          exact skip (by unfold cnB; simp [hw])
      · rw [if_neg c2, if_pos rfl]
        exact skip (by unfold cnB; simp [c2])
    · rw [if_neg c1, if_pos rfl]
      exact skip (by unfold cnB; simp [c1])
theorem rcarried_spec {z : MS} {a : AS} (hI : Inv a) {w : MS} (hk0 : mkeep w = mkeep z) (hM : Mc (mcore z) a) {m : Nat} (hm : m < 1000) (x2 : Int32) : ∃ w', it X9_carried_B42 (fun _ _ _ _ _ _ => none) FU w (nI m) x2 (nI (cdA a m 0).1) 0 0 = some (if x2 = 0 then nI (cdA a m 144).1 else nI (cdA a m 144).2, w') ∧ mkeep w' = mkeep z := by
  obtain ⟨N, hN, hFU⟩ := FU_ex
  have hR6 := hI.1.2.1
  rw [hFU]
  refine it_rule (bot := fun _ _ _ _ _ _ => none) 144 (fun _ (s : MS) => mkeep s = mkeep z) (fun k i s => ∃ w', k s (nI m) x2 (nI (cdA a m i).1) (nI (cdA a m i).2) (nI i) = some (if x2 = 0 then nI (cdA a m 144).1 else nI (cdA a m 144).2, w') ∧ mkeep w' = mkeep z) ?_ ?_ N 0 w (by omega) (by omega) hk0
  · intro k s hs
    refine ⟨s, ?_, hs⟩
    unfold X9_carried_B42
    rw [if_pos (by decide)]
    by_cases c : x2 = 0
    · rw [if_pos c, if_pos c]
    · rw [if_neg c, if_neg c]
  · intro k i s hi hs hk
    have l1 : i / 24 < 6 := by omega
    have l2 : i / 4 % 6 < 6 := Nat.mod_lt _ (by decide)
    have l3 : i % 4 < 4 := Nat.mod_lt _ (by decide)
    have h8 := cdA_le a m i
    have hMs : Mc (mcore s) a := by rw [show mcore s = mcore z from congrArg (fun m => m.1) hs]; exact hM
    obtain ⟨s1, e1, e2, e3⟩ := asNow_Mx hMs
    have er : M_rooms s1 = nI (a_R a) := e3.1.1
    rw [cdA_s] at hk
    have skip : cnB a i = false → ∃ w', k s1 (nI m) x2 (nI (cdA a m i).1) (nI (cdA a m i).2) (nI (i + 1)) = some (if x2 = 0 then nI (cdA a m 144).1 else nI (cdA a m 144).2, w') ∧ mkeep w' = mkeep z := by
      intro hc
      rw [if_neg (fun h => by rw [hc] at h; cases h.1)] at hk
      exact hk s1 (e2.trans hs)
    unfold X9_carried_B42 X9_carried_J170
    rw [if_neg (show ¬ (144 : Int32) ≤ nI i from nlit (by decide) hi), e1, Option.bind_some, er, dv24 hi, dv46 hi, md4 hi, rwnc_spec hI e3.1 l1 l2 l3, Option.bind_some, nI_1]
    by_cases c1 : i / 24 < a_R a
    · rw [if_neg (nI_ge c1 (by omega))]
      by_cases c2 : i / 4 % 6 < a_R a
      · rw [if_neg (nI_ge c2 (by omega))]
        rcases wnc_or a (i / 24) (i / 4 % 6) (i % 4) with hw | hw
        · have hc : cnB a i = true := by unfold cnB; simp [c1, c2, hw]
          obtain ⟨s2, f1, f2, f3, -⟩ := rcarry_spec e3 l1 l2 l3 hw
          have hIc := Inv_cr hI l1 l2 l3 hw
          obtain ⟨s3, g1, g2, g3⟩ := goMin_spec hIc (Lo0 _) f3 hm
          have ef := rfull_spec (Inv_minN hIc lo0 m) g3.1
          rw [(minN_keep hIc lo0 m).1] at ef
          have ef : f_X9_fullest s3 = some (nI (fcA a m i)) := ef
          have g8 : fcA a m i ≤ 8 := mxA_le _ _
          rw [hw, if_pos (by decide), f1, Option.bind_some, g1, Option.bind_some, ef, Option.bind_some]
          unfold X9_carried_J155 X9_carried_J169 X9_carried_J170
          rw [code_i, nI_1]
          by_cases c3 : fcA a m i < (cdA a m i).1
          · rw [if_pos ⟨hc, c3⟩] at hk
            rw [if_neg (nI_ge c3 (by omega)), if_neg (nI_ge c3 (by omega))]
            exact hk s3 (((g2.trans f2).trans e2).trans hs)
          · rw [if_neg (fun h => c3 h.2)] at hk
            rw [if_pos (nI_le (by omega) (by omega)), if_pos (nI_le (by omega) (by omega))]
            exact hk s3 (((g2.trans f2).trans e2).trans hs)
        · rw [hw, if_neg (by decide)]
          exact skip (by unfold cnB; simp [hw])
      · rw [if_pos (nI_le (by omega) (by omega))]
        exact skip (by unfold cnB; simp [c2])
    · rw [if_pos (nI_le (by omega) (by omega))]
      exact skip (by unfold cnB; simp [c1])
theorem out_20 {x y : Int32} (h : (x < 0 ∨ nI 21 ≤ x) ∨ (y < 0 ∨ nI 2 ≤ y)) : (x < 0 ∨ (¬ x < 0 ∧ (20 : Int32) < x)) ∨ ((¬ x < 0 ∧ ¬ (20 : Int32) < x) ∧ (y < 0 ∨ (¬ y < 0 ∧ ¬ y ≤ (1 : Int32)))) := by
  by_cases a : x < 0
  · exact Or.inl (Or.inl a)
  · by_cases b : (20 : Int32) < x
    · exact Or.inl (Or.inr ⟨a, b⟩)
    · refine Or.inr ⟨⟨a, b⟩, ?_⟩
      have hy : y < 0 ∨ nI 2 ≤ y := by
        rcases h with (q | q) | q
        · exact absurd q a
        · exact absurd (Int32.lt_of_lt_of_le (show (20 : Int32) < nI 21 by decide) q) b
        · exact q
      by_cases c : y < 0
      · exact Or.inl c
      · exact Or.inr ⟨c, fun q => absurd (hy.resolve_left c) (Int32.not_le.mpr (Int32.lt_of_le_of_lt q (by decide)))⟩
theorem rin_20 {α : Type} {x y : Int32} (h : (x < 0 ∨ nI 21 ≤ x) ∨ (y < 0 ∨ nI 2 ≤ y)) (a : α) (k : Option α) : ((f_X9_in x (0 : Int32) (20 : Int32)).bind fun q4 => (if q4 = 0 then some a else ((f_X9_in y (0 : Int32) (1 : Int32)).bind fun q13 => (if q13 = 0 then some a else k)))) = some a := by
  by_cases hx : x < 0 ∨ nI 21 ≤ x
  · rw [show f_X9_in x 0 20 = some 0 from in_no (n := 21) (by decide) (by decide) hx, Option.bind_some, if_pos rfl]
  · obtain ⟨j, hj, rfl⟩ := (num_cases x (n := 21) (by decide)).resolve_right hx
    rw [show f_X9_in (nI j) 0 20 = some 1 from in_nI (n := 21) hj (by decide), Option.bind_some, if_neg (by decide), show f_X9_in y 0 1 = some 0 from in_no (n := 2) (by decide) (by decide) (h.resolve_left hx), Option.bind_some, if_pos rfl]
theorem sim_carried : Sim_carried Rel := by
  intro S z x y h
  obtain ⟨⟨a, hI, hH, hM⟩, h3⟩ := id h
  have hH : Hc (K_now S) a := hH
  have hM : Mc (mcore z) a := hM
  by_cases hx : (x < 0 ∨ nI 21 ≤ x) ∨ (y < 0 ∨ nI 2 ≤ y)
  · refine ⟨(-2, K_drift S), (-2, z), ?_, ?_, rfl, h⟩
    · unfold f_X8_carried
      rcases out_20 hx with (a | ⟨a, b⟩) | ⟨⟨a, b⟩, c | ⟨c, c'⟩⟩
      · rw [if_pos a]
      · rw [if_neg a, if_pos b]
      · rw [if_neg a, if_neg b, if_pos c]
      · rw [if_neg a, if_neg b, if_neg c, if_neg c']
    · unfold f_X9_carried; exact rin_20 hx _ _
  · obtain ⟨m, hm, rfl⟩ := (num_cases x (n := 21) (by decide)).resolve_right (fun q => hx (Or.inl q))
    obtain ⟨j, hj, rfl⟩ := (num_cases y (n := 2) (by decide)).resolve_right (fun q => hx (Or.inr q))
    obtain ⟨d1, e1⟩ := cbehind_spec hI hH (K_drift S) (m := m) (by omega)
    obtain ⟨d2, e2⟩ := ccarried_spec hI hH d1 (m := m) (by omega) (nI j)
    obtain ⟨w1, g1, g2, g3⟩ := asNow_Mx hM
    obtain ⟨w2, k1, k2, k3⟩ := goMin_spec hI (Lo0 a) g3 (m := m) (by omega)
    have ef := rfull_spec (Inv_minN hI lo0 m) k3.1
    rw [(minN_keep hI lo0 m).1] at ef
    obtain ⟨w3, r1, r2⟩ := rcarried_spec hI (k2.trans g2) hM (m := m) (by omega) (nI j)
    refine ⟨(if nI j = 0 then nI (cdA a m 144).1 else nI (cdA a m 144).2, d2), (if nI j = 0 then nI (cdA a m 144).1 else nI (cdA a m 144).2, w3), ?_, ?_, rfl, h.to rfl r2⟩
    · unfold f_X8_carried
      rw [if_neg (nI_pos (by omega)), if_neg (show ¬ (20 : Int32) < nI m from nI_nlt (a := 20) (by omega) (by omega)), if_neg (nI_pos (by omega)), if_pos (show nI j ≤ (1 : Int32) from nI_le (b := 1) (by omega) (by decide)), e1, Option.bind_some]
      exact e2
    · unfold f_X9_carried
      rw [show f_X9_in (nI m) 0 20 = some 1 from in_nI (n := 21) hm (by decide), Option.bind_some, if_neg (by decide), show f_X9_in (nI j) 0 1 = some 1 from in_nI (n := 2) hj (by decide), Option.bind_some, if_neg (by decide), g1, Option.bind_some, k1, Option.bind_some, ef, Option.bind_some]
      exact r1
end
/-! 88.hinges -/
section
/-! a door off its hinges -/
def loR (r q : Nat) : Nat → Nat → Bool := fun r' q' => decide ((r' = r ∧ q' = q) ∨ (r' = q ∧ q' = r))
theorem Lo_R {b : AS} (hI : Inv b) {r q : Nat} (hr : r < 6) (hq : q < 6) (h : 1 ≤ a_wd b r q) : LoOk b (loR r q) := by
  intro r' q' hr' hq' hl
  unfold loR at hl
  rw [decide_eq_true_eq] at hl
  rcases hl with ⟨h1, h2⟩ | ⟨h1, h2⟩
  · rw [h1, h2]; exact h
  · rw [h1, h2, ← (hI.2.2.1 r q hr hq).2.1]; exact h
theorem unhinge_spec {d : DS} {b : AS} {gn : Nat → Nat → Nat} (hD : Dx d b gn lo0) {r q : Nat} (hr : r < 6) (hq : q < 6) : ∃ d', f_X0_unhinge d (nI r) (nI q) = some d' ∧ Dx d' b gn (loR r q) := by
  obtain ⟨h1, h2, h3, h4, h5⟩ := hD
  refine ⟨D_set_wide d (upd (upd (D_wide d) (r * 6 + q) 1000) (q * 6 + r) 1000), ?_, h1, h2, h3, fun r' q' hr' hq' => ?_, h5⟩
  · unfold f_X0_unhinge
    rw [ix6, ix6, chk_nI (by omega) (by decide), nI_clamp (by omega), nI_clamp (by omega), ltA_eq, chk_nI (by omega) (by decide), ltA_eq]
  · show upd (upd (D_wide d) (r * 6 + q) 1000) (q * 6 + r) 1000 (r' * 6 + q') = wdv b (loR r q) r' q'
    unfold wdv loR
    by_cases c1 : r' = q ∧ q' = r
    · rw [c1.1, c1.2, pk_us, if_pos (decide_eq_true (Or.inr ⟨rfl, rfl⟩))]
    · rw [pk_un (by omega)]
      by_cases c2 : r' = r ∧ q' = q
      · rw [c2.1, c2.2, pk_us, if_pos (decide_eq_true (Or.inl ⟨rfl, rfl⟩))]
      · rw [pk_un (by omega), if_neg (by rw [decide_eq_true_eq]; omega)]
        exact h4 r' q' hr' hq'
def uhA (a : AS) (m r q : Nat) : Nat := mxA (minN (loR r q) a m) (a_R a)
def hS (a : AS) (m r q : Nat) (s : Nat × Int32) : Nat × Int32 := if 1 ≤ a_wd a r q ∧ uhA a m r q < s.1 then (uhA a m r q, nI (10 * r + q)) else s
def hIn (a : AS) (m r : Nat) (s : Nat × Int32) : Nat → Nat × Int32
  | 0 => s
  | n + 1 => hS a m r (r + 1 + n) (hIn a m r s n)
theorem hIn_s (a : AS) (m r : Nat) (s : Nat × Int32) (n : Nat) : hIn a m r s (n + 1) = hS a m r (r + 1 + n) (hIn a m r s n) := rfl
def hO (a : AS) (m : Nat) : Nat → Nat × Int32
  | 0 => (mxA (minN lo0 a m) (a_R a), -6)
  | r + 1 => hIn a m r (hO a m r) (a_R a - (r + 1))
theorem hO_s (a : AS) (m r : Nat) : hO a m (r + 1) = hIn a m r (hO a m r) (a_R a - (r + 1)) := rfl
theorem hIn_le (a : AS) (m r : Nat) (s : Nat × Int32) (hs : s.1 ≤ 8) : ∀ n, (hIn a m r s n).1 ≤ 8
  | 0 => hs
  | n + 1 => by
    rw [hIn_s]
    unfold hS
    split
    · exact mxA_le _ _
    · exact hIn_le a m r s hs n
theorem hO_le (a : AS) (m : Nat) : ∀ r, (hO a m r).1 ≤ 8
  | 0 => mxA_le _ _
  | r + 1 => by rw [hO_s]; exact hIn_le a m r _ (hO_le a m r) _
theorem cunh_spec {h : HS} {a : AS} (hI : Inv a) (hH : Hc h a) (d : DS) {m r q : Nat} (hm : m < 1000) (hr : r < 6) (hq : q < 6) (hw : 1 ≤ a_wd a r q) : ∃ d', f_X8_fullestUnhinged h d (nI r) (nI q) (nI m) = some (nI (uhA a m r q), d') := by
  obtain ⟨d1, b1, b2⟩ := begin_spec (d := d) hI hH
  obtain ⟨d2, b3, b4⟩ := unhinge_spec b2 hr hq
  obtain ⟨d3, gn, c1, c2⟩ := run_spec hI (Lo_R hI hr hq hw) b4 hm
  have ef := cfull_spec (Inv_minN hI (loR r q) m) c2
  rw [(minN_keep hI (loR r q) m).1] at ef
  refine ⟨d3, ?_⟩
  unfold f_X8_fullestUnhinged
  rw [b1, Option.bind_some, b3, Option.bind_some, c1, Option.bind_some, ef, Option.bind_some]
  rfl
theorem ten_i (r q : Nat) : ((10 : Int32) * nI r) + nI q = nI (10 * r + q) := by rw [show (10 : Int32) = nI 10 from rfl, pk_mul, nI_add]
theorem chin_spec {k35 : HS → DS → Int32 → Int32 → Int32 → Int32 → Int32 → Option (Int32 × DS)} {h : HS} {a : AS} (hI : Inv a) (hH : Hc h a) (d : DS) {m r : Nat} (hm : m < 1000) (hr : r < a_R a) (x2 : Int32) (s : Nat × Int32) (hs : s.1 ≤ 8) : ∃ d', it (X8_hinges_B53 k35) (fun _ _ _ _ _ _ _ _ => none) FU h d (nI m) x2 (nI s.1) s.2 (nI r) (nI (r + 1)) = k35 h d' (nI m) x2 (nI (hIn a m r s (a_R a - (r + 1))).1) (hIn a m r s (a_R a - (r + 1))).2 (nI (r + 1)) := by
  obtain ⟨N, hN, hFU⟩ := FU_ex
  have hR6 := hI.1.2.1
  rw [hFU]
  suffices g : ∃ d', it (X8_hinges_B53 k35) (fun _ _ _ _ _ _ _ _ => none) N h d (nI m) x2 (nI (hIn a m r s (r + 1 - (r + 1))).1) (hIn a m r s (r + 1 - (r + 1))).2 (nI r) (nI (r + 1)) = k35 h d' (nI m) x2 (nI (hIn a m r s (a_R a - (r + 1))).1) (hIn a m r s (a_R a - (r + 1))).2 (nI (r + 1)) by
    rw [Nat.sub_self] at g; exact g
  refine it_rule (bot := fun _ _ _ _ _ _ _ _ => none) (a_R a) (fun i (_ : DS) => r + 1 ≤ i) (fun k i t => ∃ d', k h t (nI m) x2 (nI (hIn a m r s (i - (r + 1))).1) (hIn a m r s (i - (r + 1))).2 (nI r) (nI i) = k35 h d' (nI m) x2 (nI (hIn a m r s (a_R a - (r + 1))).1) (hIn a m r s (a_R a - (r + 1))).2 (nI (r + 1))) ?_ ?_ N (r + 1) d (by omega) (by omega) (Nat.le_refl _)
  · intro k t _
    refine ⟨t, ?_⟩
    unfold X8_hinges_B53
    rw [hH.1, if_pos (Int32.le_refl _), nI_1]
  · intro k i t hi hri hk
    have h8 := hIn_le a m r s hs (i - (r + 1))
    rw [show i + 1 - (r + 1) = (i - (r + 1)) + 1 by omega, hIn_s, show r + 1 + (i - (r + 1)) = i by omega] at hk
    generalize hIn a m r s (i - (r + 1)) = u at *
    unfold hS at hk
    have w3 := (hI.2.2.1 r i (by omega) (by omega)).1
    unfold X8_hinges_B53
    rw [hH.1, if_neg (nI_ge hi (by omega)), width_spec hH (by omega) (by omega), Option.bind_some]
    by_cases c1 : 1 ≤ a_wd a r i
    · obtain ⟨d1, f1⟩ := cunh_spec hI hH t hm (show r < 6 by omega) (show i < 6 by omega) c1
      have g8 : uhA a m r i ≤ 8 := mxA_le _ _
      rw [if_neg (show ¬ nI (a_wd a r i) ≤ 0 from nI_ge (a := 0) (by omega) (by omega)), f1, Option.bind_some]
      unfold X8_hinges_J92 X8_hinges_J113
      show ∃ d', (if nI u.1 ≤ nI (uhA a m r i) then k h d1 (nI m) x2 (nI u.1) u.2 (nI r) (nI i + 1) else k h d1 (nI m) x2 (nI (uhA a m r i)) (((10 : Int32) * nI r) + nI i) (nI r) (nI i + 1)) = _
      rw [ten_i, nI_1]
      by_cases c3 : uhA a m r i < u.1
      · rw [if_pos ⟨c1, c3⟩] at hk
        rw [if_neg (nI_ge c3 (by omega))]
        exact hk d1 (by omega)
      · rw [if_neg (fun h => c3 h.2)] at hk
        rw [if_pos (nI_le (by omega) (by omega))]
        exact hk d1 (by omega)
    · rw [if_neg (fun h => c1 h.1)] at hk
      rw [if_pos (show nI (a_wd a r i) ≤ 0 from nI_le (b := 0) (by omega) (by decide))]
      unfold X8_hinges_J92 X8_hinges_J113
      rw [if_pos (Int32.le_refl _), nI_1]
      exact hk t (by omega)
theorem chinges_spec {h : HS} {a : AS} (hI : Inv a) (hH : Hc h a) (d : DS) {m : Nat} (hm : m < 1000) (x2 : Int32) : ∃ d', it X8_hinges_B35 (fun _ _ _ _ _ _ _ => none) FU h d (nI m) x2 (nI (hO a m 0).1) (-6) 0 = some (if x2 = 0 then nI (hO a m (a_R a)).1 else (hO a m (a_R a)).2, d') := by
  obtain ⟨N, hN, hFU⟩ := FU_ex
  have hR6 := hI.1.2.1
  rw [hFU]
  refine it_rule (bot := fun _ _ _ _ _ _ _ => none) (a_R a) (fun _ (_ : DS) => True) (fun k i s => ∃ d', k h s (nI m) x2 (nI (hO a m i).1) (hO a m i).2 (nI i) = some (if x2 = 0 then nI (hO a m (a_R a)).1 else (hO a m (a_R a)).2, d')) ?_ ?_ N 0 d (by omega) (by omega) trivial
  · intro k s _
    refine ⟨s, ?_⟩
    unfold X8_hinges_B35
    rw [hH.1, if_pos (Int32.le_refl _)]
    by_cases c : x2 = 0
    · rw [if_pos c, if_pos c]
    · rw [if_neg c, if_neg c]
  · intro k i s hi _ hk
    obtain ⟨d1, e1⟩ := chin_spec (k35 := k) hI hH s hm hi x2 (hO a m i) (hO_le a m i)
    obtain ⟨d2, e2⟩ := hk d1 trivial
    refine ⟨d2, ?_⟩
    unfold X8_hinges_B35
    rw [hH.1, if_neg (nI_ge hi (by omega)), nI_1, e1]
    exact e2
theorem rloose_spec {w : MS} {a : AS} (hM : Mx0 w a lo0) {r q : Nat} (hr : r < 6) (hq : q < 6) : ∃ w', w' = M_set_loose w (nI (6 * r + q)) ∧ mkeep w' = mkeep w ∧ Mx0 w' a (loR r q) := by
  obtain ⟨y, ey⟩ : ∃ x, x = M_set_loose w (nI (6 * r + q)) := ⟨_, rfl⟩
  obtain ⟨a1, b1⟩ := set_loose ey
  have g1 : M_at y = M_at w := congrArg (fun m => m.1) b1
  have g2 : M_busyNow y = M_busyNow w := congrArg (fun m => m.2.1) b1
  have g3 : M_withNow y = M_withNow w := congrArg (fun m => m.2.2.1) b1
  have g4 : M_leftNow y = M_leftNow w := congrArg (fun m => m.2.2.2.1) b1
  have g5 : M_thingsNow y = M_thingsNow w := congrArg (fun m => m.2.2.2.2.1) b1
  have g6 : M_loose y = nI (6 * r + q) := congrArg (fun m => m.2.2.2.2.2.1) b1
  refine ⟨y, ey, a1, Mc_now a1 hM.1 rfl rfl rfl rfl rfl rfl rfl rfl (fun r s hr hs => by rw [g5]; exact gt_th hM.1 hr hs) (fun _ _ _ _ _ => rfl) (fun j hj hi => by rw [g1, g2, g3, g4]; exact gt_now hM.1 hj hi), fun r' q' hr' hq' => ?_⟩
  rw [g6]
  unfold loR
  rw [decide_eq_true_eq, nI_eq (by omega) (by omega), nI_eq (by omega) (by omega)]
  omega
theorem rhin_spec {k43 : MS → Int32 → Int32 → Int32 → Int32 → Int32 → Option (Int32 × MS)} {z w : MS} {a : AS} (hI : Inv a) (hM : Mc (mcore z) a) (hw0 : mkeep w = mkeep z) {m r : Nat} (hm : m < 1000) (hr : r < a_R a) (x2 : Int32) (s : Nat × Int32) (hs : s.1 ≤ 8) : ∃ w', mkeep w' = mkeep z ∧ it (X9_hinges_B58 k43) (fun _ _ _ _ _ _ _ => none) FU w (nI m) x2 (nI s.1) s.2 (nI r) (nI (r + 1)) = k43 w' (nI m) x2 (nI (hIn a m r s (a_R a - (r + 1))).1) (hIn a m r s (a_R a - (r + 1))).2 (nI (r + 1)) := by
  obtain ⟨N, hN, hFU⟩ := FU_ex
  have hR6 := hI.1.2.1
  rw [hFU]
  suffices g : ∃ w', mkeep w' = mkeep z ∧ it (X9_hinges_B58 k43) (fun _ _ _ _ _ _ _ => none) N w (nI m) x2 (nI (hIn a m r s (r + 1 - (r + 1))).1) (hIn a m r s (r + 1 - (r + 1))).2 (nI r) (nI (r + 1)) = k43 w' (nI m) x2 (nI (hIn a m r s (a_R a - (r + 1))).1) (hIn a m r s (a_R a - (r + 1))).2 (nI (r + 1)) by
    rw [Nat.sub_self] at g; exact g
  refine it_rule (bot := fun _ _ _ _ _ _ _ => none) (a_R a) (fun i (t : MS) => r + 1 ≤ i ∧ mkeep t = mkeep z) (fun k i t => ∃ w', mkeep w' = mkeep z ∧ k t (nI m) x2 (nI (hIn a m r s (i - (r + 1))).1) (hIn a m r s (i - (r + 1))).2 (nI r) (nI i) = k43 w' (nI m) x2 (nI (hIn a m r s (a_R a - (r + 1))).1) (hIn a m r s (a_R a - (r + 1))).2 (nI (r + 1))) ?_ ?_ N (r + 1) w (by omega) (by omega) ⟨Nat.le_refl _, hw0⟩
  · intro k t ⟨_, ht⟩
    have hMt : Mc (mcore t) a := by rw [show mcore t = mcore z from congrArg (fun m => m.1) ht]; exact hM
    refine ⟨t, ht, ?_⟩
    unfold X9_hinges_B58
    rw [m_rooms hMt, if_pos (Int32.le_refl _), nI_1]
  · intro k i t hi ⟨hri, ht⟩ hk
    have hMt : Mc (mcore t) a := by rw [show mcore t = mcore z from congrArg (fun m => m.1) ht]; exact hM
    have h8 := hIn_le a m r s hs (i - (r + 1))
    rw [show i + 1 - (r + 1) = (i - (r + 1)) + 1 by omega, hIn_s, show r + 1 + (i - (r + 1)) = i by omega] at hk
    generalize hIn a m r s (i - (r + 1)) = u at *
    unfold hS at hk
    have w3 := (hI.2.2.1 r i (by omega) (by omega)).1
    have hwd : M_width t (6 * r + i) = nI (a_wd a r i) := hMt.2.2.2.2.1 r i (by omega) (by omega)
    unfold X9_hinges_B58 X9_hinges_J144
    rw [m_rooms hMt, if_neg (nI_ge hi (by omega)), ix6', chk_nI (by omega) (by decide), nI_clamp (by omega), hwd]
    by_cases c1 : 1 ≤ a_wd a r i
    · obtain ⟨t1, e1, e2, e3⟩ := asNow_Mx hMt
      obtain ⟨t2, f1, f2, f3⟩ := rloose_spec e3 (r := r) (q := i) (by omega) (by omega)
      obtain ⟨t3, g1, g2, g3⟩ := goMin_spec hI (Lo_R hI (by omega) (by omega) c1) f3 hm
      have ef := rfull_spec (Inv_minN hI (loR r i) m) g3.1
      rw [(minN_keep hI (loR r i) m).1] at ef
      have ef : f_X9_fullest t3 = some (nI (uhA a m r i)) := ef
      have g8 : uhA a m r i ≤ 8 := mxA_le _ _
      rw [if_neg (show ¬ nI (a_wd a r i) ≤ 0 from nI_ge (a := 0) (by omega) (by omega)), e1, Option.bind_some, ltA_eq, ← f1, g1, Option.bind_some, ef, Option.bind_some]
      unfold X9_hinges_J129 X9_hinges_J143 X9_hinges_J144
      rw [ten_i, nI_1]
      have kk := ((g2.trans f2).trans e2).trans ht
      by_cases c3 : uhA a m r i < u.1
      · rw [if_pos ⟨c1, c3⟩] at hk
        rw [if_neg (nI_ge c3 (by omega)), if_neg (nI_ge c3 (by omega))]
        exact hk t3 ⟨by omega, kk⟩
      · rw [if_neg (fun h => c3 h.2)] at hk
        rw [if_pos (nI_le (by omega) (by omega)), if_pos (nI_le (by omega) (by omega))]
        exact hk t3 ⟨by omega, kk⟩
    · rw [if_neg (fun h => c1 h.1)] at hk
      rw [if_pos (show nI (a_wd a r i) ≤ 0 from nI_le (b := 0) (by omega) (by decide)), nI_1]
      exact hk t ⟨by omega, ht⟩
theorem rhinges_spec {z w : MS} {a : AS} (hI : Inv a) (hM : Mc (mcore z) a) (hw0 : mkeep w = mkeep z) {m : Nat} (hm : m < 1000) (x2 : Int32) : ∃ w', it X9_hinges_B43 (fun _ _ _ _ _ _ => none) FU w (nI m) x2 (nI (hO a m 0).1) (-6) 0 = some (if x2 = 0 then nI (hO a m (a_R a)).1 else (hO a m (a_R a)).2, w') ∧ mkeep w' = mkeep z := by
  obtain ⟨N, hN, hFU⟩ := FU_ex
  have hR6 := hI.1.2.1
  rw [hFU]
  refine it_rule (bot := fun _ _ _ _ _ _ => none) (a_R a) (fun _ (t : MS) => mkeep t = mkeep z) (fun k i s => ∃ w', k s (nI m) x2 (nI (hO a m i).1) (hO a m i).2 (nI i) = some (if x2 = 0 then nI (hO a m (a_R a)).1 else (hO a m (a_R a)).2, w') ∧ mkeep w' = mkeep z) ?_ ?_ N 0 w (by omega) (by omega) hw0
  · intro k s hs
    have hMt : Mc (mcore s) a := by rw [show mcore s = mcore z from congrArg (fun m => m.1) hs]; exact hM
    refine ⟨s, ?_, hs⟩
    unfold X9_hinges_B43
    rw [m_rooms hMt, if_pos (Int32.le_refl _)]
    by_cases c : x2 = 0
    · rw [if_pos c, if_pos c]
    · rw [if_neg c, if_neg c]
  · intro k i s hi hs hk
    have hMt : Mc (mcore s) a := by rw [show mcore s = mcore z from congrArg (fun m => m.1) hs]; exact hM
    obtain ⟨d1, e0, e1⟩ := rhin_spec (k43 := k) hI hM hs hm hi x2 (hO a m i) (hO_le a m i)
    obtain ⟨d2, e2, e3⟩ := hk d1 e0
    refine ⟨d2, ?_, e3⟩
    unfold X9_hinges_B43
    rw [m_rooms hMt, if_neg (nI_ge hi (by omega)), nI_1, e1]
    exact e2
theorem sim_hinges : Sim_hinges Rel := by
  intro S z x y h
  obtain ⟨⟨a, hI, hH, hM⟩, h3⟩ := id h
  have hH : Hc (K_now S) a := hH
  have hM : Mc (mcore z) a := hM
  by_cases hx : (x < 0 ∨ nI 21 ≤ x) ∨ (y < 0 ∨ nI 2 ≤ y)
  · refine ⟨(-2, K_drift S), (-2, z), ?_, ?_, rfl, h⟩
    · unfold f_X8_hinges
      rcases out_20 hx with (a | ⟨a, b⟩) | ⟨⟨a, b⟩, c | ⟨c, c'⟩⟩
      · rw [if_pos a]
      · rw [if_neg a, if_pos b]
      · rw [if_neg a, if_neg b, if_pos c]
      · rw [if_neg a, if_neg b, if_neg c, if_neg c']
    · unfold f_X9_hinges; exact rin_20 hx _ _
  · obtain ⟨m, hm, rfl⟩ := (num_cases x (n := 21) (by decide)).resolve_right (fun q => hx (Or.inl q))
    obtain ⟨j, hj, rfl⟩ := (num_cases y (n := 2) (by decide)).resolve_right (fun q => hx (Or.inr q))
    obtain ⟨d1, e1⟩ := cbehind_spec hI hH (K_drift S) (m := m) (by omega)
    obtain ⟨d2, e2⟩ := chinges_spec hI hH d1 (m := m) (by omega) (nI j)
    obtain ⟨w1, g1, g2, g3⟩ := asNow_Mx hM
    obtain ⟨w2, k1, k2, k3⟩ := goMin_spec hI (Lo0 a) g3 (m := m) (by omega)
    have ef := rfull_spec (Inv_minN hI lo0 m) k3.1
    rw [(minN_keep hI lo0 m).1] at ef
    obtain ⟨w3, r1, r2⟩ := rhinges_spec hI hM (k2.trans g2) (m := m) (by omega) (nI j)
    refine ⟨(if nI j = 0 then nI (hO a m (a_R a)).1 else (hO a m (a_R a)).2, d2), (if nI j = 0 then nI (hO a m (a_R a)).1 else (hO a m (a_R a)).2, w3), ?_, ?_, rfl, h.to rfl r2⟩
    · unfold f_X8_hinges
      rw [if_neg (nI_pos (by omega)), if_neg (show ¬ (20 : Int32) < nI m from nI_nlt (a := 20) (by omega) (by omega)), if_neg (nI_pos (by omega)), if_pos (show nI j ≤ (1 : Int32) from nI_le (b := 1) (by omega) (by decide)), e1, Option.bind_some]
      exact e2
    · unfold f_X9_hinges
      rw [show f_X9_in (nI m) 0 20 = some 1 from in_nI (n := 21) hm (by decide), Option.bind_some, if_neg (by decide), show f_X9_in (nI j) 0 1 = some 1 from in_nI (n := 2) hj (by decide), Option.bind_some, if_neg (by decide), g1, Option.bind_some, k1, Option.bind_some, ef, Option.bind_some]
      exact r1
end
/-! 89.tastes -/
section
/-! tastes -/
def lkS (a : AS) (g s : Nat) (v : Int) : AS := a_setLk a (fun j k => if j = g ∧ k = s then v else a_lk a j k)
theorem lkS_lk (a : AS) (g s : Nat) (v : Int) (j k : Nat) : a_lk (lkS a g s v) j k = if j = g ∧ k = s then v else a_lk a j k := rfl
theorem lkS_th (a : AS) (g s : Nat) (v : Int) : a_th (lkS a g s v) = a_th a := rfl
theorem lkS_k (a : AS) (g s : Nat) (v : Int) : a_k (lkS a g s v) = a_k a := rfl
theorem Inv_lkS {a : AS} (hI : Inv a) {g s : Nat} (hi : a_is a g = true) {v : Int} (h1 : -3 ≤ v) (h2 : v ≤ 3) : Inv (lkS a g s v) := by
  obtain ⟨i1, i2, i3, i4, i5, i6, i7, i8, i9, i10, i11⟩ := id hI
  refine ⟨i1, i2, i3, i4, ?_, ?_, i7, i8, i9, i10, i11⟩
  · intro j hj e
    have e : a_is a j = false := e
    obtain ⟨q1, q2, q3⟩ := i5 j hj e
    refine ⟨q1, q2, fun k hk => ?_⟩
    rw [lkS_lk, if_neg (fun h => by rw [h.1, hi] at e; cases e)]; exact q3 k hk
  · intro j hj e
    obtain ⟨q1, q2, q3⟩ := i6 j hj e
    refine ⟨q1, q2, fun k hk => ?_⟩
    rw [lkS_lk]
    split
    · exact ⟨h1, h2⟩
    · exact q3 k hk
theorem Hc_lkS {h : HS} {a : AS} {g s : Nat} {v0 v : Int} {x : Int32} (hg : g < 8) (hs : s < 5) (hH : Hc h (lkS a g s v0)) (hx : x = Int32.ofInt v) : Hc (H_set_likes h (upd (H_likes h) (g * 5 + s) x)) (lkS a g s v) := by
  obtain ⟨b1, b2, b3, b4, b5, b6, b7, b8⟩ := hH
  refine ⟨b1, b2, b3, b4, b5, b6, fun j k hj hk => ?_, b8⟩
  show upd (H_likes h) (g * 5 + s) x (j * 5 + k) = _
  rw [lkS_lk]
  by_cases c : j = g ∧ k = s
  · rw [if_pos c, c.1, c.2, pk_us, hx]
  · rw [if_neg c, pk_un (by omega)]
    have := b7 j k hj hk
    rw [lkS_lk, if_neg c] at this
    exact this
theorem Hc_lkS0 {h : HS} {a : AS} {g s : Nat} (hH : Hc h a) : Hc h (lkS a g s (a_lk a g s)) := by
  obtain ⟨b1, b2, b3, b4, b5, b6, b7, b8⟩ := hH
  refine ⟨b1, b2, b3, b4, b5, b6, fun j k hj hk => ?_, b8⟩
  rw [lkS_lk]
  by_cases c : j = g ∧ k = s
  · rw [if_pos c, ← c.1, ← c.2]; exact b7 j k hj hk
  · rw [if_neg c]; exact b7 j k hj hk
/-- the sights fit a room -/
def shB (a : AS) (g t : Nat) : Bool := (List.range (a_k a)).all (fun k => !(a_sg a k == g) || a_sr a k == t)
theorem csh_spec {h : HS} {a : AS} (hI : Inv a) (hH : Hc h a) {g t : Nat} (hg : g < 8) (ht : t < 1000) : f_X1_sightsHold h (nI g) (nI t) = some (if shB a g t then 1 else 0) := by
  obtain ⟨N, hN, hFU⟩ := FU_ex
  have h6 := hI.1.2.2.2
  have hR6 := hI.1.2.1
  unfold f_X1_sightsHold
  rw [hFU]
  refine it_rule (bot := fun _ _ _ _ => none) (a_k a) (fun i (_ : Unit) => (List.range i).all (fun k => !(a_sg a k == g) || a_sr a k == t) = true) (fun k i _ => k h (nI g) (nI t) (nI i) = some (if shB a g t then 1 else 0)) ?_ ?_ N 0 () (by omega) (by omega) rfl
  · intro k _ hs
    have hs : shB a g t = true := hs
    unfold X1_sightsHold_B2
    rw [hH.2.2.1, if_pos (Int32.le_refl _), hs]; rfl
  · intro k i _ hi hs hk
    obtain ⟨e1, e2⟩ := hH.2.2.2.2.2.2.2 i hi
    obtain ⟨l1, l2⟩ := hI.2.2.2.2.2.2.2.2.2.2 i hi
    have es : ((List.range (i + 1)).all fun k => !(a_sg a k == g) || a_sr a k == t) = (!(a_sg a i == g) || a_sr a i == t) := by rw [List.range_succ, List.all_append, hs]; simp
    have hk' := hk ()
    rw [es] at hk'
    unfold X1_sightsHold_B2 X1_sightsHold_J32
    rw [hH.2.2.1, if_neg (nI_ge hi (by omega)), chk_nI (show i < 6 by omega) (by decide), chk_nI (show i < 6 by omega) (by decide), nI_clamp (by omega), e1, e2, nI_1]
    by_cases c1 : a_sg a i = g
    · rw [if_pos (by rw [c1])]
      by_cases c2 : a_sr a i = t
      · rw [if_pos (by rw [c2])]; exact hk' (by simp [c2])
      · rw [if_neg (fun h => c2 ((nI_eq (by omega) (by omega)).mp h))]
        have : shB a g t = false := by
          unfold shB
          rw [List.all_eq_false]
          exact ⟨i, List.mem_range.mpr hi, by simp [c1, c2]⟩
        rw [this]; rfl
    · rw [if_neg (fun h => c1 ((nI_eq (by omega) (by omega)).mp h))]; exact hk' (by simp [c1])
set_option maxRecDepth 100000 in
theorem b3_dec : ∀ i : Fin 9, nI i.val - (3 : Int32) = Int32.ofInt ((i.val : Int) - 3) ∧ (nI i.val - (3 : Int32)) + 3 = nI i.val ∧ (nI i.val - (3 : Int32)) + 1 = nI (i.val + 1) - 3 ∧ ((4 : Int32) ≤ nI i.val - 3 ↔ 7 ≤ i.val) := by decide +kernel
theorem b3 {i : Nat} (hi : i < 9) : nI i - (3 : Int32) = Int32.ofInt ((i : Int) - 3) ∧ (nI i - (3 : Int32)) + 3 = nI i ∧ (nI i - (3 : Int32)) + 1 = nI (i + 1) - 3 ∧ ((4 : Int32) ≤ nI i - 3 ↔ 7 ≤ i) := b3_dec ⟨i, hi⟩
/-- where one would go, liking so -/
def tgA (a : AS) (g s i : Nat) : Nat := toA (lkS a g s ((i : Int) - 3)) (fun _ _ => 0) lo0 g
theorem tgA_lt {a : AS} (hI : Inv a) {g s i : Nat} (hg : g < 8) (hi : a_is a g = true) : tgA a g s i < 6 := by
  have hpl := (hI.2.2.2.2.2.1 g hg hi).1
  have hR6 := hI.1.2.1
  unfold tgA
  by_cases c : toA (lkS a g s ((i : Int) - 3)) (fun _ _ => 0) lo0 g = a_pl (lkS a g s ((i : Int) - 3)) g
  · rw [c]; show a_pl a g < 6; omega
  · have := (toA_ok c).1
    have this : toA (lkS a g s ((i : Int) - 3)) (fun _ _ => 0) lo0 g < a_R a := this
    omega
theorem pt_congr {f f' : Nat → Int32} {a : AS} {r : Nat} : ∀ i, (∀ k, k < i → f k = f' k) → pt f a r i = pt f' a r i
  | 0, _ => rfl
  | i + 1, h => by show pt f a r i + f i * _ = pt f' a r i + f' i * _; rw [pt_congr i (fun k hk => h k (by omega)), h i (by omega)]
theorem tg_goal {w : MS} {a : AS} (hI : Inv a) (hM : Mx w a (fun _ _ => 0) lo0) {g s i : Nat} (hg : g < 8) (hi : a_is a g = true) (hs : s < 5) (hi7 : i < 9) : f_X9_goal w (nI g) (nI s) (nI i - 3) = some (nI (tgA a g s i)) := by
  rw [goal_spec hI (Lo0 a) (fun _ _ _ _ => by decide) hM hg hi]
  unfold tgA toA
  have e : ∀ r, dr (fun k => if nI s = nI k then nI i - 3 else lkf a g k) a g r = dr (lkf (lkS a g s ((i : Int) - 3)) g) (lkS a g s ((i : Int) - 3)) g r := by
    intro r
    have q : ∀ k, k < 5 → (if nI s = nI k then nI i - 3 else lkf a g k) = lkf (lkS a g s ((i : Int) - 3)) g k := by
      intro k hk
      show _ = Int32.ofInt (a_lk (lkS a g s ((i : Int) - 3)) g k)
      rw [lkS_lk]
      by_cases c : k = s
      · rw [if_pos (by rw [c]), if_pos ⟨rfl, c⟩]; exact (b3 hi7).1
      · rw [if_neg (fun h => c ((nI_eq (by omega) (by omega)).mp h).symm), if_neg (fun h => c h.2)]; rfl
    unfold dr
    rw [pt_congr 4 (fun k hk => q k (by omega)), show ((fun k => if nI s = nI k then nI i - 3 else lkf a g k) 4) = lkf (lkS a g s ((i : Int) - 3)) g 4 from q 4 (by decide)]
    rw [pt_th (lkS_th a g s ((i : Int) - 3)).symm]
    rfl
  rw [gA_congr e]
  rfl
theorem ctastes_spec {h : HS} {a : AS} (hI : Inv a) (hH : Hc h a) {g s : Nat} (hg : g < 8) (hi : a_is a g = true) (hs : s < 5) {d : DS} (hD : Hc (D_house d) a) : ∃ d', it X8_tastes_B41 (fun _ _ _ _ _ _ => none) FU h d (nI g) (nI s) 0 0 = some (nI (msk (fun i => shB a g (tgA a g s i)) 7), d') := by
  obtain ⟨N, hN, hFU⟩ := FU_ex
  rw [hFU]
  refine it_rule (bot := fun _ _ _ _ _ _ => none) 7 (fun _ (t : DS) => ∃ v0, Hc (D_house t) (lkS a g s v0)) (fun k i t => ∃ d', k h t (nI g) (nI s) (nI (msk (fun i => shB a g (tgA a g s i)) i)) (nI i) = some (nI (msk (fun i => shB a g (tgA a g s i)) 7), d')) ?_ ?_ N 0 d (by omega) (by omega) ⟨_, Hc_lkS0 hD⟩
  · intro k t _
    exact ⟨t, by unfold X8_tastes_B41; rw [if_pos (by decide)]⟩
  · intro k i t hi7 ⟨v0, ht⟩ hk
    have h1 := Hc_lkS hg hs ht (b3 (i := i) (by omega)).1
    have hIv : Inv (lkS a g s ((i : Int) - 3)) := Inv_lkS hI hi (by omega) (by omega)
    obtain ⟨d1, r1, r2⟩ := ready_spec (d := D_set_house t (H_set_likes (D_house t) (upd (H_likes (D_house t)) (g * 5 + s) (nI i - 3)))) hIv h1
    have htg : f_X0_target d1 (nI g) = some (nI (tgA a g s i)) := target_spec hIv (Lo0 _) (fun _ _ _ _ => by decide) r2 hg hi
    have hk' := hk d1 ⟨_, r2.1⟩
    unfold X8_tastes_B41 X8_tastes_J101
    rw [if_neg (show ¬ (6 : Int32) < nI i from nI_nlt (a := 6) (by omega) (by omega)), ix5, chk_nI (by omega) (by decide), nI_clamp (by omega), ltA_eq, r1, Option.bind_some, htg, Option.bind_some, csh_spec hI hH hg (by have := tgA_lt hI (s := s) (i := i) hg hi; omega), Option.bind_some, nI_1, b10, or_bit (by omega) (msk_lt _ i)]
    have em : msk (fun i => shB a g (tgA a g s i)) (i + 1) = msk (fun i => shB a g (tgA a g s i)) i + (if shB a g (tgA a g s i) then 2 ^ i else 0) := rfl
    rw [em] at hk'
    cases e : shB a g (tgA a g s i)
    · rw [e] at hk'; exact hk'
    · rw [e] at hk'; exact hk'
theorem rtin_spec {k36 : MS → Int32 → Int32 → Int32 → Int32 → Option (Int32 × MS)} {w : MS} {a : AS} (hI : Inv a) (hM : Mx w a (fun _ _ => 0) lo0) {g s i : Nat} (hg : g < 8) (hi : a_is a g = true) (hs : s < 5) (hi7 : i < 7) (x : Int32) : it (X9_tastes_B48 k36) (fun _ _ _ _ _ _ _ => none) FU w (nI g) (nI s) x (nI i - 3) 1 0 = k36 w (nI g) (nI s) (if shB a g (tgA a g s i) then x ||| ((1 : Int32) <<< (nI i &&& 31)) else x) (nI (i + 1) - 3) := by
  obtain ⟨N, hN, hFU⟩ := FU_ex
  have h6 := hI.1.2.2.2
  have hR6 := hI.1.2.1
  have hk6 : M_sights w = nI (a_k a) := hM.1.2.2.1
  have hsi : ∀ k, k < a_k a → M_sight w (2 * k) = nI (a_sg a k) ∧ M_sight w (2 * k + 1) = nI (a_sr a k) := hM.1.2.2.2.2.2.2
  have ht6 := tgA_lt hI (s := s) (i := i) hg hi
  obtain ⟨-, e3, e4, -⟩ := b3 (i := i) (by omega)
  rw [hFU]
  refine it_rule (bot := fun _ _ _ _ _ _ _ => none) (a_k a) (fun j (v : Bool) => v = (List.range j).all (fun k => !(a_sg a k == g) || a_sr a k == tgA a g s i)) (fun k j v => k w (nI g) (nI s) x (nI i - 3) (if v then 1 else 0) (nI j) = k36 w (nI g) (nI s) (if shB a g (tgA a g s i) then x ||| ((1 : Int32) <<< (nI i &&& 31)) else x) (nI (i + 1) - 3)) ?_ ?_ N 0 true (by omega) (by omega) rfl
  · intro k v hv
    have hv : v = shB a g (tgA a g s i) := hv
    unfold X9_tastes_B48 X9_tastes_J126
    rw [hk6, if_pos (Int32.le_refl _), b10, hv, e3, e4]
    cases shB a g (tgA a g s i)
    · show k36 w (nI g) (nI s) (x ||| 0) (nI (i + 1) - 3) = _
      rw [Int32.or_zero]; rfl
    · rfl
  · intro k j v hj hv hk
    obtain ⟨s1, s2⟩ := hsi j hj
    obtain ⟨l1, l2⟩ := hI.2.2.2.2.2.2.2.2.2.2 j hj
    have es : ((List.range (j + 1)).all fun k => !(a_sg a k == g) || a_sr a k == tgA a g s i) = (v && (!(a_sg a j == g) || a_sr a j == tgA a g s i)) := by rw [List.range_succ, List.all_append, ← hv]; simp
    have hk' := hk _ rfl
    rw [es] at hk'
    unfold X9_tastes_B48 X9_tastes_J101 X9_tastes_J97 X9_tastes_J102
    rw [hk6, if_neg (nI_ge hj (by omega)), show (2 : Int32) * nI j = nI (2 * j) from pk_mul 2 j, nI_1, nI_1, b10]
    cases v
    · exact hk'
    · simp only [if_true, Bool.true_and] at hk' ⊢
      rw [chk_nI (by omega) (by decide), nI_clamp (by omega), s1, tg_goal hI hM hg hi hs (by omega), Option.bind_some, chk_nI (by omega) (by decide), nI_clamp (by omega), s2]
      by_cases c1 : a_sg a j = g
      · rw [if_pos (by rw [c1])]
        by_cases c2 : a_sr a j = tgA a g s i
        · rw [if_pos (by rw [c2])]
          rw [show (!(a_sg a j == g) || a_sr a j == tgA a g s i) = true by simp [c2]] at hk'
          exact hk'
        · rw [if_neg (fun h => c2 ((nI_eq (by omega) (by omega)).mp h).symm)]
          rw [show (!(a_sg a j == g) || a_sr a j == tgA a g s i) = false by simp [c1, c2]] at hk'
          exact hk'
      · rw [if_neg (fun h => c1 ((nI_eq (by omega) (by omega)).mp h))]
        rw [show (!(a_sg a j == g) || a_sr a j == tgA a g s i) = true by simp [c1]] at hk'
        exact hk'
theorem rtastes_spec {w : MS} {a : AS} (hI : Inv a) (hM : Mx w a (fun _ _ => 0) lo0) {g s : Nat} (hg : g < 8) (hi : a_is a g = true) (hs : s < 5) : it X9_tastes_B36 (fun _ _ _ _ _ => none) FU w (nI g) (nI s) 0 (-3) = some (nI (msk (fun i => shB a g (tgA a g s i)) 7), w) := by
  obtain ⟨N, hN, hFU⟩ := FU_ex
  rw [hFU]
  suffices G : it X9_tastes_B36 (fun _ _ _ _ _ => none) N w (nI g) (nI s) (nI (msk (fun i => shB a g (tgA a g s i)) 0)) (nI 0 - 3) = some (nI (msk (fun i => shB a g (tgA a g s i)) 7), w) from G
  refine it_rule (bot := fun _ _ _ _ _ => none) 7 (fun _ (_ : Unit) => True) (fun k i _ => k w (nI g) (nI s) (nI (msk (fun i => shB a g (tgA a g s i)) i)) (nI i - 3) = some (nI (msk (fun i => shB a g (tgA a g s i)) 7), w)) ?_ ?_ N 0 () (by omega) (by omega) trivial
  · intro k _ _
    unfold X9_tastes_B36
    rw [if_pos ((b3 (i := 7) (by decide)).2.2.2.mpr (by decide))]
  · intro k i _ hi7 _ hk
    have hk' := hk () trivial
    unfold X9_tastes_B36
    rw [if_neg (fun h => by have := (b3 (i := i) (by omega)).2.2.2.mp h; omega), rtin_spec hI hM hg hi hs hi7, or_bit (by omega) (msk_lt _ i)]
    have em : msk (fun i => shB a g (tgA a g s i)) (i + 1) = msk (fun i => shB a g (tgA a g s i)) i + (if shB a g (tgA a g s i) then 2 ^ i else 0) := rfl
    rw [em] at hk'
    cases e : shB a g (tgA a g s i)
    · rw [e] at hk'; exact hk'
    · rw [e] at hk'; exact hk'
theorem sim_tastes : Sim_tastes Rel := by
  intro S z x1 x2 h
  obtain ⟨⟨a, hI, hH, hM⟩, h3⟩ := id h
  have hH : Hc (K_now S) a := hH
  have hM : Mc (mcore z) a := hM
  rcases th_cases hI hH hM x1 with ⟨g, hg, rfl, hg1, t1, t2⟩ | ⟨t1, t2⟩
  · rcases num_cases x2 (n := 5) (by decide) with ⟨s, hs, rfl⟩ | hx
    · obtain ⟨w, e1, e2, e3⟩ := asNow_Mx hM
      obtain ⟨w', s1, s2, s3⟩ := Mx_shut e3
      obtain ⟨d', b1, b2⟩ := begin_spec (d := K_drift S) hI hH
      obtain ⟨d2, c1⟩ := ctastes_spec hI hH hg hg1 hs b2.1
      refine ⟨(nI (msk (fun i => shB a g (tgA a g s i)) 7), d2), (nI (msk (fun i => shB a g (tgA a g s i)) 7), w'), ?_, ?_, rfl, h.to rfl (s2.trans e2)⟩
      · unfold f_X8_tastes
        rw [t1, Option.bind_some, if_neg (show ¬ (1 : Int32) = 0 by decide), if_neg (nI_pos (by omega)), if_pos (show nI s < (5 : Int32) from nI_lt hs (by decide)), b1, Option.bind_some]
        exact c1
      · unfold f_X9_tastes
        rw [t2, Option.bind_some, if_neg (show ¬ (1 : Int32) = 0 by decide), show f_X9_in (nI s) 0 4 = some 1 from in_nI (n := 5) hs (by decide), Option.bind_some, if_neg (show ¬ (1 : Int32) = 0 by decide), e1, Option.bind_some, s1, Option.bind_some]
        exact rtastes_spec hI s3 hg hg1 hs
    · refine ⟨(-2, K_drift S), (-2, z), ?_, ?_, rfl, h⟩
      · unfold f_X8_tastes
        rw [t1, Option.bind_some, if_neg (show ¬ (1 : Int32) = 0 by decide)]
        by_cases c : x2 < 0
        · rw [if_pos c]
        · rw [if_neg c, if_neg (show ¬ x2 < (5 : Int32) from Int32.not_lt.mpr (hx.resolve_left c))]
      · unfold f_X9_tastes
        rw [t2, Option.bind_some, if_neg (show ¬ (1 : Int32) = 0 by decide), show f_X9_in x2 0 4 = some 0 from in_no (n := 5) (by decide) (by decide) hx, Option.bind_some, if_pos rfl]
  · refine ⟨(-1, K_drift S), (-1, z), ?_, ?_, rfl, h⟩
    · unfold f_X8_tastes; rw [t1, Option.bind_some, if_pos rfl]
    · unfold f_X9_tastes; rw [t2, Option.bind_some, if_pos rfl]
end
