/-- what the reference does with an event: on with it, or the reason -/
def RevOk (z : MS) (b' : AS) (why ev : Nat) (k : MS → Int32 → Option (Int32 × MS)) (x : Int32) (r : Option (Int32 × MS)) : Prop := (why = 0 → ∃ s', mkeep s' = mkeep z ∧ Mx0 s' b' lo0 ∧ M_events s' = nI (ev + 1) ∧ r = k s' x) ∧ (why ≠ 0 → ∃ s', mkeep s' = mkeep z ∧ M_reason s' = nI why ∧ r = some (nI ev, s'))
theorem j258_ok {z s : MS} {b' : AS} {why ev : Nat} {k : MS → Int32 → Option (Int32 × MS)} {x : Int32} (hk : mkeep s = mkeep z) (hw : why ≤ 6) (hr : M_reason s = nI why) (he : M_events s = nI ev) (hM : why = 0 → Mx0 s b' lo0) : RevOk z b' why ev k x (X9_goParty_J258 k s x) := by
  unfold X9_goParty_J258
  rw [hr, he, nI_1]
  refine ⟨fun h0 => ?_, fun h0 => ?_⟩
  · obtain ⟨s', es⟩ : ∃ y, y = M_set_events s (nI (ev + 1)) := ⟨_, rfl⟩
    obtain ⟨a1, a2, a3, a4⟩ := eev_sx es
    refine ⟨s', a1.trans hk, (hM h0).sc a1 a2, a4, ?_⟩
    rw [if_pos (show nI why ≤ 0 by rw [h0]; decide), ltA_eq, ← es]
  · exact ⟨s, hk, hr, by rw [if_neg (show ¬ nI why ≤ 0 from nI_ge (a := 0) (by omega) (by omega))]⟩
section PR
variable {z : MS} {R n : Nat} {c : Nat → Nat}
theorem rev_spec (hn : n ≤ 60) (hu : M_signs z = nI n) (hs : ∀ j, j < n → M_pad z j = nI (c j) ∧ 33 ≤ c j ∧ c j ≤ 126) {i ev : Nat} {b : AS} {s : MS} (hI : Inv b) (hR : a_R b = R) (hi : i < n) (h : fa R c n (n - i) i 0 = -6) (hk0 : mkeep s = mkeep z) (hM : Mx0 s b lo0) (he : M_events s = nI ev) (k : MS → Int32 → Option (Int32 × MS)) : RevOk z (evA c b i).2.1 (evA c b i).1 ev k (nI (i + (evA c b i).2.2)) (X9_goParty_B11 k s (nI i)) := by
  have hR6 := hI.1.2.1
  have pd : ∀ y : MS, mkeep y = mkeep z → M_pad y = M_pad z := fun y hy => congrArg (fun m => m.2.2.1) hy
  have us : M_signs s = nI n := (congrArg (fun m => m.2.1) hk0).trans hu
  obtain ⟨s1, es1⟩ : ∃ y, y = M_set_reason s 0 := ⟨_, rfl⟩
  obtain ⟨a1, a2, a3, a4⟩ := rev_sx es1
  have k1 := a1.trans hk0
  have hM1 : Mx0 s1 b lo0 := hM.sc a1 a2
  have he1 : M_events s1 = nI ev := a4.trans he
  obtain ⟨ci, ci1, ci2⟩ := hs i hi
  unfold X9_goParty_B11
  rw [us, if_neg (nI_ge hi (by omega)), chk_nI (by omega) (by decide), nI_clamp (by omega), ltA_eq, ← es1, pd s hk0, pd s1 k1, ci]
  have ws : ∀ v : Int32, ∃ y, y = M_set_reason s1 v ∧ mkeep y = mkeep z ∧ Mx0 y b lo0 ∧ M_reason y = v ∧ M_events y = nI ev ∧ M_pad y = M_pad z := by
    intro v
    obtain ⟨y, ey⟩ : ∃ y, y = M_set_reason s1 v := ⟨_, rfl⟩
    obtain ⟨b1, b2, b3, b4⟩ := rev_sx ey
    exact ⟨y, ey, b1.trans k1, hM1.sc b1 b2, b3, b4.trans he1, pd y (b1.trans k1)⟩
  rcases wf_cases hn hi h with ⟨h1, h2⟩ | ⟨h0, h1, h2, h3, h4, h5, h6, h7, h8⟩ | ⟨h0, h1, h2, h3, h4, h5⟩ | ⟨h0, h1, h2, h3, h4, h5, h6, h7⟩
  · obtain ⟨s2, gn, p1, p2, p3⟩ := pass_spec hI (Lo0 b) hM1
    obtain ⟨r1, r2⟩ := rvx (pass_rest p1)
    rw [evA_1 b h1, if_pos (show nI (c i) = (46 : Int32) by rw [h1]; rfl), p1, Option.bind_some, nI_1]
    exact j258_ok (p2.trans k1) (Nat.le_of_ble_eq_true rfl) (r1.trans a3) (r2.trans he1) (fun _ => p3.to0)
  · have n46 : ¬ nI (c i) = (46 : Int32) := fun q => h0 ((nI_eq (by omega) (b := 46) (by decide)).mp q)
    have g1 := isG_b h1
    have g2 := isG_b h3
    have e1 : nI (c i) - (65 : Int32) = nI (c i - 65) := pk_sub (b := 65) g1.1
    have e2 : nI (c (i + 1)) - (65 : Int32) = nI (c (i + 1) - 65) := pk_sub (b := 65) g2.1
    have e3 : nI (c (i + 2)) - (48 : Int32) = nI (c (i + 2) - 48) := pk_sub (b := 48) (by omega)
    have x1 : nI i + (2 : Int32) = nI (i + 2) := nI_add i 2
    have x3 : nI i + (3 : Int32) = nI (i + 3) := nI_add i 3
    have hw3 := wnt_le b (c i - 65) (c (i + 1) - 65)
    have hni : f_X9_in (nI (c i)) 97 102 = some 0 := by
      rw [show (97 : Int32) = nI 97 from rfl, show (102 : Int32) = nI 102 from rfl, inb (by omega) (by decide) (by decide), if_neg (by omega)]
    have hni2 : f_X9_in (nI (c (i + 1))) 65 72 = some 1 := by
      rw [show (65 : Int32) = nI 65 from rfl, show (72 : Int32) = nI 72 from rfl, inb (by omega) (by decide) (by decide), if_pos (by omega)]
    obtain ⟨y, ey, y1, y2, y3, y4, y5⟩ := ws (nI (wnt b (c i - 65) (c (i + 1) - 65)))
    rw [evA_2 b h0 h1 h3, if_neg n46, hni, Option.bind_some, if_pos rfl, nI_1, chk_nI (by omega) (by decide), nI_clamp (by omega), (hs _ h2).1, hni2, Option.bind_some, if_neg (by decide), chk_nI (by omega) (by decide), e1, e2, rwnt_spec hI hM1.1 (by omega) (by omega), Option.bind_some, ltA_eq, ← ey, y3, y5]
    unfold X9_goParty_J206
    rw [x3]
    by_cases cw : wnt b (c i - 65) (c (i + 1) - 65) = 0
    · obtain ⟨s2, t1, t2, t3, t4⟩ := rtalk2_spec (l := c (i + 2) - 48) y2 (show c i - 65 < 8 by omega) (show c (i + 1) - 65 < 8 by omega) (by omega)
      obtain ⟨r1, r2⟩ := rvx t4
      rw [if_pos (show nI (wnt b (c i - 65) (c (i + 1) - 65)) = 0 by rw [cw]; rfl), chk_nI (by omega) (by decide), x1, chk_nI (by omega) (by decide), nI_clamp (by omega), (hs _ h2).1, (hs _ h5).1, e2, e3, t1, Option.bind_some]
      exact j258_ok (t2.trans y1) (by show wnt b _ _ ≤ 6; omega) (r1.trans y3) (r2.trans y4) (fun _ => t3)
    · rw [if_neg (show ¬ nI (wnt b (c i - 65) (c (i + 1) - 65)) = 0 from fun q => cw ((nI_eq (by omega) (b := 0) (by decide)).mp q))]
      exact j258_ok y1 (by show wnt b _ _ ≤ 6; omega) y3 y4 (fun q => absurd q cw)
  · have n46 : ¬ nI (c i) = (46 : Int32) := fun q => h0 ((nI_eq (by omega) (b := 46) (by decide)).mp q)
    have g1 := isG_b h1
    have hc1 := (hs _ h2).2
    have e1 : nI (c i) - (65 : Int32) = nI (c i - 65) := pk_sub (b := 65) g1.1
    have x1 : nI i + (2 : Int32) = nI (i + 2) := nI_add i 2
    have hw6 := wd_le b (c i - 65) (c (i + 1))
    have hni : f_X9_in (nI (c i)) 97 102 = some 0 := by
      rw [show (97 : Int32) = nI 97 from rfl, show (102 : Int32) = nI 102 from rfl, inb (by omega) (by decide) (by decide), if_neg (by omega)]
    have hni2 : f_X9_in (nI (c (i + 1))) 65 72 = some 0 := by
      rw [show (65 : Int32) = nI 65 from rfl, show (72 : Int32) = nI 72 from rfl, inb (by omega) (by decide) (by decide), if_neg (fun q => by unfold isG at h3; simp [q.1, q.2] at h3)]
    obtain ⟨y, ey, y1, y2, y3, y4, y5⟩ := ws (nI (wdA b (c i - 65) (c (i + 1))))
    have h4' : c (i + 1) = 95 ∨ c (i + 1) = 94 ∨ isL (a_R b) (c (i + 1)) = true := by rw [hR]; exact h4
    rw [evA_3 b h0 h1 h3, if_neg n46, hni, Option.bind_some, if_pos rfl, nI_1, chk_nI (by omega) (by decide), nI_clamp (by omega), (hs _ h2).1, hni2, Option.bind_some, if_pos rfl, chk_nI (by omega) (by decide), e1, rwd_spec hI hM1.1 (by omega) h4', Option.bind_some, ltA_eq, ← ey, y3, y5, (hs _ h2).1]
    unfold X9_goParty_J255
    rw [x1]
    by_cases cw : wdA b (c i - 65) (c (i + 1)) = 0
    · obtain ⟨s2, t1, t2, t3, t4⟩ := ract_spec hI y2 (g := c i - 65) (by omega) h4' cw
      obtain ⟨r1, r2⟩ := rvx t4
      rw [if_pos (show nI (wdA b (c i - 65) (c (i + 1))) = 0 by rw [cw]; rfl), chk_nI (by omega) (by decide), t1, Option.bind_some]
      exact j258_ok (t2.trans y1) hw6 (r1.trans y3) (r2.trans y4) (fun _ => t3)
    · rw [if_neg (show ¬ nI (wdA b (c i - 65) (c (i + 1))) = 0 from fun q => cw ((nI_eq (by omega) (b := 0) (by decide)).mp q))]
      exact j258_ok y1 hw6 y3 y4 (fun q => absurd q cw)
  · have n46 : ¬ nI (c i) = (46 : Int32) := fun q => h0 ((nI_eq (by omega) (b := 46) (by decide)).mp q)
    have g1 := isL_b h2
    have g2 := isL_b h4
    have hi1 : i + 1 < n := by omega
    have e1 : nI (c i) - (97 : Int32) = nI (c i - 97) := pk_sub (b := 97) g1.1
    have e2 : nI (c (i + 1)) - (97 : Int32) = nI (c (i + 1) - 97) := pk_sub (b := 97) g2.1
    have e3 : nI (c (i + 2)) - (48 : Int32) = nI (c (i + 2) - 48) := pk_sub (b := 48) (by omega)
    have x1 : nI i + (2 : Int32) = nI (i + 2) := nI_add i 2
    have x3 : nI i + (3 : Int32) = nI (i + 3) := nI_add i 3
    have hw6 : wnc b (c i - 97) (c (i + 1) - 97) (c (i + 2) - 48) ≤ 6 := by rcases wnc_or b (c i - 97) (c (i + 1) - 97) (c (i + 2) - 48) with q | q <;> omega
    have hni : f_X9_in (nI (c i)) 97 102 = some 1 := by
      rw [show (97 : Int32) = nI 97 from rfl, show (102 : Int32) = nI 102 from rfl, inb (by omega) (by decide) (by decide), if_pos (by omega)]
    obtain ⟨y, ey, y1, y2, y3, y4, y5⟩ := ws (nI (wnc b (c i - 97) (c (i + 1) - 97) (c (i + 2) - 48)))
    rw [evA_4 b h0 h1, if_neg n46, hni, Option.bind_some, if_neg (by decide), x1, nI_1, chk_nI (by omega) (by decide), chk_nI (by omega) (by decide), nI_clamp (by omega), nI_clamp (by omega), (hs _ hi1).1, (hs _ h3).1, e1, e2, e3, rwnc_spec hI hM1.1 (by omega) (by omega) (by omega), Option.bind_some, ltA_eq, ← ey, y3, y5, (hs _ hi1).1, e2]
    unfold X9_goParty_J122
    rw [x3]
    by_cases cw : wnc b (c i - 97) (c (i + 1) - 97) (c (i + 2) - 48) = 0
    · obtain ⟨s2, t1, t2, t3, t4⟩ := rcarry_spec y2 (show c i - 97 < 6 by omega) (show c (i + 1) - 97 < 6 by omega) (show c (i + 2) - 48 < 4 by omega) cw
      obtain ⟨r1, r2⟩ := rvx t4
      rw [if_pos (show nI (wnc b (c i - 97) (c (i + 1) - 97) (c (i + 2) - 48)) = 0 by rw [cw]; rfl), chk_nI (by omega) (by decide), t1, Option.bind_some]
      exact j258_ok (t2.trans y1) hw6 (r1.trans y3) (r2.trans y4) (fun _ => t3)
    · rw [if_neg (show ¬ nI (wnc b (c i - 97) (c (i + 1) - 97) (c (i + 2) - 48)) = 0 from fun q => cw ((nI_eq (by omega) (b := 0) (by decide)).mp q))]
      exact j258_ok y1 hw6 y3 y4 (fun q => absurd q cw)
theorem rplay_spec (hn : n ≤ 60) (hu : M_signs z = nI n) (hs : ∀ j, j < n → M_pad z j = nI (c j) ∧ 33 ≤ c j ∧ c j ≤ 126) : ∀ N f i ev (b : AS) (s : MS), n - i < f → n - i < N → i ≤ n + 3 → Inv b → a_R b = R → (i < n → fa R c n (n - i) i 0 = -6) → mkeep s = mkeep z → Mx0 s b lo0 → M_events s = nI ev → ∃ s', it X9_goParty_B11 (fun _ _ => none) N s (nI i) = some (if (plA c n f i b ev).1 = 0 then -6 else nI (plA c n f i b ev).2.2, s') ∧ mkeep s' = mkeep z ∧ ((plA c n f i b ev).1 = 0 → Mx0 s' (plA c n f i b ev).2.1 lo0 ∧ M_events s' = nI (plA c n f i b ev).2.2) ∧ ((plA c n f i b ev).1 ≠ 0 → M_reason s' = nI (plA c n f i b ev).1) := by
  intro N
  induction N with
  | zero => intro f i ev b s h1 h2; omega
  | succ N ih =>
    intro f i ev b s h1 h2 h4 hI hR hf hk hM he
    obtain ⟨f, rfl⟩ : ∃ g, f = g + 1 := ⟨f - 1, by omega⟩
    rw [it_s]
    by_cases c1 : n ≤ i
    · have e : plA c n (f + 1) i b ev = (0, b, ev) := by rw [plA_s, if_pos c1]
      rw [e]
      have us : M_signs s = nI n := (congrArg (fun m => m.2.1) hk).trans hu
      refine ⟨s, ?_, hk, fun _ => ⟨hM, he⟩, fun h => absurd rfl h⟩
      unfold X9_goParty_B11
      rw [us, if_pos (nI_le c1 (by omega))]; rfl
    · have hi : i < n := by omega
      obtain ⟨o1, o2, o3⟩ := ev_ok hI hR hn hi (hf hi)
      obtain ⟨p1, p2⟩ := rev_spec hn hu hs hI hR hi (hf hi) hk hM he (it X9_goParty_B11 (fun _ _ => none) N)
      by_cases c2 : (evA c b i).1 = 0
      · obtain ⟨q1, q2, q3⟩ := o3 c2
        obtain ⟨s', r1, r2, r3, r4⟩ := p1 c2
        have e : plA c n (f + 1) i b ev = plA c n f (i + (evA c b i).2.2) (evA c b i).2.1 (ev + 1) := by rw [plA_s, if_neg c1, if_neg (fun h => h c2)]
        rw [e, r4]
        have hle : i + (evA c b i).2.2 ≤ n + 3 := by
          have : (evA c b i).2.2 ≤ 3 := by unfold evA; repeat' split
                                           all_goals exact Nat.le_of_ble_eq_true rfl
          omega
        exact ih f (i + (evA c b i).2.2) (ev + 1) (evA c b i).2.1 s' (by omega) (by omega) hle q1 q2 (fun _ => q3) r1 r2 r3
      · obtain ⟨s', r1, r2, r3⟩ := p2 c2
        have e : plA c n (f + 1) i b ev = ((evA c b i).1, b, ev) := by rw [plA_s, if_neg c1, if_pos c2]
        rw [e, r3]
        exact ⟨s', by rw [if_neg c2], r1, fun h => absurd h c2, fun _ => r2⟩
end PR
