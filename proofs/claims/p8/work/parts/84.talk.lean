/-! two begin to talk -/
theorem eng_is (a : AS) (g b : Nat) (m : Int) (l j : Nat) : a_is (eng a g b m l) j = a_is a j := rfl
theorem eng_in (a : AS) (g b : Nat) (m : Int) (l r : Nat) : a_in (eng a g b m l) r = a_in a r := rfl
def tkk (b : AS) (g q l : Nat) : AS := eng (eng b g 1 (q : Int) l) q 1 (g : Int) l
theorem tkk_R (b : AS) (g q l : Nat) : a_R (tkk b g q l) = a_R b := rfl
theorem tkk_T (b : AS) (g q l : Nat) : a_T (tkk b g q l) = a_T b := rfl
theorem tkk_k (b : AS) (g q l : Nat) : a_k (tkk b g q l) = a_k b := rfl
theorem tkk_th (b : AS) (g q l : Nat) : a_th (tkk b g q l) = a_th b := rfl
theorem tkk_sz (b : AS) (g q l : Nat) : a_sz (tkk b g q l) = a_sz b := rfl
theorem tkk_ch (b : AS) (g q l : Nat) : a_ch (tkk b g q l) = a_ch b := rfl
theorem tkk_wd (b : AS) (g q l : Nat) : a_wd (tkk b g q l) = a_wd b := rfl
theorem tkk_lk (b : AS) (g q l : Nat) : a_lk (tkk b g q l) = a_lk b := rfl
theorem tkk_pl (b : AS) (g q l : Nat) : a_pl (tkk b g q l) = a_pl b := rfl
theorem tkk_sg (b : AS) (g q l : Nat) : a_sg (tkk b g q l) = a_sg b := rfl
theorem tkk_sr (b : AS) (g q l : Nat) : a_sr (tkk b g q l) = a_sr b := rfl
theorem tkk_is (b : AS) (g q l j : Nat) : a_is (tkk b g q l) j = a_is b j := rfl
theorem tkk_in (b : AS) (g q l r : Nat) : a_in (tkk b g q l) r = a_in b r := rfl
theorem tkk_bs (b : AS) (g q l j : Nat) : a_bs (tkk b g q l) j = if j = q then 1 else if j = g then 1 else a_bs b j := rfl
theorem tkk_mt (b : AS) (g q l j : Nat) : a_mt (tkk b g q l) j = if j = q then (g : Int) else if j = g then (q : Int) else a_mt b j := rfl
theorem tkk_lf (b : AS) (g q l j : Nat) : a_lf (tkk b g q l) j = if j = q then l else if j = g then l else a_lf b j := rfl
theorem Inv_tkk {b : AS} (hI : Inv b) {g q l : Nat} (hg : g < 8) (hq : q < 8) (ig : a_is b g = true) (iq : a_is b q = true) (bg : a_bs b g = 0) (bq : a_bs b q = 0) (hgq : g ≠ q) (h1 : 1 ≤ l) (h9 : l ≤ 9) : Inv (tkk b g q l) := by
  obtain ⟨i1, i2, i3, i4, i5, i6, i7, i8, i9, i10, i11⟩ := id hI
  unfold Inv
  simp only [tkk_R, tkk_T, tkk_k, tkk_th, tkk_sz, tkk_ch, tkk_wd, tkk_lk, tkk_pl, tkk_sg, tkk_sr, tkk_is, tkk_in, tkk_bs, tkk_mt, tkk_lf]
  refine ⟨i1, i2, i3, i4, ?_, ?_, ?_, ?_, ?_, i10, i11⟩
  · intro j hj e
    have n1 : j ≠ q := fun h => by rw [h, iq] at e; cases e
    have n2 : j ≠ g := fun h => by rw [h, ig] at e; cases e
    rw [if_neg n1, if_neg n2]; exact i5 j hj e
  · intro j hj e
    obtain ⟨q1, q2, q3⟩ := i6 j hj e
    exact ⟨q1, by split; decide; split; decide; exact q2, q3⟩
  · intro j hj e
    have n1 : j ≠ q := fun h => by rw [if_pos h] at e; omega
    have n2 : j ≠ g := fun h => by rw [if_neg n1, if_pos h] at e; omega
    rw [if_neg n1, if_neg n2] at e ⊢
    rw [if_neg n1, if_neg n2]; exact i7 j hj e
  · intro j hj e
    by_cases c1 : j = q
    · rw [if_pos c1, if_pos c1]
      refine ⟨g, hg, by omega, rfl, ig, ?_, ?_, ?_, h1, h9⟩
      · rw [if_neg hgq, if_pos rfl]
      · rw [if_neg hgq, if_pos rfl, c1]
      · rw [if_neg hgq, if_pos rfl]
    · by_cases c2 : j = g
      · rw [if_neg c1, if_neg c1, if_pos c2, if_pos c2]
        refine ⟨q, hq, by omega, rfl, iq, ?_, ?_, ?_, h1, h9⟩
        · rw [if_pos rfl]
        · rw [if_pos rfl, c2]
        · rw [if_pos rfl]
      · rw [if_neg c1, if_neg c2] at e
        rw [if_neg c1, if_neg c1, if_neg c2, if_neg c2]
        obtain ⟨i, k1, k2, k3, k4, k5, k6, k7⟩ := i8 j hj e
        have n1 : i ≠ q := fun h => by rw [h] at k5; omega
        have n2 : i ≠ g := fun h => by rw [h] at k5; omega
        refine ⟨i, k1, k2, k3, k4, ?_, ?_, ?_⟩
        · rw [if_neg n1, if_neg n2]; exact k5
        · rw [if_neg n1, if_neg n2]; exact k6
        · rw [if_neg n1, if_neg n2]; exact k7
  · intro j hj e
    have n1 : j ≠ q := fun h => by rw [if_pos h] at e; omega
    have n2 : j ≠ g := fun h => by rw [if_neg n1, if_pos h] at e; omega
    rw [if_neg n1, if_neg n2] at e
    rw [if_neg n1, if_neg n2, if_neg n1, if_neg n2]; exact i9 j hj e
theorem ctalk_spec {h : HS} {b : AS} (hH : Hc h b) {g q l : Nat} (hg : g < 8) (hq : q < 8) : ∃ h', f_X1_talk h (nI g) (nI q) (nI l) = some h' ∧ Hc h' (tkk b g q l) := by
  have h1 : Hc (hEng h g 1 (nI q) (nI l)) (eng b g 1 (q : Int) l) := Hc_eng' hH rfl (oI_nat q).symm rfl
  have h2 : Hc (hEng (hEng h g 1 (nI q) (nI l)) q 1 (nI g) (nI l)) (eng (eng b g 1 (q : Int) l) q 1 (g : Int) l) := Hc_eng' h1 rfl (oI_nat g).symm rfl
  refine ⟨hEng (hEng h g 1 (nI q) (nI l)) q 1 (nI g) (nI l), ?_, h2⟩
  unfold f_X1_talk
  rw [engage_spec _ hg, Option.bind_some, engage_spec _ hq, Option.bind_some]
theorem Mx0.now {w w' : MS} {b b' : AS} {lo : Nat → Nat → Bool} (h : Mx0 w b lo) (hm : Mc (mnow w') b') (e : M_loose w' = M_loose w) : Mx0 w' b' lo := ⟨hm, fun r q hr hq => by rw [e]; exact h.2 r q hr hq⟩
theorem rtalk2_spec {w : MS} {b : AS} {lo : Nat → Nat → Bool} (hM : Mx0 w b lo) {g q l : Nat} (hg : g < 8) (hq : q < 8) (hgq : g ≠ q) : ∃ w', f_X9_talk w (nI g) (nI q) (nI l) = some w' ∧ mkeep w' = mkeep w ∧ Mx0 w' (tkk b g q l) lo ∧ mrest w' = mrest w := by
  obtain ⟨y1, ey1⟩ : ∃ x, x = M_set_busyNow w (upd (M_busyNow w) g 1) := ⟨_, rfl⟩
  obtain ⟨a1, b1, c1⟩ := sx_busyNow ey1
  obtain ⟨y2, ey2⟩ : ∃ x, x = M_set_busyNow y1 (upd (M_busyNow y1) q 1) := ⟨_, rfl⟩
  obtain ⟨a2, b2, c2⟩ := sx_busyNow ey2
  obtain ⟨y3, ey3⟩ : ∃ x, x = M_set_withNow y2 (upd (M_withNow y2) g (nI q)) := ⟨_, rfl⟩
  obtain ⟨a3, b3, c3⟩ := sx_withNow ey3
  obtain ⟨y4, ey4⟩ : ∃ x, x = M_set_withNow y3 (upd (M_withNow y3) q (nI g)) := ⟨_, rfl⟩
  obtain ⟨a4, b4, c4⟩ := sx_withNow ey4
  obtain ⟨y5, ey5⟩ : ∃ x, x = M_set_leftNow y4 (upd (M_leftNow y4) g (nI l)) := ⟨_, rfl⟩
  obtain ⟨a5, b5, c5⟩ := sx_leftNow ey5
  obtain ⟨y6, ey6⟩ : ∃ x, x = M_set_leftNow y5 (upd (M_leftNow y5) q (nI l)) := ⟨_, rfl⟩
  obtain ⟨a6, b6, c6⟩ := sx_leftNow ey6
  have kk := ((((a6.trans a5).trans a4).trans a3).trans a2).trans a1
  have f1 : M_busyNow y1 = upd (M_busyNow w) g 1 := congrArg (fun m => m.2.1) b1
  have f2 : M_busyNow y2 = upd (M_busyNow y1) q 1 := congrArg (fun m => m.2.1) b2
  have f3 : M_withNow y2 = M_withNow w := (congrArg (fun m => m.2.2.1) b2).trans (congrArg (fun m => m.2.2.1) b1)
  have f4 : M_withNow y3 = upd (M_withNow y2) g (nI q) := congrArg (fun m => m.2.2.1) b3
  have f5 : M_withNow y4 = upd (M_withNow y3) q (nI g) := congrArg (fun m => m.2.2.1) b4
  have f6 : M_leftNow y4 = M_leftNow w := (((congrArg (fun m => m.2.2.2.1) b4).trans (congrArg (fun m => m.2.2.2.1) b3)).trans (congrArg (fun m => m.2.2.2.1) b2)).trans (congrArg (fun m => m.2.2.2.1) b1)
  have f7 : M_leftNow y5 = upd (M_leftNow y4) g (nI l) := congrArg (fun m => m.2.2.2.1) b5
  have f8 : M_leftNow y6 = upd (M_leftNow y5) q (nI l) := congrArg (fun m => m.2.2.2.1) b6
  have g1 : M_at y6 = M_at w := (((((congrArg (fun m => m.1) b6).trans (congrArg (fun m => m.1) b5)).trans (congrArg (fun m => m.1) b4)).trans (congrArg (fun m => m.1) b3)).trans (congrArg (fun m => m.1) b2)).trans (congrArg (fun m => m.1) b1)
  have g2 : M_busyNow y6 = upd (upd (M_busyNow w) g 1) q 1 := by
    have : M_busyNow y6 = M_busyNow y2 := (((congrArg (fun m => m.2.1) b6).trans (congrArg (fun m => m.2.1) b5)).trans (congrArg (fun m => m.2.1) b4)).trans (congrArg (fun m => m.2.1) b3)
    rw [this, f2, f1]
  have g3 : M_withNow y6 = upd (upd (M_withNow w) g (nI q)) q (nI g) := by
    have : M_withNow y6 = M_withNow y4 := (congrArg (fun m => m.2.2.1) b6).trans (congrArg (fun m => m.2.2.1) b5)
    rw [this, f5, f4, f3]
  have g4 : M_leftNow y6 = upd (upd (M_leftNow w) g (nI l)) q (nI l) := by rw [f8, f7, f6]
  have g5 : M_thingsNow y6 = M_thingsNow w := (((((congrArg (fun m => m.2.2.2.2.1) b6).trans (congrArg (fun m => m.2.2.2.2.1) b5)).trans (congrArg (fun m => m.2.2.2.2.1) b4)).trans (congrArg (fun m => m.2.2.2.2.1) b3)).trans (congrArg (fun m => m.2.2.2.2.1) b2)).trans (congrArg (fun m => m.2.2.2.2.1) b1)
  have g6 : M_loose y6 = M_loose w := (((((congrArg (fun m => m.2.2.2.2.2.1) b6).trans (congrArg (fun m => m.2.2.2.2.2.1) b5)).trans (congrArg (fun m => m.2.2.2.2.2.1) b4)).trans (congrArg (fun m => m.2.2.2.2.2.1) b3)).trans (congrArg (fun m => m.2.2.2.2.2.1) b2)).trans (congrArg (fun m => m.2.2.2.2.2.1) b1)
  refine ⟨y6, ?_, kk, hM.now (Mc_now kk hM.1 rfl rfl rfl rfl rfl rfl rfl rfl (fun r s hr hs => by rw [g5]; exact gt_th hM.1 hr hs) (fun _ _ _ _ _ => rfl) (fun j hj hi => ?_)) g6, ((((c6.trans c5).trans c4).trans c3).trans c2).trans c1⟩
  · unfold f_X9_talk
    rw [chk_nI hg (by decide), nI_clamp (by omega), ltA_eq, ← ey1, chk_nI hq (by decide), nI_clamp (by omega), ltA_eq, ← ey2, chk_nI hg (by decide), ltA_eq, ← ey3, chk_nI hq (by decide), ltA_eq, ← ey4, chk_nI hg (by decide), ltA_eq, ← ey5, chk_nI hq (by decide), ltA_eq, ← ey6]
  · rw [g1, g2, g3, g4]
    simp only [tkk_pl, tkk_bs, tkk_mt, tkk_lf]
    obtain ⟨p1, p2, p3, p4⟩ := gt_now hM.1 hj hi
    by_cases d1 : j = q
    · rw [if_pos d1, if_pos d1, if_pos d1, d1, pk_us, pk_us, pk_us]
      exact ⟨by rw [← d1]; exact p1, rfl, rfl, fun _ => rfl⟩
    · rw [if_neg d1, if_neg d1, if_neg d1, pk_un d1, pk_un d1, pk_un d1]
      by_cases d2 : j = g
      · rw [if_pos d2, if_pos d2, if_pos d2, d2, pk_us, pk_us, pk_us]
        exact ⟨by rw [← d2]; exact p1, rfl, rfl, fun _ => rfl⟩
      · rw [if_neg d2, if_neg d2, if_neg d2, pk_un d2, pk_un d2, pk_un d2]
        exact ⟨p1, p2, p3, p4⟩
/-- why two can't talk -/
def wnt (b : AS) (g q : Nat) : Nat := if ¬ (a_is b g = true ∧ a_is b q = true) then 1 else if ¬ (a_bs b g = 0 ∧ a_bs b q = 0) then 2 else if ¬ a_pl b g = a_pl b q then 3 else 0
theorem cwnt_spec {h : HS} {b : AS} (hI : Inv b) (hH : Hc h b) {g q : Nat} (hg : g < 8) (hq : q < 8) : f_X1_whyNotTalk h (nI g) (nI q) = some (nI (wnt b g q)) := by
  have b1 := bs_lt hI hg
  have b2 := bs_lt hI hq
  have p1 := pl_lt hI hg
  have p2 := pl_lt hI hq
  obtain ⟨e1, e2, -⟩ := hH.2.2.2.2.2.1 g hg
  obtain ⟨e3, e4, -⟩ := hH.2.2.2.2.2.1 q hq
  unfold f_X1_whyNotTalk wnt
  rw [th_at hI hH hg, th_at hI hH hq, Option.bind_some, Option.bind_some, chk_nI hg (by decide), chk_nI hq (by decide), chk_nI hg (by decide), chk_nI hq (by decide), nI_clamp (by omega), nI_clamp (by omega), e1, e2, e3, e4]
  simp only [b10]
  simp (disch := omega) only [s_lit, p_eq]
  cases a_is b g <;> cases a_is b q <;> by_cases c1 : a_bs b g = 0 <;> by_cases c2 : a_bs b q = 0 <;> by_cases c3 : a_pl b g = a_pl b q <;> simp [c1, c2, c3]
theorem isTh_now {w : MS} {b : AS} (hI : Inv b) (hM : Mc (mnow w) b) {g : Nat} (hg : g < 8) : f_X9_isThere w (nI g) = some (if a_is b g then 1 else 0) := by
  have hT := hI.1.2.2.1
  have et : M_there w = nI (a_T b) := hM.2.1
  unfold f_X9_isThere
  rw [show f_X9_in (nI g) 0 7 = some 1 from in_nI (n := 8) hg (by decide), Option.bind_some, if_neg (by decide), et, has_b hT hg, Option.bind_some]
  unfold a_is
  cases (a_T b).testBit g <;> rfl
theorem rwnt_spec {w : MS} {b : AS} (hI : Inv b) (hM : Mc (mnow w) b) {g q : Nat} (hg : g < 8) (hq : q < 8) : f_X9_whyNotTalk w (nI g) (nI q) = some (nI (wnt b g q)) := by
  have b1 := bs_lt hI hg
  have b2 := bs_lt hI hq
  have p1 := pl_lt hI hg
  have p2 := pl_lt hI hq
  unfold f_X9_whyNotTalk X9_whyNotTalk_J16 X9_whyNotTalk_J36 f_X9_isBusy wnt
  rw [isTh_now hI hM hg, isTh_now hI hM hq, Option.bind_some, Option.bind_some]
  cases i1 : a_is b g
  · simp only [b10]; simp; rfl
  · cases i2 : a_is b q
    · simp only [b10]; simp; rfl
    · obtain ⟨e1, e2, -⟩ := gt_now hM hg i1
      obtain ⟨e3, e4, -⟩ := gt_now hM hq i2
      simp only [b10, if_true, chk_nI hg (show 8 < 2 ^ 31 by decide), chk_nI hq (show 8 < 2 ^ 31 by decide), nI_clamp (show g < 2 ^ 31 by omega), nI_clamp (show q < 2 ^ 31 by omega), e1, e2, e3, e4]
      simp (disch := omega) only [s_lit, p_eq, p_le]
      by_cases c1 : a_bs b g = 0 <;> by_cases c2 : a_bs b q = 0 <;> by_cases c3 : a_pl b g = a_pl b q <;> simp [c1, c2, c3, s_lit, p_eq]
