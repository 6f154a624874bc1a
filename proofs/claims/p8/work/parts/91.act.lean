theorem act26_spec {w : MS} {b : AS} {lo : Nat → Nat → Bool} (hM : Mx0 w b lo) {g t : Nat} (hg : g < 8) (ht : t < 8) (ho : ∀ j, j < 8 → offp b g j = (j == g || j == t)) : ∃ w', X9_act_J26 w (nI g) (nI t) = some w' ∧ mkeep w' = mkeep w ∧ Mx0 w' (rs b g) lo ∧ mrest w' = mrest w := by
  obtain ⟨y1, ey1⟩ : ∃ x, x = M_set_busyNow w (upd (M_busyNow w) t 0) := ⟨_, rfl⟩
  obtain ⟨a1, b1, c1⟩ := sx_busyNow ey1
  obtain ⟨y2, ey2⟩ : ∃ x, x = M_set_leftNow y1 (upd (M_leftNow y1) t 0) := ⟨_, rfl⟩
  obtain ⟨a2, b2, c2⟩ := sx_leftNow ey2
  obtain ⟨y3, ey3⟩ : ∃ x, x = M_set_busyNow y2 (upd (M_busyNow y2) g 0) := ⟨_, rfl⟩
  obtain ⟨a3, b3, c3⟩ := sx_busyNow ey3
  obtain ⟨y4, ey4⟩ : ∃ x, x = M_set_leftNow y3 (upd (M_leftNow y3) g 0) := ⟨_, rfl⟩
  obtain ⟨a4, b4, c4⟩ := sx_leftNow ey4
  have kk := ((a4.trans a3).trans a2).trans a1
  have f1 : M_busyNow y1 = upd (M_busyNow w) t 0 := congrArg (fun m => m.2.1) b1
  have f2 : M_busyNow y2 = M_busyNow y1 := congrArg (fun m => m.2.1) b2
  have f3 : M_busyNow y3 = upd (M_busyNow y2) g 0 := congrArg (fun m => m.2.1) b3
  have f4 : M_busyNow y4 = M_busyNow y3 := congrArg (fun m => m.2.1) b4
  have l1 : M_leftNow y1 = M_leftNow w := congrArg (fun m => m.2.2.2.1) b1
  have l2 : M_leftNow y2 = upd (M_leftNow y1) t 0 := congrArg (fun m => m.2.2.2.1) b2
  have l3 : M_leftNow y3 = M_leftNow y2 := congrArg (fun m => m.2.2.2.1) b3
  have l4 : M_leftNow y4 = upd (M_leftNow y3) g 0 := congrArg (fun m => m.2.2.2.1) b4
  have g1 : M_at y4 = M_at w := (((congrArg (fun m => m.1) b4).trans (congrArg (fun m => m.1) b3)).trans (congrArg (fun m => m.1) b2)).trans (congrArg (fun m => m.1) b1)
  have g3 : M_withNow y4 = M_withNow w := (((congrArg (fun m => m.2.2.1) b4).trans (congrArg (fun m => m.2.2.1) b3)).trans (congrArg (fun m => m.2.2.1) b2)).trans (congrArg (fun m => m.2.2.1) b1)
  have g5 : M_thingsNow y4 = M_thingsNow w := (((congrArg (fun m => m.2.2.2.2.1) b4).trans (congrArg (fun m => m.2.2.2.2.1) b3)).trans (congrArg (fun m => m.2.2.2.2.1) b2)).trans (congrArg (fun m => m.2.2.2.2.1) b1)
  have g6 : M_loose y4 = M_loose w := (((congrArg (fun m => m.2.2.2.2.2.1) b4).trans (congrArg (fun m => m.2.2.2.2.2.1) b3)).trans (congrArg (fun m => m.2.2.2.2.2.1) b2)).trans (congrArg (fun m => m.2.2.2.2.2.1) b1)
  have eis : ∀ j, a_is (rs b g) j = a_is b j := fun _ => rfl
  refine ⟨y4, ?_, kk, hM.now (Mc_now kk hM.1 (rs_R b g) (rs_T b g) (rs_k b g) (rs_sz b g) (rs_ch b g) (rs_wd b g) (rs_sg b g) (rs_sr b g) (fun r s hr hs => by rw [g5, rs_th]; exact gt_th hM.1 hr hs) (fun j k _ _ _ => by unfold lkf; rw [rs_lk]) (fun j hj hi => ?_)) g6, ((c4.trans c3).trans c2).trans c1⟩
  · unfold X9_act_J26
    rw [chk_nI ht (by decide), nI_clamp (by omega), ltA_eq, ← ey1, chk_nI ht (by decide), ltA_eq, ← ey2, chk_nI hg (by decide), nI_clamp (by omega), ltA_eq, ← ey3, chk_nI hg (by decide), ltA_eq, ← ey4]
  · rw [g1, g3, f4, f3, f2, f1, l4, l3, l2, l1]
    simp only [rs_pl, rs_bs, rs_mt, rs_lf, ho j hj]
    obtain ⟨p1, p2, p3, p4⟩ := gt_now hM.1 hj hi
    by_cases d1 : j = g
    · rw [d1, pk_us, pk_us]; simp; rw [← d1]; exact ⟨p1, rfl⟩
    · rw [pk_un d1, pk_un d1]
      by_cases d2 : j = t
      · rw [d2, pk_us, pk_us]; simp; rw [← d2]; exact ⟨p1, rfl⟩
      · rw [pk_un d2, pk_un d2]; simp [d1, d2]; exact ⟨p1, p2, p3, p4⟩
theorem act74_spec {w : MS} {b : AS} {lo : Nat → Nat → Bool} (hI : Inv b) (hM : Mx0 w b lo) {g n : Nat} {m : Int} {x : Int32} {x2 : Int32} (hg : g < 8) (bg : a_bs b g = 0) (hx : x = nI n) (hmm : (if x2 = 95 then (-6 : Int32) else x2 - 97) = Int32.ofInt m) : ∃ w', X9_act_J74 w (nI g) x2 x (nI g) = some w' ∧ mkeep w' = mkeep w ∧ Mx0 w' (eng b g n m 0) lo ∧ mrest w' = mrest w := by
  obtain ⟨y1, ey1⟩ : ∃ y, y = M_set_busyNow w (upd (M_busyNow w) g x) := ⟨_, rfl⟩
  obtain ⟨a1, b1, c1⟩ := sx_busyNow ey1
  obtain ⟨y2, ey2⟩ : ∃ y, y = M_set_withNow y1 (upd (M_withNow y1) g (if x2 = 95 then (-6 : Int32) else x2 - 97)) := ⟨_, rfl⟩
  obtain ⟨a2, b2, c2⟩ := sx_withNow ey2
  have kk := a2.trans a1
  have f1 : M_busyNow y2 = upd (M_busyNow w) g x := (congrArg (fun m => m.2.1) b2).trans (congrArg (fun m => m.2.1) b1)
  have f2 : M_withNow y1 = M_withNow w := congrArg (fun m => m.2.2.1) b1
  have f3 : M_withNow y2 = upd (M_withNow y1) g (if x2 = 95 then (-6 : Int32) else x2 - 97) := congrArg (fun m => m.2.2.1) b2
  have g1 : M_at y2 = M_at w := (congrArg (fun m => m.1) b2).trans (congrArg (fun m => m.1) b1)
  have g4 : M_leftNow y2 = M_leftNow w := (congrArg (fun m => m.2.2.2.1) b2).trans (congrArg (fun m => m.2.2.2.1) b1)
  have g5 : M_thingsNow y2 = M_thingsNow w := (congrArg (fun m => m.2.2.2.2.1) b2).trans (congrArg (fun m => m.2.2.2.2.1) b1)
  have g6 : M_loose y2 = M_loose w := (congrArg (fun m => m.2.2.2.2.2.1) b2).trans (congrArg (fun m => m.2.2.2.2.2.1) b1)
  refine ⟨y2, ?_, kk, hM.now (Mc_now kk hM.1 (eng_R ..) (eng_T ..) (eng_k ..) (eng_sz ..) (eng_ch ..) (eng_wd ..) (eng_sg ..) (eng_sr ..) (fun r s hr hs => by rw [g5, eng_th]; exact gt_th hM.1 hr hs) (fun j k _ _ _ => by unfold lkf; rw [eng_lk]) (fun j hj hi => ?_)) g6, c2.trans c1⟩
  · unfold X9_act_J74
    rw [chk_nI hg (by decide), nI_clamp (by omega), ltA_eq, ← ey1, chk_nI hg (by decide), chk_nI hg (by decide), ltA_eq, ltA_eq]
    by_cases c : x2 = 95
    · rw [if_pos c] at ey2; rw [if_pos c, ← ey2]
    · rw [if_neg c] at ey2; rw [if_neg c, ← ey2]
  · rw [g1, f1, f3, f2, g4]
    simp only [eng_pl, eng_bs, eng_mt, eng_lf]
    obtain ⟨p1, p2, p3, p4⟩ := gt_now hM.1 hj hi
    by_cases d1 : j = g
    · have hl := (hI.2.2.2.2.2.2.1 g hg (Or.inl bg)).2
      rw [if_pos d1, if_pos d1, if_pos d1, d1, pk_us, pk_us]
      refine ⟨by rw [← d1]; exact p1, hx, ?_, fun _ => hmm⟩
      rw [← d1, p3, d1, hl]
    · rw [if_neg d1, if_neg d1, if_neg d1, pk_un d1, pk_un d1]
      exact ⟨p1, p2, p3, p4⟩
theorem ract_spec {w : MS} {b : AS} {lo : Nat → Nat → Bool} (hI : Inv b) (hM : Mx0 w b lo) {g s : Nat} (hg : g < 8) (hs : s = 95 ∨ s = 94 ∨ isL (a_R b) s = true) (hw : wdA b g s = 0) : ∃ w', f_X9_act w (nI g) (nI s) = some w' ∧ mkeep w' = mkeep w ∧ Mx0 w' (dwA b g s) lo ∧ mrest w' = mrest w := by
  have hR6 := hI.1.2.1
  have hb := bs_lt hI hg
  unfold f_X9_act
  unfold wdA at hw
  unfold dwA
  by_cases c1 : s = 95
  · subst c1
    rw [if_pos rfl] at hw
    rw [if_pos rfl, if_neg (show ¬ nI 95 = (94 : Int32) by decide), if_pos (show nI 95 = (95 : Int32) from rfl)]
    have bg : a_bs b g = 0 := by
      unfold wsA at hw
      cases ig : a_is b g
      · rw [ig] at hw; simp at hw
      · by_cases c : a_bs b g = 0
        · exact c
        · rw [ig] at hw; simp [c] at hw
    exact act74_spec hI hM hg bg rfl (by rw [if_pos (show nI 95 = (95 : Int32) from rfl)]; exact neg6)
  · rw [if_neg c1] at hw ⊢
    by_cases c2 : s = 94
    · subst c2
      rw [if_pos rfl] at hw ⊢
      have ig : a_is b g = true := by
        unfold wrA at hw
        cases ig : a_is b g
        · rw [ig] at hw; simp at hw
        · rfl
      obtain ⟨p1, p2, p3, p4⟩ := gt_now hM.1 hg ig
      rw [if_pos (show nI 94 = (94 : Int32) from rfl), chk_nI hg (by decide), nI_clamp (by omega), p2]
      by_cases c : a_bs b g = 1
      · obtain ⟨t, t1, t2, t3, -⟩ := hI.2.2.2.2.2.2.2.1 g hg c
        rw [if_pos (show nI (a_bs b g) = (1 : Int32) by rw [c]; rfl), chk_nI hg (by decide), p4 (Or.inl c), t3, oI_nat]
        exact act26_spec hM hg t1 (fun j hj => by
          have ej : ((t : Int) == (j : Int)) = (j == t) := by rw [Bool.eq_iff_iff, beq_iff_eq, beq_iff_eq]; omega
          unfold offp; rw [c, t3, ej]; simp)
      · rw [if_neg (show ¬ nI (a_bs b g) = (1 : Int32) from fun h => c ((nI_eq (by omega) (b := 1) (by decide)).mp h))]
        exact act26_spec hM hg hg (fun j hj => by unfold offp; simp [c])
    · rw [if_neg c2] at hw ⊢
      have h := (hs.resolve_left c1).resolve_left c2
      have hl : 97 ≤ s ∧ s < 97 + a_R b := by unfold isL at h; simp only [Bool.and_eq_true, decide_eq_true_eq] at h; exact h
      have n1 : ¬ nI s = (94 : Int32) := fun q => c2 ((nI_eq (by omega) (b := 94) (by decide)).mp q)
      have n2 : ¬ nI s = (95 : Int32) := fun q => c1 ((nI_eq (by omega) (b := 95) (by decide)).mp q)
      rw [if_neg n1, if_neg n2]
      have bg : a_bs b g = 0 := by
        unfold wbA at hw
        cases ig : a_is b g
        · rw [ig] at hw; simp at hw
        · by_cases c : a_bs b g = 0
          · exact c
          · rw [ig] at hw; simp [c] at hw
      exact act74_spec hI hM hg bg rfl (by rw [if_neg n2]; exact pk_sub (b := 97) hl.1)
/-! a party without fault, event by event -/
theorem fa_pos {R : Nat} {c : Nat → Nat} {n : Nat} (hn : n < 1000) : ∀ m i st, i + m ≤ n → fa R c n m i st = -6 ∨ ∃ k, k < 1000 ∧ fa R c n m i st = nI k
  | 0, i, st, h => by
    rw [fa_0]
    by_cases q : st = 0
    · rw [if_pos q]; exact Or.inl rfl
    · rw [if_neg q]; exact Or.inr ⟨n, hn, rfl⟩
  | m + 1, i, st, h => by
    rw [fa_s]
    by_cases q : nx R st (c i) (c (i - 1)) = 5
    · rw [if_pos q]; exact Or.inr ⟨i, by omega, rfl⟩
    · rw [if_neg q]; exact fa_pos hn m (i + 1) _ (by omega)
theorem n6 {k : Nat} (hk : k < 1000) : ¬ nI k = (-6 : Int32) := fun q => by have := nI_pos (n := k) (by omega); rw [q] at this; exact this (by decide)
/-- one step of a party without fault -/
theorem fa_step {R : Nat} {c : Nat → Nat} {n i st : Nat} (hn : n ≤ 60) (hi : i < n) (h : fa R c n (n - i) i st = -6) : nx R st (c i) (c (i - 1)) ≠ 5 ∧ fa R c n (n - (i + 1)) (i + 1) (nx R st (c i) (c (i - 1))) = -6 := by
  rw [show n - i = (n - (i + 1)) + 1 by omega, fa_s] at h
  by_cases q : nx R st (c i) (c (i - 1)) = 5
  · rw [if_pos q] at h; exact absurd h (n6 (by omega))
  · rw [if_neg q] at h; exact ⟨q, h⟩
theorem fa_end {R : Nat} {c : Nat → Nat} {n i st : Nat} (hn : n ≤ 60) (h : fa R c n (n - i) i st = -6) (h0 : st ≠ 0) : i < n := by
  rcases Nat.lt_or_ge i n with q | q
  · exact q
  · rw [show n - i = 0 by omega, fa_0, if_neg h0] at h; exact absurd h (n6 (by omega))
/-- what stands at the beginning of an event -/
theorem wf_cases {R : Nat} {c : Nat → Nat} {n i : Nat} (hn : n ≤ 60) (hi : i < n) (h : fa R c n (n - i) i 0 = -6) :
    (c i = 46 ∧ fa R c n (n - (i + 1)) (i + 1) 0 = -6) ∨
    (c i ≠ 46 ∧ isG (c i) = true ∧ i + 1 < n ∧ isG (c (i + 1)) = true ∧ c i < c (i + 1) ∧ i + 2 < n ∧ 49 ≤ c (i + 2) ∧ c (i + 2) ≤ 57 ∧ fa R c n (n - (i + 3)) (i + 3) 0 = -6) ∨
    (c i ≠ 46 ∧ isG (c i) = true ∧ i + 1 < n ∧ isG (c (i + 1)) = false ∧ (c (i + 1) = 95 ∨ c (i + 1) = 94 ∨ isL R (c (i + 1)) = true) ∧ fa R c n (n - (i + 2)) (i + 2) 0 = -6) ∨
    (c i ≠ 46 ∧ isG (c i) = false ∧ isL R (c i) = true ∧ i + 2 < n ∧ isL R (c (i + 1)) = true ∧ 48 ≤ c (i + 2) ∧ c (i + 2) ≤ 51 ∧ fa R c n (n - (i + 3)) (i + 3) 0 = -6) := by
  obtain ⟨h1, h2⟩ := fa_step hn hi h
  rw [nx0] at h1 h2
  by_cases q1 : c i = 46
  · rw [if_pos q1] at h2; exact Or.inl ⟨q1, h2⟩
  · rw [if_neg q1] at h1 h2
    cases q2 : isG (c i)
    · rw [q2] at h1 h2
      simp only [Bool.false_eq_true, if_false] at h1 h2
      cases q3 : isL R (c i)
      · rw [q3] at h1; simp at h1
      · rw [q3] at h2
        simp only [if_true] at h2
        have l1 := fa_end hn h2 (by decide)
        obtain ⟨g1, g2⟩ := fa_step hn l1 h2
        rw [nx3] at g1 g2
        cases q4 : isL R (c (i + 1))
        · rw [q4] at g1; simp at g1
        · rw [q4] at g2
          simp only [if_true] at g2
          have l2 := fa_end hn g2 (by decide)
          obtain ⟨k1, k2⟩ := fa_step hn l2 g2
          rw [nx4] at k1 k2
          by_cases q5 : 48 ≤ c (i + 1 + 1) ∧ c (i + 1 + 1) ≤ 51
          · rw [if_pos q5] at k2
            exact Or.inr (Or.inr (Or.inr ⟨q1, rfl, rfl, l2, rfl, q5.1, q5.2, k2⟩))
          · rw [if_neg q5] at k1; exact absurd rfl k1
    · rw [q2] at h2
      simp only [if_true] at h2
      have l1 := fa_end hn h2 (by decide)
      obtain ⟨g1, g2⟩ := fa_step hn l1 h2
      rw [nx1] at g1 g2
      simp only [Nat.add_sub_cancel] at g1 g2
      cases q3 : isG (c (i + 1))
      · rw [q3] at g1 g2
        simp only [Bool.false_eq_true, if_false] at g1 g2
        refine Or.inr (Or.inr (Or.inl ⟨q1, rfl, l1, rfl, ?_⟩))
        by_cases e1 : c (i + 1) = 95
        · rw [if_pos e1] at g2; exact ⟨Or.inl e1, g2⟩
        · rw [if_neg e1] at g1 g2
          by_cases e2 : c (i + 1) = 94
          · rw [if_pos e2] at g2; exact ⟨Or.inr (Or.inl e2), g2⟩
          · rw [if_neg e2] at g1 g2
            cases e3 : isL R (c (i + 1))
            · rw [e3] at g1; simp at g1
            · rw [e3] at g2; simp only [if_true] at g2; exact ⟨Or.inr (Or.inr rfl), g2⟩
      · rw [q3] at g1 g2
        simp only [if_true] at g1 g2
        by_cases e1 : c i < c (i + 1)
        · rw [if_pos e1] at g2
          have l2 := fa_end hn g2 (by decide)
          obtain ⟨k1, k2⟩ := fa_step hn l2 g2
          rw [nx2] at k1 k2
          by_cases q5 : 49 ≤ c (i + 1 + 1) ∧ c (i + 1 + 1) ≤ 57
          · rw [if_pos q5] at k2
            exact Or.inr (Or.inl ⟨q1, rfl, l1, rfl, e1, l2, q5.1, q5.2, k2⟩)
          · rw [if_neg q5] at k1; exact absurd rfl k1
        · rw [if_neg e1] at g1; exact absurd rfl g1
