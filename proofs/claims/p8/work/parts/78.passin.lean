theorem pass_in {w : MS} {b : AS} {gn : Nat → Nat → Nat} {lo : Nat → Nat → Bool} {n : Nat} (hI : Inv b) (hM : Mx w b gn lo) : ∃ w', it X9_pass_B108 (fun _ _ _ => none) FU w (nI n) 0 = some (nI n, w') ∧ mkeep w' = mkeep w ∧ Mx w' (tkI b 8) gn lo := by
  obtain ⟨N, hN, hFU⟩ := FU_ex
  have hT := hI.1.2.2.1
  rw [hFU]
  have h0 : Mc (mnow w) (tkI b 0) := Mc_now rfl hM.1 (tk_R b 0) (tk_T b 0) (tk_k b 0) (tk_sz b 0) (tk_ch b 0) (tk_wd b 0) (tk_sg b 0) (tk_sr b 0) (fun r s hr hs => by rw [tk_th]; exact gt_th hM.1 hr hs) (fun g k _ _ _ => by unfold lkf; rw [tk_lk]) (fun g hg hi => by
    simp only [tk_pl, tk_bs, tk_mt, tk_lf, Nat.not_lt_zero, false_and, if_false]; exact gt_now hM.1 hg hi)
  refine it_rule (bot := fun _ _ _ => none) 8 (fun i (y : MS) => mkeep y = mkeep w ∧ Mx y (tkI b i) gn lo) (fun k i y => ∃ w', k y (nI n) (nI i) = some (nI n, w') ∧ mkeep w' = mkeep w ∧ Mx w' (tkI b 8) gn lo) ?_ ?_ N 0 w (by omega) (by omega) ⟨rfl, h0, hM.2⟩
  · intro k y hy
    exact ⟨y, by unfold X9_pass_B108; rw [if_pos (by decide)], hy⟩
  · intro k i y hi ⟨hy, hMy⟩ hk
    have et : M_there y = nI (a_T b) := hMy.1.2.1
    have hbs := bs_lt hI hi
    unfold X9_pass_B108 X9_pass_J165
    rw [if_neg (show ¬ (8 : Int32) ≤ nI i from nlit (by decide) hi), et, has_b hT hi, Option.bind_some, nI_1]
    have skip : (a_is b i = true → a_bs b i ≠ 1) → Mx y (tkI b (i + 1)) gn lo := by
      intro h
      refine ⟨Mc_now rfl hMy.1 ((tk_R b (i + 1)).trans (tk_R b i).symm) ((tk_T b (i + 1)).trans (tk_T b i).symm) ((tk_k b (i + 1)).trans (tk_k b i).symm) ((tk_sz b (i + 1)).trans (tk_sz b i).symm) ((tk_ch b (i + 1)).trans (tk_ch b i).symm) ((tk_wd b (i + 1)).trans (tk_wd b i).symm) ((tk_sg b (i + 1)).trans (tk_sg b i).symm) ((tk_sr b (i + 1)).trans (tk_sr b i).symm) (fun r s hr hs => by rw [tk_th]; exact (gt_th hMy.1 hr hs).trans (by rw [tk_th])) (fun g k _ _ _ => by unfold lkf; rw [tk_lk, tk_lk]) (fun g hg hig => ?_), hMy.2⟩
      have q := gt_now hMy.1 hg hig
      simp only [tk_pl, tk_bs, tk_mt, tk_lf] at q ⊢
      by_cases c : g = i
      · subst c; have := h hig; simp [this] at q ⊢; exact q
      · have e1 : (g < i + 1) ↔ g < i := by omega
        simp only [e1]; exact q
    cases e : (a_T b).testBit i
    · have e' : a_is b i = false := e
      rw [if_pos (by decide)]
      exact hk y ⟨hy, skip (fun h => by rw [e'] at h; cases h)⟩
    · have e' : a_is b i = true := e
      obtain ⟨p1, p2, p3, p4⟩ := gt_now hMy.1 hi (show a_is (tkI b i) i = true from e')
      simp only [tk_pl, tk_bs, tk_mt, tk_lf, Nat.lt_irrefl, false_and, if_false] at p1 p2 p3 p4
      rw [if_neg (by decide), chk_nI hi (by decide), nI_clamp (by omega), p2]
      by_cases c : a_bs b i = 1
      · obtain ⟨j, -, -, -, -, -, -, -, l1, l9⟩ := hI.2.2.2.2.2.2.2.1 i hi c
        obtain ⟨y1, ey1⟩ : ∃ x, x = M_set_leftNow y (upd (M_leftNow y) i (nI (a_lf b i - 1))) := ⟨_, rfl⟩
        obtain ⟨a1, b1⟩ := set_leftNow ey1
        obtain ⟨y2, ey2⟩ : ∃ x, x = M_set_busyNow y1 (upd (M_busyNow y1) i (nI (if a_lf b i ≤ 1 then 0 else 1))) := ⟨_, rfl⟩
        obtain ⟨a2, b2⟩ := set_busyNow ey2
        have hl1 : M_leftNow y1 = upd (M_leftNow y) i (nI (a_lf b i - 1)) := congrArg (fun m => m.2.2.2.1) b1
        have t1 : M_at y2 = M_at y := (congrArg (fun m => m.1) b2).trans (congrArg (fun m => m.1) b1)
        have t2 : M_busyNow y2 = upd (M_busyNow y) i (nI (if a_lf b i ≤ 1 then 0 else 1)) := by
          have : M_busyNow y1 = M_busyNow y := congrArg (fun m => m.2.1) b1
          have q : M_busyNow y2 = upd (M_busyNow y1) i (nI (if a_lf b i ≤ 1 then 0 else 1)) := congrArg (fun m => m.2.1) b2
          rw [q, this]
        have t3 : M_withNow y2 = M_withNow y := (congrArg (fun m => m.2.2.1) b2).trans (congrArg (fun m => m.2.2.1) b1)
        have t4 : M_leftNow y2 = upd (M_leftNow y) i (nI (a_lf b i - 1)) := (congrArg (fun m => m.2.2.2.1) b2).trans hl1
        have t5 : M_thingsNow y2 = M_thingsNow y := (congrArg (fun m => m.2.2.2.2.1) b2).trans (congrArg (fun m => m.2.2.2.2.1) b1)
        have t6 : M_loose y2 = M_loose y := (congrArg (fun m => m.2.2.2.2.2.1) b2).trans (congrArg (fun m => m.2.2.2.2.2.1) b1)
        have t7 : M_through y2 = M_through y := (congrArg (fun m => m.2.2.2.2.2.2) b2).trans (congrArg (fun m => m.2.2.2.2.2.2) b1)
        obtain ⟨w', k1, k2⟩ := hk y2 ⟨(a2.trans a1).trans hy, Mc_now (a2.trans a1) hMy.1 ((tk_R b (i + 1)).trans (tk_R b i).symm) ((tk_T b (i + 1)).trans (tk_T b i).symm) ((tk_k b (i + 1)).trans (tk_k b i).symm) ((tk_sz b (i + 1)).trans (tk_sz b i).symm) ((tk_ch b (i + 1)).trans (tk_ch b i).symm) ((tk_wd b (i + 1)).trans (tk_wd b i).symm) ((tk_sg b (i + 1)).trans (tk_sg b i).symm) ((tk_sr b (i + 1)).trans (tk_sr b i).symm) (fun r s hr hs => by rw [t5, tk_th]; exact (gt_th hMy.1 hr hs).trans (by rw [tk_th])) (fun g k _ _ _ => by unfold lkf; rw [tk_lk, tk_lk]) (fun g hg hig => by
            rw [t1, t2, t3, t4]
            have q := gt_now hMy.1 hg hig
            simp only [tk_pl, tk_bs, tk_mt, tk_lf] at q ⊢
            by_cases cg : g = i
            · subst cg
              rw [pk_us, pk_us]
              simp only [Nat.lt_succ_self, true_and, c, if_true] at q ⊢
              refine ⟨q.1, fun h => ?_⟩
              by_cases c2 : a_lf b g ≤ 1
              · rw [if_pos c2] at h; omega
              · rw [if_neg c2]; exact p4 (Or.inl c)
            · have e1 : (g < i + 1) ↔ g < i := by omega
              rw [pk_un cg, pk_un cg]
              simp only [e1]; exact q), fun r q hr hq => by rw [t7]; exact hMy.2.1 r q hr hq, fun r q hr hq => by rw [t6]; exact hMy.2.2 r q hr hq⟩
        refine ⟨w', ?_, k2⟩
        unfold X9_pass_J164
        rw [if_pos (show nI (a_bs b i) = (1 : Int32) by rw [c]; rfl), chk_nI hi (by decide), chk_nI hi (by decide), p3, show nI (a_lf b i) - (1 : Int32) = nI (a_lf b i - 1) from pk_sub (b := 1) (by omega), ltA_eq, ← ey1, chk_nI hi (by decide), hl1, pk_us]
        by_cases c2 : a_lf b i ≤ 1
        · rw [if_pos c2] at ey2
          rw [if_pos (show nI (a_lf b i - 1) = 0 by rw [show a_lf b i - 1 = 0 by omega]; rfl), chk_nI hi (by decide), nI_clamp (by omega), ltA_eq, show M_set_busyNow y1 (upd (M_busyNow y1) i 0) = y2 from ey2.symm]
          unfold X9_pass_J165
          rw [nI_1]; exact k1
        · rw [if_neg c2] at ey2
          rw [if_neg (show ¬ nI (a_lf b i - 1) = 0 from fun h => by have := (nI_eq (by omega) (b := 0) (by decide)).mp h; omega), chk_nI hi (by decide), nI_clamp (by omega), ltA_eq, show M_set_busyNow y1 (upd (M_busyNow y1) i 1) = y2 from ey2.symm]
          unfold X9_pass_J165
          rw [nI_1]; exact k1
      · rw [if_neg (show ¬ nI (a_bs b i) = (1 : Int32) from fun h => c ((nI_eq (by omega) (b := 1) (by decide)).mp h))]
        exact hk y ⟨hy, skip (fun _ => c)⟩
