theorem pass_spec {w : MS} {b : AS} {lo : Nat → Nat → Bool} (hI : Inv b) (hL : LoOk b lo) (hM : Mx0 w b lo) : ∃ w' gn', f_X9_pass w = some (nI (wentA lo b), w') ∧ mkeep w' = mkeep w ∧ Mx w' (minA lo b) gn' lo := by
  obtain ⟨N, hN, hFU⟩ := FU_ex
  obtain ⟨w0, s1, s2, s3⟩ := Mx_shut hM
  unfold f_X9_pass
  rw [s1, Option.bind_some, hFU]
  refine it_rule (bot := fun _ _ _ => none) 8 (fun i (y : MS) => mkeep y = mkeep w ∧ Mx y (mvA lo b i).1 (mvA lo b i).2.1 lo) (fun k i y => ∃ w' gn', k y (nI (mvA lo b i).2.2) (nI i) = some (nI (wentA lo b), w') ∧ mkeep w' = mkeep w ∧ Mx w' (minA lo b) gn' lo) ?_ ?_ N 0 w0 (by omega) (by omega) ⟨s2, s3⟩
  · intro k y ⟨hy, hMy⟩
    obtain ⟨w', e1, e2, e3⟩ := pass_in (n := (mvA lo b 8).2.2) (Kp_mv hI lo 8 (Nat.le_refl _)).1 hMy
    refine ⟨w', _, ?_, e2.trans hy, e3⟩
    unfold X9_pass_B8
    rw [if_pos (by decide)]; exact e1
  · intro k i y hi ⟨hy, hMy⟩ hk
    have hK := Kp_mv hI lo i (by omega)
    have hk' := hk
    rw [mvA_s] at hk'
    unfold stp at hk'
    generalize hs : mvA lo b i = s at *
    obtain ⟨c, gn, n⟩ := s
    have hMy : Mx y c gn lo := hMy
    have hIc : Inv c := hK.1
    have hL' : LoOk c lo := hL.to hK.2.2.2.1
    have hgn : ∀ r q, r < 6 → q < 6 → gn r q < 1000 := fun r q _ _ => by have := hK.2.1 r q; simp only at this; omega
    have hbs := bs_lt hIc hi
    have hT := hIc.1.2.2.1
    have hR6 := hIc.1.2.1
    have et : M_there y = nI (a_T c) := hMy.1.2.1
    show ∃ w' gn', X9_pass_B8 k y (nI n) (nI i) = _ ∧ _
    unfold X9_pass_B8 X9_pass_J100
    rw [if_neg (show ¬ (8 : Int32) ≤ nI i from nlit (by decide) hi), et, has_b hT hi, Option.bind_some, nI_1]
    cases e : (a_T c).testBit i
    · have e' : a_is c i = false := e
      rw [if_pos (by decide)]
      rw [if_neg (fun h => by have h := h.1.1; simp only at h; rw [e'] at h; cases h)] at hk'
      exact hk' y ⟨hy, hMy⟩
    · have e' : a_is c i = true := e
      obtain ⟨p1, p2, p3, p4⟩ := gt_now hMy.1 hi e'
      have hpl := (hIc.2.2.2.2.2.1 i hi e').1
      rw [if_neg (by decide), chk_nI hi (by decide), nI_clamp (by omega), p2]
      by_cases cb : a_bs c i = 0
      · have hgo : f_X9_goal y (nI i) (-6) 0 = some (nI (toA c gn lo i)) := goal_none hIc hL' hgn hMy hi e'
        rw [if_pos (show nI (a_bs c i) = 0 by rw [cb]; rfl), chk_nI hi (by decide), hgo, Option.bind_some, p1]
        simp only at hk'
        generalize hto : toA c gn lo i = t at hk'
        by_cases c2 : t = a_pl c i
        · rw [if_neg (fun h => h.2 c2)] at hk'
          rw [if_pos (by rw [c2])]
          exact hk' y ⟨hy, hMy⟩
        · have hok := toA_ok (b := c) (gn := gn) (lo := lo) (g := i) (by rw [hto]; exact c2)
          rw [hto] at hok
          rw [if_pos ⟨⟨e', cb⟩, c2⟩] at hk'
          obtain ⟨y1, ey1⟩ : ∃ x, x = M_set_through y (upd (M_through y) (6 * a_pl c i + t) (M_through y (6 * a_pl c i + t) + 1)) := ⟨_, rfl⟩
          obtain ⟨a1, b1⟩ := set_through ey1
          obtain ⟨y2, ey2⟩ : ∃ x, x = M_set_through y1 (upd (M_through y1) (6 * t + a_pl c i) (M_through y1 (6 * t + a_pl c i) + 1)) := ⟨_, rfl⟩
          obtain ⟨a2, b2⟩ := set_through ey2
          obtain ⟨y3, ey3⟩ : ∃ x, x = M_set_at y2 (upd (M_at y2) i (nI t)) := ⟨_, rfl⟩
          obtain ⟨a3, b3⟩ := set_at ey3
          have kk := (a3.trans a2).trans a1
          have r1 : M_through y1 = upd (M_through y) (6 * a_pl c i + t) (M_through y (6 * a_pl c i + t) + 1) := congrArg (fun m => m.2.2.2.2.2.2) b1
          have r2 : M_through y2 = upd (M_through y1) (6 * t + a_pl c i) (M_through y1 (6 * t + a_pl c i) + 1) := congrArg (fun m => m.2.2.2.2.2.2) b2
          have r3 : M_through y3 = M_through y2 := congrArg (fun m => m.2.2.2.2.2.2) b3
          have u1 : M_at y2 = M_at y := (congrArg (fun m => m.1) b2).trans (congrArg (fun m => m.1) b1)
          have u2 : M_at y3 = upd (M_at y) i (nI t) := by rw [← u1]; exact congrArg (fun m => m.1) b3
          have u3 : M_busyNow y3 = M_busyNow y := ((congrArg (fun m => m.2.1) b3).trans (congrArg (fun m => m.2.1) b2)).trans (congrArg (fun m => m.2.1) b1)
          have u4 : M_withNow y3 = M_withNow y := ((congrArg (fun m => m.2.2.1) b3).trans (congrArg (fun m => m.2.2.1) b2)).trans (congrArg (fun m => m.2.2.1) b1)
          have u5 : M_leftNow y3 = M_leftNow y := ((congrArg (fun m => m.2.2.2.1) b3).trans (congrArg (fun m => m.2.2.2.1) b2)).trans (congrArg (fun m => m.2.2.2.1) b1)
          have u6 : M_thingsNow y3 = M_thingsNow y := ((congrArg (fun m => m.2.2.2.2.1) b3).trans (congrArg (fun m => m.2.2.2.2.1) b2)).trans (congrArg (fun m => m.2.2.2.2.1) b1)
          have u7 : M_loose y3 = M_loose y := ((congrArg (fun m => m.2.2.2.2.2.1) b3).trans (congrArg (fun m => m.2.2.2.2.2.1) b2)).trans (congrArg (fun m => m.2.2.2.2.2.1) b1)
          obtain ⟨w', gn', k1, k2⟩ := hk' y3 ⟨kk.trans hy, Mc_now kk hMy.1 rfl rfl rfl rfl rfl rfl rfl rfl (fun r s hr hs => by rw [u6]; exact gt_th hMy.1 hr hs) (fun _ _ _ _ _ => rfl) (fun g hg hig => by
              rw [u2, u3, u4, u5]
              simp only [sp_pl, sp_bs, sp_mt, sp_lf]
              obtain ⟨q1, q2, q3, q4⟩ := gt_now hMy.1 hg hig
              refine ⟨?_, q2, q3, q4⟩
              by_cases cg : g = i
              · rw [if_pos cg, cg, pk_us]
              · rw [if_neg cg, pk_un cg]; exact q1), fun r q hr hq => by
              rw [r3, r2, r1, pk_un (show 6 * t + a_pl c i ≠ 6 * a_pl c i + t by omega)]
              show _ = nI (incG gn (a_pl c i) t r q)
              unfold incG
              by_cases q1 : r = t ∧ q = a_pl c i
              · rw [if_pos (Or.inr q1), q1.1, q1.2, pk_us, hMy.2.1 _ _ (by omega) (by omega), nI_1]
              · rw [pk_un (by omega)]
                by_cases q2 : r = a_pl c i ∧ q = t
                · rw [if_pos (Or.inl q2), q2.1, q2.2, pk_us, hMy.2.1 _ _ (by omega) (by omega), nI_1]
                · rw [pk_un (by omega), if_neg (by omega), hMy.2.1 r q hr hq]; rfl, fun r q hr hq => by rw [u7]; exact hMy.2.2 r q hr hq⟩
          refine ⟨w', gn', ?_, k2⟩
          rw [if_neg (fun h => c2 ((nI_eq (by omega) (by omega)).mp h)), ix6', ix6', chk_nI (by omega) (by decide), chk_nI (by omega) (by decide), nI_clamp (by omega), nI_clamp (by omega), ltA_eq, ← ey1, chk_nI (by omega) (by decide), chk_nI (by omega) (by decide), ltA_eq, ← ey2, chk_nI hi (by decide), ltA_eq, ← ey3, nI_1]
          exact k1
      · rw [if_neg (show ¬ nI (a_bs c i) = 0 from fun h => cb ((nI_eq (by omega) (b := 0) (by decide)).mp h))]
        rw [if_neg (fun h => cb h.1.2)] at hk'
        exact hk' y ⟨hy, hMy⟩
