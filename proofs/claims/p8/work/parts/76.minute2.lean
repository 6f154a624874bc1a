/-! the minute as a whole -/
def stp (lo : Nat → Nat → Bool) (g : Nat) (s : AS × (Nat → Nat → Nat) × Nat) : AS × (Nat → Nat → Nat) × Nat := if (a_is s.1 g = true ∧ a_bs s.1 g = 0) ∧ toA s.1 s.2.1 lo g ≠ a_pl s.1 g then (setPl s.1 g (toA s.1 s.2.1 lo g), incG s.2.1 (a_pl s.1 g) (toA s.1 s.2.1 lo g), s.2.2 + 1) else s
def mvA (lo : Nat → Nat → Bool) (b : AS) : Nat → AS × (Nat → Nat → Nat) × Nat
  | 0 => (b, (fun _ _ => 0), 0)
  | g + 1 => stp lo g (mvA lo b g)
theorem mvA_s (lo : Nat → Nat → Bool) (b : AS) (g : Nat) : mvA lo b (g + 1) = stp lo g (mvA lo b g) := rfl
/-- a minute later -/
def minA (lo : Nat → Nat → Bool) (b : AS) : AS := tkI (mvA lo b 8).1 8
def wentA (lo : Nat → Nat → Bool) (b : AS) : Nat := (mvA lo b 8).2.2
/-- what a minute's moves keep -/
def Kp (b : AS) (i : Nat) (s : AS × (Nat → Nat → Nat) × Nat) : Prop := Inv s.1 ∧ (∀ r q, s.2.1 r q ≤ i) ∧ s.2.2 ≤ i ∧ a_wd s.1 = a_wd b ∧ a_R s.1 = a_R b ∧ a_T s.1 = a_T b ∧ a_sz s.1 = a_sz b ∧ a_th s.1 = a_th b ∧ a_bs s.1 = a_bs b ∧ a_mt s.1 = a_mt b ∧ a_lf s.1 = a_lf b
theorem Kp_stp {b : AS} {lo : Nat → Nat → Bool} {g : Nat} {s : AS × (Nat → Nat → Nat) × Nat} (hg : g < 8) (h : Kp b g s) : Kp b (g + 1) (stp lo g s) := by
  obtain ⟨k1, k2, k3, k4, k5, k6, k7, k8, k9, k10, k11⟩ := h
  unfold stp
  by_cases c : (a_is s.1 g = true ∧ a_bs s.1 g = 0) ∧ toA s.1 s.2.1 lo g ≠ a_pl s.1 g
  · rw [if_pos c]
    obtain ⟨t1, t2⟩ := toA_ok c.2
    refine ⟨Inv_setPl k1 hg c.1.1 (Or.inl c.1.2) t1 ?_, ?_, ?_, k4, k5, k6, k7, k8, k9, k10, k11⟩
    · have := oth_in (b := s.1) (g := g) (r := toA s.1 s.2.1 lo g) hg c.1.1
      rw [if_neg (fun h => c.2 h.symm)] at this
      omega
    · intro r q
      show incG s.2.1 _ _ r q ≤ g + 1
      unfold incG
      have := k2 r q
      split <;> omega
    · show s.2.2 + 1 ≤ g + 1; omega
  · rw [if_neg c]
    exact ⟨k1, fun r q => Nat.le_succ_of_le (k2 r q), Nat.le_succ_of_le k3, k4, k5, k6, k7, k8, k9, k10, k11⟩
theorem Kp_mv {b : AS} (hI : Inv b) (lo : Nat → Nat → Bool) : ∀ i, i ≤ 8 → Kp b i (mvA lo b i)
  | 0, _ => ⟨hI, fun _ _ => Nat.le_refl _, Nat.le_refl _, rfl, rfl, rfl, rfl, rfl, rfl, rfl, rfl⟩
  | i + 1, h => by rw [mvA_s]; exact Kp_stp (by omega) (Kp_mv hI lo i (by omega))
theorem Inv_min {b : AS} (hI : Inv b) (lo : Nat → Nat → Bool) : Inv (minA lo b) := Inv_tk (Kp_mv hI lo 8 (Nat.le_refl _)).1
theorem LoOk.to {b b' : AS} {lo : Nat → Nat → Bool} (h : LoOk b lo) (e : a_wd b' = a_wd b) : LoOk b' lo := fun r q hr hq hl => by rw [e]; exact h r q hr hq hl
theorem Lo_min {b : AS} (hI : Inv b) {lo : Nat → Nat → Bool} (h : LoOk b lo) : LoOk (minA lo b) lo := h.to (Kp_mv hI lo 8 (Nat.le_refl _)).2.2.2.1
theorem talkOn_spec {h : HS} {b : AS} (hI : Inv b) (hH : Hc h b) : ∃ h', f_X1_talkOn h = some h' ∧ Hc h' (tkI b 8) := by
  obtain ⟨N, hN, hFU⟩ := FU_ex
  unfold f_X1_talkOn
  rw [hFU]
  have h0 : Hc h (tkI b 0) := by
    unfold Hc at hH ⊢
    simp only [tk_R, tk_T, tk_k, tk_th, tk_sz, tk_ch, tk_wd, tk_lk, tk_pl, tk_sg, tk_sr, tk_bs, tk_mt, tk_lf, Nat.not_lt_zero, false_and, if_false]
    exact hH
  refine it_rule (bot := fun _ _ => none) 8 (fun i (y : HS) => Hc y (tkI b i)) (fun k i y => ∃ h', k y (nI i) = some h' ∧ Hc h' (tkI b 8)) ?_ ?_ N 0 h (by omega) (by omega) h0
  · intro k y hy
    exact ⟨y, by unfold X1_talkOn_B2; rw [if_pos (by decide)], hy⟩
  · intro k i y hi hy hk
    have hbs := bs_lt hI hi
    obtain ⟨p1, p2, p3, p4⟩ := hy.2.2.2.2.2.1 i hi
    simp only [tk_bs, tk_mt, tk_lf, Nat.lt_irrefl, false_and, if_false] at p2 p3 p4
    have eq : ∀ y' : HS, Hc y' (eng (tkI b i) i (if a_bs b i = 1 ∧ a_lf b i ≤ 1 then 0 else a_bs b i) (if a_bs b i = 1 ∧ a_lf b i ≤ 1 then -6 else a_mt b i) (if a_bs b i = 1 then a_lf b i - 1 else a_lf b i)) → Hc y' (tkI b (i + 1)) := by
      intro y' h
      unfold Hc at h ⊢
      simp only [eng_R, eng_T, eng_k, eng_th, eng_sz, eng_ch, eng_wd, eng_lk, eng_pl, eng_sg, eng_sr, eng_bs, eng_mt, eng_lf, tk_R, tk_T, tk_k, tk_th, tk_sz, tk_ch, tk_wd, tk_lk, tk_pl, tk_sg, tk_sr, tk_bs, tk_mt, tk_lf] at h ⊢
      obtain ⟨b1, b2, b3, b4, b5, b6, b7, b8⟩ := h
      refine ⟨b1, b2, b3, b4, b5, fun j hj => ?_, b7, b8⟩
      have q := b6 j hj
      by_cases c : j = i
      · subst c
        simp only [if_true, Nat.lt_succ_self, true_and] at q ⊢
        exact q
      · have e1 : (j < i + 1) ↔ j < i := by omega
        simp only [c, if_false] at q
        simp only [e1]
        exact q
    unfold X1_talkOn_B2 X1_talkOn_J46
    rw [if_neg (show ¬ (8 : Int32) ≤ nI i from nlit (by decide) hi), chk_nI hi (by decide), nI_clamp (by omega), p2, nI_1]
    by_cases c : a_bs b i = 1
    · obtain ⟨j, -, -, -, -, -, -, -, l1, l9⟩ := hI.2.2.2.2.2.2.2.1 i hi c
      rw [if_pos (show nI (a_bs b i) = (1 : Int32) by rw [c]; rfl), chk_nI hi (by decide), chk_nI hi (by decide), ltA_eq, chk_nI hi (by decide), p4, pk_us, show nI (a_lf b i) - (1 : Int32) = nI (a_lf b i - 1) from pk_sub (b := 1) (by omega)]
      by_cases c2 : a_lf b i ≤ 1
      · rw [if_neg (show ¬ (0 : Int32) < nI (a_lf b i - 1) from nI_nlt (a := 0) (by omega) (by omega)), engage_spec _ hi, Option.bind_some]
        obtain ⟨h', k1, k2⟩ := hk (hEng (H_set_left y (upd (H_left y) i (nI (a_lf b i - 1)))) i 0 (-6) 0) (eq _ (by
          rw [if_pos ⟨c, c2⟩, if_pos ⟨c, c2⟩, if_pos c, show a_lf b i - 1 = 0 by omega]
          have e : hEng (H_set_left y (upd (H_left y) i (nI 0))) i 0 (-6) 0 = hEng y i 0 (-6) 0 := by
            show H_set_left _ (upd (upd (H_left y) i (nI 0)) i 0) = H_set_left _ (upd (H_left y) i 0)
            rw [show upd (upd (H_left y) i (nI 0)) i 0 = upd (H_left y) i 0 from funext fun j => by
              by_cases q : j = i
              · rw [q, pk_us, pk_us]
              · rw [pk_un q, pk_un q, pk_un q]]
            rfl
          rw [e]; exact Hc_eng' hy rfl neg6 rfl))
        exact ⟨h', k1, k2⟩
      · rw [if_pos (show (0 : Int32) < nI (a_lf b i - 1) from nI_lt (a := 0) (by omega) (by omega))]
        refine hk _ (eq _ ?_)
        rw [if_neg (fun h => c2 h.2), if_neg (fun h => c2 h.2), if_pos c]
        have h1 := Hc_eng hy (g := i) (a_bs b i) (a_mt b i) (a_lf b i - 1)
        unfold Hc at h1 ⊢
        obtain ⟨b1, b2, b3, b4, b5, b6, b7, b8⟩ := h1
        refine ⟨b1, b2, b3, b4, b5, fun j hj => ?_, b7, b8⟩
        obtain ⟨q1, q2, q3, q4⟩ := b6 j hj
        have q2' : upd (H_busy y) i (nI (a_bs b i)) j = nI (a_bs (eng (tkI b i) i (a_bs b i) (a_mt b i) (a_lf b i - 1)) j) := q2
        have q3' : upd (H_mate y) i (Int32.ofInt (a_mt b i)) j = Int32.ofInt (a_mt (eng (tkI b i) i (a_bs b i) (a_mt b i) (a_lf b i - 1)) j) := q3
        refine ⟨q1, ?_, ?_, q4⟩
        · show H_busy y j = _
          rw [← q2']
          by_cases q : j = i
          · rw [q, pk_us, p2]
          · rw [pk_un q]
        · show H_mate y j = _
          rw [← q3']
          by_cases q : j = i
          · rw [q, pk_us, p3]
          · rw [pk_un q]
    · rw [if_neg (show ¬ nI (a_bs b i) = (1 : Int32) from fun h => c ((nI_eq (by omega) (b := 1) (by decide)).mp h))]
      refine hk _ ?_
      unfold Hc at hy ⊢
      simp only [tk_R, tk_T, tk_k, tk_th, tk_sz, tk_ch, tk_wd, tk_lk, tk_pl, tk_sg, tk_sr, tk_bs, tk_mt, tk_lf] at hy ⊢
      obtain ⟨b1, b2, b3, b4, b5, b6, b7, b8⟩ := hy
      refine ⟨b1, b2, b3, b4, b5, fun j hj => ?_, b7, b8⟩
      have q := b6 j hj
      by_cases cj : j = i
      · subst cj; simp [c] at q ⊢; exact q
      · have e1 : (j < i + 1) ↔ j < i := by omega
        simp only [e1]; exact q
theorem minute_spec {d : DS} {b : AS} {gn : Nat → Nat → Nat} {lo : Nat → Nat → Bool} (hI : Inv b) (hL : LoOk b lo) (hD : Dx d b gn lo) : ∃ d' gn', f_X0_minute d = some (nI (wentA lo b), d') ∧ Dx d' (minA lo b) gn' lo := by
  obtain ⟨N, hN, hFU⟩ := FU_ex
  unfold f_X0_minute
  rw [hFU, ltA_eq]
  have h0 : Dx (D_set_gone d (fillA 36 (0 : Int32) (D_gone d))) b (fun _ _ => 0) lo := ⟨hD.1, hD.2.1, hD.2.2.1, hD.2.2.2.1, fun r q hr hq => fill_at (by omega)⟩
  refine it_rule (bot := fun _ _ _ => none) 8 (fun i (s : DS) => Dx s (mvA lo b i).1 (mvA lo b i).2.1 lo) (fun k i s => ∃ d' gn', k s (nI (mvA lo b i).2.2) (nI i) = some (nI (wentA lo b), d') ∧ Dx d' (minA lo b) gn' lo) ?_ ?_ N 0 (D_set_gone d (fillA 36 (0 : Int32) (D_gone d))) (by omega) (by omega) h0
  · intro k s hs
    have hK := Kp_mv hI lo 8 (Nat.le_refl _)
    obtain ⟨h', e1, e2⟩ := talkOn_spec hK.1 hs.1
    refine ⟨D_set_house s h', (mvA lo b 8).2.1, ?_, e2, hs.2.1, hs.2.2.1, ?_, hs.2.2.2.2⟩
    · unfold X0_minute_B12
      rw [if_pos (by decide), e1, Option.bind_some]; rfl
    · intro r q hr hq
      refine (hs.2.2.2.1 r q hr hq).trans ?_
      unfold wdv minA
      rw [jam_tk]; rfl
  · intro k i s hi hs hk
    have hK := Kp_mv hI lo i (by omega)
    have hk' := hk
    rw [mvA_s] at hk'
    unfold stp at hk'
    have hL' : LoOk (mvA lo b i).1 lo := hL.to hK.2.2.2.1
    have hgn : ∀ r q, r < 6 → q < 6 → (mvA lo b i).2.1 r q < 1000 := fun r q _ _ => by have := hK.2.1 r q; omega
    have hbs := bs_lt hK.1 hi
    unfold X0_minute_B12 X0_minute_J52
    rw [if_neg (show ¬ (8 : Int32) ≤ nI i from nlit (by decide) hi), th_at hK.1 hs.1 hi, Option.bind_some, nI_1]
    have hb : H_busy (D_house s) i = nI (a_bs (mvA lo b i).1 i) := (hs.1.2.2.2.2.2.1 i hi).2.1
    cases e : a_is (mvA lo b i).1 i
    · rw [if_pos (by decide)]
      rw [if_neg (fun h => by rw [e] at h; cases h.1.1)] at hk'
      exact hk' s hs
    · rw [if_neg (by decide), chk_nI hi (by decide), nI_clamp (by omega), hb]
      by_cases c : a_bs (mvA lo b i).1 i = 0
      · obtain ⟨d', m1, m2, m3⟩ := moves_spec hK.1 hL' hgn hs hi e c
        rw [if_pos (show nI (a_bs (mvA lo b i).1 i) = 0 by rw [c]; rfl), m1, Option.bind_some]
        by_cases c2 : toA (mvA lo b i).1 (mvA lo b i).2.1 lo i = a_pl (mvA lo b i).1 i
        · rw [if_neg (fun h => h.2 c2)] at hk'
          show ∃ d'_1 gn', (if (if toA (mvA lo b i).1 (mvA lo b i).2.1 lo i = a_pl (mvA lo b i).1 i then (0 : Int32) else 1) = 0 then k d' (nI (mvA lo b i).2.2) (nI (i + 1)) else k d' (nI (mvA lo b i).2.2 + 1) (nI (i + 1))) = _ ∧ _
          rw [if_pos (show (if toA (mvA lo b i).1 (mvA lo b i).2.1 lo i = a_pl (mvA lo b i).1 i then (0 : Int32) else 1) = 0 by rw [if_pos c2]), m2 c2]
          exact hk' s hs
        · rw [if_pos ⟨⟨e, c⟩, c2⟩] at hk'
          show ∃ d'_1 gn', (if (if toA (mvA lo b i).1 (mvA lo b i).2.1 lo i = a_pl (mvA lo b i).1 i then (0 : Int32) else 1) = 0 then k d' (nI (mvA lo b i).2.2) (nI (i + 1)) else k d' (nI (mvA lo b i).2.2 + 1) (nI (i + 1))) = _ ∧ _
          rw [if_neg (show ¬ (if toA (mvA lo b i).1 (mvA lo b i).2.1 lo i = a_pl (mvA lo b i).1 i then (0 : Int32) else 1) = 0 by rw [if_neg c2]; decide), nI_1]
          exact hk' d' (m3 c2)
      · rw [if_neg (show ¬ nI (a_bs (mvA lo b i).1 i) = 0 from fun h => c ((nI_eq (by omega) (b := 0) (by decide)).mp h))]
        rw [if_neg (fun h => c h.1.2)] at hk'
        exact hk' s hs
