/-! carrying -/
def crT (a : AS) (r q s : Nat) (r' s' : Nat) : Nat := if r' = q ∧ s' = s then a_th a q s + 1 else if r' = r ∧ s' = s then a_th a r s - 1 else a_th a r' s'
def crA (a : AS) (r q s : Nat) : AS := (a_R a, a_T a, a_k a, crT a r q s, a_sz a, a_ch a, a_wd a, a_lk a, a_pl a, a_bs a, a_mt a, a_lf a, a_sg a, a_sr a)
/-- why a thing can't be carried -/
def wnc (a : AS) (r q s : Nat) : Nat := if r ≠ q ∧ 1 ≤ a_th a r s ∧ a_th a q s < 9 then 0 else 6
theorem wnc_0 {a : AS} {r q s : Nat} (h : wnc a r q s = 0) : r ≠ q ∧ 1 ≤ a_th a r s ∧ a_th a q s < 9 := by
  unfold wnc at h
  by_cases c : r ≠ q ∧ 1 ≤ a_th a r s ∧ a_th a q s < 9
  · exact c
  · rw [if_neg c] at h; cases h
theorem wnc_or (a : AS) (r q s : Nat) : wnc a r q s = 0 ∨ wnc a r q s = 6 := by unfold wnc; split <;> simp
theorem Inv_cr {a : AS} (hI : Inv a) {r q s : Nat} (hr : r < 6) (hq : q < 6) (hs : s < 4) (h : wnc a r q s = 0) : Inv (crA a r q s) := by
  obtain ⟨i1, i2, i3, i4, i5, i6, i7, i8, i9, i10, i11⟩ := id hI
  obtain ⟨c1, c2, c3⟩ := wnc_0 h
  refine ⟨i1, ?_, i3, i4, i5, i6, i7, i8, i9, i10, i11⟩
  intro r' hr'
  refine ⟨fun s' hs' => ?_, (i2 r' hr').2⟩
  show crT a r q s r' s' ≤ 9
  unfold crT
  have h1 := (i2 r' hr').1 s' hs'
  have h2 := (i2 r hr).1 s hs
  split
  · omega
  · split <;> omega
theorem cwnc_spec {h : HS} {a : AS} (hI : Inv a) (hH : Hc h a) {r q s : Nat} (hr : r < 6) (hq : q < 6) (hs : s < 4) : f_X1_whyNotCarry h (nI r) (nI q) (nI s) = some (nI (wnc a r q s)) := by
  have e1 := (hH.2.2.2.1 r hr).1 s hs
  have e2 := (hH.2.2.2.1 q hq).1 s hs
  have l1 := (hI.2.1 r hr).1 s hs
  have l2 := (hI.2.1 q hq).1 s hs
  unfold f_X1_whyNotCarry X1_whyNotCarry_J19 X1_whyNotCarry_J42 wnc
  rw [ix6, ix6, chk_nI (by omega) (by decide), chk_nI (by omega) (by decide), chk_nI (by omega) (by decide), nI_clamp (by omega), nI_clamp (by omega), e1, e2]
  simp (disch := omega) only [s_lit, p_le, p_eq, if_true]
  repeat' split
  all_goals first
    | rfl
    | (exfalso; omega)
theorem rwnc_spec {w : MS} {a : AS} (hI : Inv a) (hM : Mc (mnow w) a) {r q s : Nat} (hr : r < 6) (hq : q < 6) (hs : s < 4) : f_X9_whyNotCarry w (nI r) (nI q) (nI s) = some (nI (wnc a r q s)) := by
  have e1 := gt_th hM hr hs
  have e2 := gt_th hM hq hs
  have l1 := (hI.2.1 r hr).1 s hs
  have l2 := (hI.2.1 q hq).1 s hs
  unfold f_X9_whyNotCarry X9_whyNotCarry_J33 wnc
  rw [ix4', ix4', chk_nI (by omega) (by decide), chk_nI (by omega) (by decide), nI_clamp (by omega), nI_clamp (by omega), e1, e2]
  simp (disch := omega) only [s_lit, p_le, p_eq]
  repeat' split
  all_goals first
    | rfl
    | (exfalso; omega)
theorem ccarry_spec {h : HS} {a : AS} (hI : Inv a) (hH : Hc h a) {r q s : Nat} (hr : r < 6) (hq : q < 6) (hs : s < 4) (hw : wnc a r q s = 0) : ∃ h', f_X1_carry h (nI r) (nI q) (nI s) = some h' ∧ Hc h' (crA a r q s) := by
  obtain ⟨c1, c2, c3⟩ := wnc_0 hw
  obtain ⟨b1, b2, b3, b4, b5, b6, b7, b8⟩ := hH
  have e1 := (b4 r hr).1 s hs
  have e2 := (b4 q hq).1 s hs
  refine ⟨H_set_measure h (upd (upd (H_measure h) (r * 6 + s) (H_measure h (r * 6 + s) - 1)) (q * 6 + s) (upd (H_measure h) (r * 6 + s) (H_measure h (r * 6 + s) - 1) (q * 6 + s) + 1)), ?_, ?_⟩
  · unfold f_X1_carry
    rw [ix6, ix6, chk_nI (by omega) (by decide), chk_nI (by omega) (by decide), nI_clamp (by omega), nI_clamp (by omega), ltA_eq, chk_nI (by omega) (by decide), chk_nI (by omega) (by decide), ltA_eq]
  · have ee : ∀ k, upd (upd (H_measure h) (r * 6 + s) (H_measure h (r * 6 + s) - 1)) (q * 6 + s) (upd (H_measure h) (r * 6 + s) (H_measure h (r * 6 + s) - 1) (q * 6 + s) + 1) k = if k = q * 6 + s then nI (a_th a q s + 1) else if k = r * 6 + s then nI (a_th a r s - 1) else H_measure h k := by
      intro k
      rw [pk_un (show q * 6 + s ≠ r * 6 + s by omega), e1, e2]
      by_cases q1 : k = q * 6 + s
      · rw [q1, pk_us, if_pos rfl, nI_1]
      · rw [pk_un q1, if_neg q1]
        by_cases q2 : k = r * 6 + s
        · rw [q2, pk_us, if_pos rfl]; exact pk_sub (b := 1) c2
        · rw [pk_un q2, if_neg q2]
    refine ⟨b1, b2, b3, fun r' hr' => ⟨fun s' hs' => ?_, ?_, ?_⟩, b5, b6, b7, b8⟩
    · refine (ee _).trans ?_
      show _ = nI (crT a r q s r' s')
      unfold crT
      by_cases q1 : r' = q ∧ s' = s
      · rw [if_pos (by omega), if_pos q1]
      · rw [if_neg (by omega), if_neg q1]
        by_cases q2 : r' = r ∧ s' = s
        · rw [if_pos (by omega), if_pos q2]
        · rw [if_neg (by omega), if_neg q2]; exact (b4 r' hr').1 s' hs'
    · refine (ee _).trans ?_
      rw [if_neg (by omega), if_neg (by omega)]; exact (b4 r' hr').2.1
    · refine (ee _).trans ?_
      rw [if_neg (by omega), if_neg (by omega)]; exact (b4 r' hr').2.2
theorem rcarry_spec {w : MS} {a : AS} {lo : Nat → Nat → Bool} (hM : Mx0 w a lo) {r q s : Nat} (hr : r < 6) (hq : q < 6) (hs : s < 4) (hw : wnc a r q s = 0) : ∃ w', f_X9_carry w (nI r) (nI q) (nI s) = some w' ∧ mkeep w' = mkeep w ∧ Mx0 w' (crA a r q s) lo ∧ mrest w' = mrest w := by
  obtain ⟨c1, c2, c3⟩ := wnc_0 hw
  have e1 := gt_th hM.1 hr hs
  have e2 := gt_th hM.1 hq hs
  obtain ⟨y1, ey1⟩ : ∃ x, x = M_set_thingsNow w (upd (M_thingsNow w) (4 * r + s) (M_thingsNow w (4 * r + s) - 1)) := ⟨_, rfl⟩
  obtain ⟨a1, b1, d1⟩ := sx_thingsNow ey1
  obtain ⟨y2, ey2⟩ : ∃ x, x = M_set_thingsNow y1 (upd (M_thingsNow y1) (4 * q + s) (M_thingsNow y1 (4 * q + s) + 1)) := ⟨_, rfl⟩
  obtain ⟨a2, b2, d2⟩ := sx_thingsNow ey2
  have f1 : M_thingsNow y1 = upd (M_thingsNow w) (4 * r + s) (M_thingsNow w (4 * r + s) - 1) := congrArg (fun m => m.2.2.2.2.1) b1
  have f2 : M_thingsNow y2 = upd (M_thingsNow y1) (4 * q + s) (M_thingsNow y1 (4 * q + s) + 1) := congrArg (fun m => m.2.2.2.2.1) b2
  have g1 : M_at y2 = M_at w := (congrArg (fun m => m.1) b2).trans (congrArg (fun m => m.1) b1)
  have g2 : M_busyNow y2 = M_busyNow w := (congrArg (fun m => m.2.1) b2).trans (congrArg (fun m => m.2.1) b1)
  have g3 : M_withNow y2 = M_withNow w := (congrArg (fun m => m.2.2.1) b2).trans (congrArg (fun m => m.2.2.1) b1)
  have g4 : M_leftNow y2 = M_leftNow w := (congrArg (fun m => m.2.2.2.1) b2).trans (congrArg (fun m => m.2.2.2.1) b1)
  have g5 : M_loose y2 = M_loose w := (congrArg (fun m => m.2.2.2.2.2.1) b2).trans (congrArg (fun m => m.2.2.2.2.2.1) b1)
  refine ⟨y2, ?_, a2.trans a1, hM.now (Mc_now (a2.trans a1) hM.1 rfl rfl rfl rfl rfl rfl rfl rfl (fun r' s' hr' hs' => ?_) (fun _ _ _ _ _ => rfl) (fun j hj hi => by rw [g1, g2, g3, g4]; exact gt_now hM.1 hj hi)) g5, d2.trans d1⟩
  · unfold f_X9_carry
    rw [ix4', ix4', chk_nI (by omega) (by decide), chk_nI (by omega) (by decide), nI_clamp (by omega), nI_clamp (by omega), ltA_eq, ← ey1, chk_nI (by omega) (by decide), chk_nI (by omega) (by decide), ltA_eq, ← ey2]
  · rw [f2, f1, pk_un (show 4 * q + s ≠ 4 * r + s by omega), e1, e2]
    show _ = nI (crT a r q s r' s')
    unfold crT
    by_cases q1 : r' = q ∧ s' = s
    · rw [if_pos q1, q1.1, q1.2, pk_us, nI_1]
    · rw [pk_un (by omega), if_neg q1]
      by_cases q2 : r' = r ∧ s' = s
      · rw [if_pos q2, q2.1, q2.2, pk_us]; exact pk_sub (b := 1) c2
      · rw [pk_un (by omega), if_neg q2]; exact gt_th hM.1 hr' hs'
/-- which ways to carry -/
def cnB (a : AS) (i : Nat) : Bool := decide (i / 24 < a_R a) && decide (i / 4 % 6 < a_R a) && (wnc a (i / 24) (i / 4 % 6) (i % 4) == 0)
/-- the fullest room behind m minutes, once the thing is carried -/
def fcA (a : AS) (m i : Nat) : Nat := mxA (minN lo0 (crA a (i / 24) (i / 4 % 6) (i % 4)) m) (a_R a)
def cdA (a : AS) (m : Nat) : Nat → Nat × Nat
  | 0 => (mxA (minN lo0 a m) (a_R a), 0)
  | i + 1 => if cnB a i = true ∧ fcA a m i < (cdA a m i).1 then (fcA a m i, 100 * (i / 24 + 1) + 10 * (i / 4 % 6) + i % 4) else cdA a m i
theorem cdA_s (a : AS) (m i : Nat) : cdA a m (i + 1) = if cnB a i = true ∧ fcA a m i < (cdA a m i).1 then (fcA a m i, 100 * (i / 24 + 1) + 10 * (i / 4 % 6) + i % 4) else cdA a m i := rfl
theorem cdA_le (a : AS) (m : Nat) : ∀ i, (cdA a m i).1 ≤ 8
  | 0 => mxA_le _ _
  | i + 1 => by
    rw [cdA_s]
    split
    · exact mxA_le _ _
    · exact cdA_le a m i
theorem cbehind_spec {h : HS} {a : AS} (hI : Inv a) (hH : Hc h a) (d : DS) {m : Nat} (hm : m < 1000) : ∃ d', f_X8_fullestBehind h d (nI m) = some (nI (mxA (minN lo0 a m) (a_R a)), d') := by
  obtain ⟨d1, b1, b2⟩ := begin_spec (d := d) hI hH
  obtain ⟨d2, gn, c1, c2⟩ := run_spec hI (Lo0 a) b2 hm
  have ef := cfull_spec (Inv_minN hI lo0 m) c2
  rw [(minN_keep hI lo0 m).1] at ef
  refine ⟨d2, ?_⟩
  unfold f_X8_fullestBehind
  rw [b1, Option.bind_some, c1, Option.bind_some, ef, Option.bind_some]
theorem ccarrying_spec {h : HS} {a : AS} (hI : Inv a) (hH : Hc h a) (d : DS) {m r q s : Nat} (hm : m < 1000) (hr : r < 6) (hq : q < 6) (hs : s < 4) (hw : wnc a r q s = 0) : ∃ d', f_X8_fullestCarrying h d (nI r) (nI q) (nI s) (nI m) = some (nI (mxA (minN lo0 (crA a r q s) m) (a_R a)), d') := by
  obtain ⟨h1, e1, e2⟩ := copy_Hc (h := D_house d) hI.1.2.2.2 hH
  obtain ⟨h2, e3, e4⟩ := ccarry_spec hI e2 hr hq hs hw
  have hIc := Inv_cr hI hr hq hs hw
  obtain ⟨d1, b1, b2⟩ := ready_spec (d := D_set_house d h2) hIc e4
  obtain ⟨d2, gn, c1, c2⟩ := run_spec hIc (Lo0 _) b2 hm
  have ef := cfull_spec (Inv_minN hIc lo0 m) c2
  rw [(minN_keep hIc lo0 m).1] at ef
  refine ⟨d2, ?_⟩
  unfold f_X8_fullestCarrying
  rw [e1, Option.bind_some, e3, Option.bind_some, b1, Option.bind_some, c1, Option.bind_some, ef, Option.bind_some]
  rfl
theorem isRoom_at {h : HS} {a : AS} (hI : Inv a) (hH : Hc h a) {r : Nat} (hr : r < 1000) : f_X1_isRoom h (nI r) = some (if r < a_R a then 1 else 0) := by
  have hR6 := hI.1.2.1
  unfold f_X1_isRoom
  rw [if_neg (nI_pos (by omega)), hH.1]
  by_cases c : r < a_R a
  · rw [if_neg (nI_ge c (by omega)), if_pos c]
  · rw [if_pos (nI_le (by omega) (by omega)), if_neg c]
theorem dv24 {i : Nat} (hi : i < 144) : nI i / (24 : Int32) = nI (i / 24) := pk_div (by omega) (by decide) (by decide)
theorem dv46 {i : Nat} (hi : i < 144) : (nI i / (4 : Int32)) - (nI i / (4 : Int32)) / (6 : Int32) * (6 : Int32) = nI (i / 4 % 6) := by
  rw [show nI i / (4 : Int32) = nI (i / 4) from pk_div (by omega) (by decide) (by decide)]
  exact pk_rem (d := 6) (by omega) (by decide) (by decide)
theorem md4 {i : Nat} (hi : i < 144) : nI i - nI i / (4 : Int32) * (4 : Int32) = nI (i % 4) := pk_rem (d := 4) (by omega) (by decide) (by decide)
theorem code_i (r q s : Nat) : ((100 : Int32) * (nI r + 1)) + ((10 : Int32) * nI q) + nI s = nI (100 * (r + 1) + 10 * q + s) := by
  rw [nI_1, show (100 : Int32) = nI 100 from rfl, show (10 : Int32) = nI 10 from rfl, pk_mul, pk_mul, nI_add, nI_add]
