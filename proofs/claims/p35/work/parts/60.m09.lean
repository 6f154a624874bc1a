/-! 98o.rests -/
section
/-! rests returns on both sides: the class -/
def TOk (R m : Nat) (rs : TS) : Prop := T_members rs = nI m ∧ T_rooms rs = nI R
section TC
variable {R m : Nat} {rs : TS}
theorem cont_tot (hR : R ≤ 6) (hT : T_rooms rs = nI R) {i r : Nat} (hi : i < 6) (hr : r < 6) : ∃ v, f_X4_isContent rs (nI i) (nI r) = some v := by
  obtain ⟨N, hN, hFU⟩ := FU_ex
  unfold f_X4_isContent
  rw [ix6, chk_nI (show i * 6 + r < 36 by omega) (by decide), chk_nI hi (by decide), chk_nI hr (by decide), chk_nI hr (by decide), hFU]
  generalize (T_taste rs (nI (i * 6 + r)).toNatClampNeg + T_company rs (nI i).toNatClampNeg * (T_fixed rs (nI r).toNatClampNeg + T_share rs (nI r).toNatClampNeg - 1)) = x3
  refine it_rule (bot := fun _ _ _ _ _ => none) R (fun _ (_ : Unit) => True) (fun k j _ => ∃ v, k rs (nI i) (nI r) x3 (nI j) = some v) ?_ ?_ N 0 () (by omega) (by omega) trivial
  · intro k _ _
    unfold X4_isContent_B38
    rw [hT, if_pos (Int32.le_refl _)]
    exact ⟨_, rfl⟩
  · intro k j _ hj _ hk
    have hk := hk () trivial
    have hj6 : j < 6 := by omega
    have z0 : ∀ x, ∃ v, X4_isContent_J87 k rs (nI i) (nI r) x3 (nI j) x 0 = some v := fun x => by
      unfold X4_isContent_J87 X4_isContent_J122
      rw [if_pos rfl, nI_1]; exact hk
    have z1 : ∀ x, ∃ v, X4_isContent_J87 k rs (nI i) (nI r) x3 (nI j) x 1 = some v := fun x => by
      unfold X4_isContent_J87 X4_isContent_J122
      rw [if_neg (by decide), ix6, chk_nI (show i * 6 + j < 36 by omega) (by decide), chk_nI hi (by decide), nI_1]
      split
      · exact hk
      · exact ⟨_, rfl⟩
    unfold X4_isContent_B38 X4_isContent_J86
    rw [hT, if_neg (nI_ge hj (by omega)), chk_nI hj6 (by decide), chk_nI hj6 (by decide), chk_nI hj6 (by decide)]
    split
    · exact z0 _
    · split
      · exact z0 _
      · exact z1 _
theorem cr_tot (hR : R ≤ 6) (hT : T_rooms rs = nI R) {i : Nat} (hi : i < 6) : ∃ v, f_X4_contentRooms rs (nI i) = some v := by
  obtain ⟨N, hN, hFU⟩ := FU_ex
  unfold f_X4_contentRooms
  rw [hFU]
  refine it_rule (bot := fun _ _ _ _ => none) R (fun _ (_ : Int32) => True) (fun k j x => ∃ v, k rs (nI i) x (nI j) = some v) ?_ ?_ N 0 0 (by omega) (by omega) trivial
  · intro k x _
    unfold X4_contentRooms_B4
    rw [hT, if_pos (Int32.le_refl _)]
    exact ⟨_, rfl⟩
  · intro k j x hj _ hk
    obtain ⟨q, hq⟩ := cont_tot hR hT hi (show j < 6 by omega)
    unfold X4_contentRooms_B4 X4_contentRooms_J36
    rw [hT, if_neg (nI_ge hj (by omega)), chk_nI (show j < 6 by omega) (by decide), hq, Option.bind_some, nI_1]
    split
    · exact hk _ trivial
    · split
      · exact hk _ trivial
      · exact hk _ trivial
theorem put_tot (hR : R ≤ 6) (hm : m ≤ 6) : ∀ n d i (rs : TS) (x2 : Int32), d < n → i + d = m → TOk R m rs → ∃ rs', it X4_put_R (fun _ _ _ => none) n rs (nI i) x2 = some rs' ∧ TOk R m rs'
  | 0, d, i, rs, x2, h, _, _ => absurd h (Nat.not_lt_zero _)
  | n + 1, d, i, rs, x2, hd, hi, hT => by
    obtain ⟨N, hN, hFU⟩ := FU_ex
    have ih := put_tot hR hm n
    obtain ⟨kS, hkS⟩ : ∃ kS, kS = it X4_put_R (fun _ _ _ => none) n := ⟨_, rfl⟩
    rw [← hkS] at ih
    show ∃ rs', X4_put_R (it X4_put_R (fun _ _ _ => none) n) rs (nI i) x2 = some rs' ∧ _
    rw [← hkS]
    unfold X4_put_R
    by_cases c : i < m
    · rw [hT.1, if_pos (nI_lt c (by omega)), hFU]
      have hi6 : i < 6 := by omega
      refine it_rule (bot := fun _ _ _ _ => none) R (fun _ (s : TS) => TOk R m s) (fun k j s => ∃ rs', k s (nI i) x2 (nI j) = some rs' ∧ TOk R m rs') ?_ ?_ N 0 rs (by omega) (by omega) hT
      · intro k s hs
        unfold X4_put_B44
        rw [hs.2, if_pos (Int32.le_refl _)]
        exact ⟨_, rfl, hs⟩
      · intro k j s hj hs hk
        have hj6 : j < 6 := by omega
        obtain ⟨s', e1, e2⟩ := ih (d - 1) (i + 1) (T_set_share s (upd (T_share s) j (T_share s j - 1))) (x2 * 10 + nI j) (by omega) (by omega) hs
        unfold X4_put_B44 X4_put_J108
        rw [hs.2, if_neg (nI_ge hj (by omega)), chk_nI hi6 (by decide), chk_nI hj6 (by decide), chk_nI hj6 (by decide), chk_nI hj6 (by decide), nI_1, nI_1, ltA_eq, nI_clamp (show j < 2 ^ 31 by omega), e1, Option.bind_some, chk_nI hj6 (by decide), chk_nI hj6 (by decide), ltA_eq]
        split
        · split
          · exact hk s hs
          · exact hk _ e2
        · exact hk s hs
    · rw [hT.1, if_neg (nI_nlt (by omega) (by omega))]
      unfold X4_put_J28
      split
      · exact ⟨_, rfl, hT⟩
      · exact ⟨_, rfl, hT⟩
theorem weigh_tot (hR : R ≤ 6) (hm : m ≤ 6) (hT : TOk R m rs) : ∃ rs', f_X4_weigh rs = some rs' ∧ TOk R m rs' := by
  obtain ⟨N, hN, hFU⟩ := FU_ex
  unfold f_X4_weigh
  rw [hFU]
  refine it_rule (bot := fun _ _ => none) m (fun _ (s : TS) => TOk R m s) (fun k i s => ∃ rs', k s (nI i) = some rs' ∧ TOk R m rs') ?_ ?_ N 0 rs (by omega) (by omega) hT
  · intro k s hs
    obtain ⟨s', e1, e2⟩ := put_tot hR hm 9 m 0 s 0 (by omega) (by omega) hs
    unfold X4_weigh_B2
    rw [hs.1, if_pos (Int32.le_refl _)]
    have e1 : f_X4_put s 0 0 = some s' := e1
    rw [e1, Option.bind_some]
    exact ⟨_, rfl, e2⟩
  · intro k i s hi hs hk
    have hi6 : i < 6 := by omega
    obtain ⟨q, hq⟩ := cr_tot hR hs.2 hi6
    unfold X4_weigh_B2
    rw [hs.1, if_neg (nI_ge hi (by omega)), hq, Option.bind_some, chk_nI hi6 (by decide), ltA_eq, chk_nI hi6 (by decide), nI_1]
    split
    · exact ⟨_, rfl, hs⟩
    · exact hk _ hs
theorem deal_tot (hR : R ≤ 6) (hm : m ≤ 6) : ∀ n d i y (rs : TS), d < n → i + d = R → y ≤ 6 → TOk R m rs → ∃ rs', it X4_deal_R (fun _ _ _ => none) n rs (nI i) (nI y) = some rs' ∧ TOk R m rs'
  | 0, d, i, y, rs, h, _, _, _ => absurd h (Nat.not_lt_zero _)
  | n + 1, d, i, y, rs, hd, hi, hy, hT => by
    obtain ⟨N, hN, hFU⟩ := FU_ex
    have ih := deal_tot hR hm n
    obtain ⟨kS, hkS⟩ : ∃ kS, kS = it X4_deal_R (fun _ _ _ => none) n := ⟨_, rfl⟩
    rw [← hkS] at ih
    show ∃ rs', X4_deal_R (it X4_deal_R (fun _ _ _ => none) n) rs (nI i) (nI y) = some rs' ∧ _
    rw [← hkS]
    unfold X4_deal_R
    by_cases c : i < R
    · have hi6 : i < 6 := by omega
      rw [hT.2, if_pos (nI_lt c (by omega)), chk_nI hi6 (by decide), chk_nI hi6 (by decide)]
      have lp : ∀ x : Int32, x ≤ nI y → ∃ rs', it (X4_deal_B38 kS) (fun _ _ _ _ _ => none) FU rs (nI i) (nI y) x 0 = some rs' ∧ TOk R m rs' := by
        intro x hx
        rw [hFU]
        by_cases x0 : x < 0
        · obtain ⟨N, rfl⟩ : ∃ M, N = M + 1 := ⟨N - 1, by omega⟩
          rw [it_s]
          unfold X4_deal_B38
          rw [if_pos x0]
          exact ⟨_, rfl, hT⟩
        · obtain ⟨t, ht', rfl⟩ := nI_of x0
          have ht : t ≤ y := (nI_leI ht' (by omega)).mp hx
          refine it_rule (bot := fun _ _ _ _ _ => none) (t + 1) (fun _ (s : TS) => TOk R m s) (fun k j s => ∃ rs', k s (nI i) (nI y) (nI t) (nI j) = some rs' ∧ TOk R m rs') ?_ ?_ N 0 rs (by omega) (by omega) hT
          · intro k s hs
            unfold X4_deal_B38
            rw [if_pos (nI_lt (by omega) (by omega))]
            exact ⟨_, rfl, hs⟩
          · intro k j s hj hs hk
            obtain ⟨s', e1, e2⟩ := ih (d - 1) (i + 1) (y - j) (T_set_share s (upd (T_share s) i (nI j))) (by omega) (by omega) (by omega) hs
            unfold X4_deal_B38
            rw [if_neg (nI_nlt (by omega) (by omega)), chk_nI hi6 (by decide), ltA_eq, nI_clamp (show i < 2 ^ 31 by omega), nI_1, pk_sub (by omega), e1, Option.bind_some, nI_1]
            exact hk s' e2
      refine lp _ ?_
      split
      · rename_i h; exact Int32.le_of_lt h
      · exact Int32.le_refl _
    · rw [hT.2, if_neg (nI_nlt (by omega) (by omega))]
      split
      · obtain ⟨s', e1, e2⟩ := weigh_tot hR hm hT
        rw [e1, Option.bind_some]
        exact ⟨_, rfl, e2⟩
      · exact ⟨_, rfl, hT⟩
end TC
section TF
variable {b : AS} {h : HS}
theorem sz_spec (hI : Inv b) (hH : Hc h b) {r : Nat} (hr : r < 6) : f_X1_sizeOf h (nI r) = some (nI (a_sz b r)) := by
  unfold f_X1_sizeOf
  rw [show (4 : Int32) = nI 4 from rfl, ix6, chk_nI (by omega) (by decide), nI_clamp (by omega), (hH.2.2.2.1 r hr).2.1]
theorem enl_tot (hI : Inv b) (hH : Hc h b) {rs : TS} {m g : Nat} (hm : m < 6) (hg : g < 8) (hT : TOk (a_R b) m rs) : ∃ rs', f_X4_enlist rs h (nI g) = some rs' ∧ TOk (a_R b) (m + 1) rs' := by
  obtain ⟨N, hN, hFU⟩ := FU_ex
  have hR := hI.1.2.1
  unfold f_X4_enlist
  rw [hT.1, chk_nI hm (by decide), ltA_eq, show (4 : Int32) = nI 4 from rfl, ix5, chk_nI (show g * 5 + 4 < 40 by omega) (by decide), chk_nI hm (by decide), ltA_eq, hFU]
  refine it_rule (bot := fun _ _ _ _ => none) (a_R b) (fun _ (s : TS) => TOk (a_R b) m s) (fun k j s => ∃ rs', k s h (nI g) (nI j) = some rs' ∧ TOk (a_R b) (m + 1) rs') ?_ ?_ N 0 _ (by omega) (by omega) hT
  · intro k s hs
    unfold X4_enlist_B31
    rw [hs.2, if_pos (Int32.le_refl _)]
    refine ⟨_, rfl, ?_, hs.2⟩
    show T_members s + 1 = _
    rw [hs.1, nI_1]
  · intro k j s hj hs hk
    unfold X4_enlist_B31
    rw [hs.2, if_neg (nI_ge hj (by omega)), things_spec hH hg (show j < 6 by omega), Option.bind_some, hs.1, ix6, chk_nI (show m * 6 + j < 36 by omega) (by decide), ltA_eq, nI_1]
    exact hk _ hs
theorem isIn_tot (x y : Int32) : ∃ v, f_X8_isIn x y = some v := by
  unfold f_X8_isIn
  split
  · exact ⟨_, rfl⟩
  · split
    · exact ⟨_, rfl⟩
    · split
      · exact ⟨_, rfl⟩
      · exact ⟨_, rfl⟩
theorem bc_tot (x : Int32) : ∃ v, f_J6_bitCount_0f7a4 x = some v := ⟨_, rfl⟩
theorem find_tot (hI : Inv b) (hH : Hc h b) (rs : TS) (x2 : Int32) : ∃ rs' m, f_X4_find rs h x2 = some rs' ∧ m ≤ 6 ∧ TOk (a_R b) m rs' := by
  obtain ⟨N, hN, hFU⟩ := FU_ex
  have hR := hI.1.2.1
  have l2 : ∀ (s : TS) m, m ≤ 6 → TOk (a_R b) m s → ∃ rs' m, it X4_find_B62 (fun _ _ _ _ => none) FU s h x2 0 = some rs' ∧ m ≤ 6 ∧ TOk (a_R b) m rs' := by
    intro s m hm hs
    rw [hFU]
    refine it_rule (bot := fun _ _ _ _ => none) (a_R b) (fun _ (s : TS) => TOk (a_R b) m s) (fun k j s => ∃ rs' m, k s h x2 (nI j) = some rs' ∧ m ≤ 6 ∧ TOk (a_R b) m rs') ?_ ?_ N 0 s (by omega) (by omega) hs
    · intro k s hs
      obtain ⟨s', e1, e2⟩ := deal_tot hR hm 9 (a_R b) 0 m s (by omega) (by omega) hm hs
      have e1 : f_X4_deal s 0 (nI m) = some s' := e1
      unfold X4_find_B62
      rw [hs.2, if_pos (Int32.le_refl _), hs.1, e1, Option.bind_some]
      exact ⟨_, m, rfl, hm, e2⟩
    · intro k j s hj hs hk
      obtain ⟨q, hq⟩ := bc_tot (nI (msk (fun g => a_is b g && a_pl b g == j) 8) &&& (x2 ^^^ (-1 : Int32)))
      unfold X4_find_B62
      rw [hs.2, if_neg (nI_ge hj (by omega)), sz_spec hI hH (show j < 6 by omega), Option.bind_some, chk_nI (show j < 6 by omega) (by decide), ltA_eq, bitsIn_spec hI hH (show j < 2 ^ 31 by omega), Option.bind_some, hq, Option.bind_some, chk_nI (show j < 6 by omega) (by decide), ltA_eq, nI_1]
      exact hk _ hs
  unfold f_X4_find
  rw [hFU]
  refine it_rule (bot := fun _ _ _ _ => none) 8 (fun _ (s : TS) => ∃ m, m ≤ 6 ∧ TOk (a_R b) m s) (fun k j s => ∃ rs' m, k s h x2 (nI j) = some rs' ∧ m ≤ 6 ∧ TOk (a_R b) m rs') ?_ ?_ N 0 _ (by omega) (by omega) ⟨0, by omega, rfl, hH.1⟩
  · intro k s ⟨m, hm, hs⟩
    unfold X4_find_B25
    rw [if_pos (by decide)]
    exact l2 s m hm hs
  · intro k j s hj ⟨m, hm, hs⟩ hk
    obtain ⟨q, hq⟩ := isIn_tot x2 (nI j)
    unfold X4_find_B25 X4_find_J54
    rw [if_neg (show ¬ (8 : Int32) ≤ nI j from nlit (by decide) hj), hq, Option.bind_some, nI_1]
    by_cases c : q = 0
    · rw [if_pos c]; exact hk s ⟨m, hm, hs⟩
    · rw [if_neg c, hs.1]
      by_cases d : m < 6
      · obtain ⟨s', e1, e2⟩ := enl_tot hI hH d hj hs
        rw [if_neg (show ¬ (6 : Int32) ≤ nI m from nlit (by decide) d), e1, Option.bind_some]
        exact hk s' ⟨m + 1, by omega, e2⟩
      · rw [if_pos (show (6 : Int32) ≤ nI m from nI_le (a := 6) (by omega) (by omega))]
        exact hk s ⟨m, hm, hs⟩
theorem ro_tot {R m : Nat} (hm : m ≤ 6) {rs : TS} (hT : TOk R m rs) (x1 : Int32) : ∃ v, f_X4_roomOf rs x1 = some v := by
  obtain ⟨N, hN, hFU⟩ := FU_ex
  unfold f_X4_roomOf
  split
  · exact ⟨_, rfl⟩
  · rw [hT.1, hFU]
    have q : ∃ v, it X4_roomOf_B22 (fun _ _ _ _ => none) N rs x1 (T_first rs) (nI (m - 0) - 1) = some v := by
      refine it_rule (bot := fun _ _ _ _ => none) m (fun _ (_ : Int32) => True) (fun k i x => ∃ v, k rs x1 x (nI (m - i) - 1) = some v) ?_ ?_ N 0 (T_first rs) (by omega) (by omega) trivial
      · intro k x _
        unfold X4_roomOf_B22
        rw [Nat.sub_self, if_pos (by decide)]
        exact ⟨_, rfl⟩
      · intro k i x hi _ hk
        obtain ⟨t, ht⟩ : ∃ t, t = m - (i + 1) := ⟨_, rfl⟩
        rw [← ht] at hk
        rw [show m - i = t + 1 by omega, nI_pred]
        unfold X4_roomOf_B22
        rw [if_neg (nI_pos (by omega)), chk_nI (show t < 6 by omega) (by decide), ← Int32.sub_eq_add_neg]
        split
        · exact ⟨_, rfl⟩
        · exact hk _ trivial
    exact q
theorem crests_tot (hI : Inv b) (hH : Hc h b) (rs : TS) (x1 x2 : Int32) : ∃ q, f_X8_rests h rs x1 x2 = some q := by
  have j : ∃ q, X8_rests_J43 h rs x1 x2 = some q := by
    obtain ⟨q, hq⟩ := bc_tot x1
    obtain ⟨s, m, e1, e2, e3⟩ := find_tot hI hH rs x1
    obtain ⟨v, hv⟩ := ro_tot e2 e3 x2
    unfold X8_rests_J43
    rw [hq, Option.bind_some, e1, Option.bind_some, hv, Option.bind_some]
    split
    · split
      · exact ⟨_, rfl⟩
      · exact ⟨_, rfl⟩
    · exact ⟨_, rfl⟩
  obtain ⟨q, hq⟩ := isIn_tot x1 x2
  unfold f_X8_rests
  rw [hq, Option.bind_some]
  split
  · exact ⟨_, rfl⟩
  · split
    · exact ⟨_, rfl⟩
    · split
      · split
        · exact j
        · split
          · exact ⟨_, rfl⟩
          · exact j
      · exact ⟨_, rfl⟩
end TF
end
/-! 98p.rests2 -/
section
/-! rests returns on both sides: the reference -/
theorem has_tot (x y : Int32) : ∃ v, f_X9_has x y = some v := by
  unfold f_X9_has
  split
  · exact ⟨_, rfl⟩
  · exact ⟨_, rfl⟩
theorem in_tot (x y w : Int32) : ∃ v, f_X9_in x y w = some v := by
  unfold f_X9_in
  split
  · exact ⟨_, rfl⟩
  · split
    · exact ⟨_, rfl⟩
    · exact ⟨_, rfl⟩
theorem cin_tot (z : MS) (x1 x2 : Int32) : ∃ v, f_X9_countIn z x1 x2 = some v := by
  obtain ⟨N, hN, hFU⟩ := FU_ex
  unfold f_X9_countIn
  rw [hFU]
  refine it_rule (bot := fun _ _ _ _ _ => none) 8 (fun _ (_ : Int32) => True) (fun k j x => ∃ v, k z x1 x2 x (nI j) = some v) ?_ ?_ N 0 0 (by omega) (by omega) trivial
  · intro k x _
    unfold X9_countIn_B5
    rw [if_pos (by decide)]
    exact ⟨_, rfl⟩
  · intro k j x hj _ hk
    obtain ⟨q, hq⟩ := has_tot (M_there z) (nI j)
    unfold X9_countIn_B5 X9_countIn_J46 X9_countIn_J47
    rw [if_neg (show ¬ (8 : Int32) ≤ nI j from nlit (by decide) hj), hq, Option.bind_some, chk_nI hj (by decide), nI_1]
    split
    · exact hk _ trivial
    · split
      · exact hk _ trivial
      · split
        · exact hk _ trivial
        · exact hk _ trivial
theorem dof_tot (z : MS) {g r : Nat} (hg : g < 8) (hr : r < 6) : ∃ v, f_X9_drawOf z (nI g) (nI r) (-6) 0 = some v := by
  obtain ⟨N, hN, hFU⟩ := FU_ex
  obtain ⟨q, hq⟩ := cin_tot z (nI r) (nI g)
  unfold f_X9_drawOf X9_drawOf_J20
  rw [if_neg (by decide), show (4 : Int32) = nI 4 from rfl, ix5', chk_nI (show 5 * g + 4 < 40 by omega) (by decide), hq, Option.bind_some, hFU]
  refine it_rule (bot := fun _ _ _ _ _ _ _ => none) 4 (fun _ (_ : Int32) => True) (fun k j x => ∃ v, k z (nI g) (nI r) (-6) 0 x (nI j) = some v) ?_ ?_ N 0 _ (by omega) (by omega) trivial
  · intro k x _
    unfold X9_drawOf_B32
    rw [if_pos (by decide)]
    exact ⟨_, rfl⟩
  · intro k j x hj _ hk
    unfold X9_drawOf_B32 X9_drawOf_J62
    rw [if_neg (show ¬ (4 : Int32) ≤ nI j from nlit (by decide) hj), ix5', chk_nI (show 5 * g + j < 40 by omega) (by decide), ix4', chk_nI (show 4 * r + j < 24 by omega) (by decide), chk_nI (show 4 * r + j < 24 by omega) (by decide), nI_1]
    split
    · exact hk _ trivial
    · exact hk _ trivial
theorem rest_tot {z : MS} {R m : Nat} (hR : R ≤ 6) (eR : M_rooms z = nI R) (hm : m < 256) (hat : ∀ g, g < 8 → m.testBit g = true → ∃ p, p < 6 ∧ M_at z g = nI p) : ∃ v, f_X9_areAtRest z (nI m) = some v := by
  obtain ⟨N, hN, hFU⟩ := FU_ex
  have l3 : ∀ (k36 : MS → Int32 → Int32 → Option Int32) g (x : Int32), g < 8 → (∃ v, k36 z (nI m) (nI (g + 1)) = some v) → ∃ v, X9_areAtRest_J69 k36 z (nI m) (nI g) x = some v := by
    intro k36 g x hg hk
    unfold X9_areAtRest_J69
    rw [hFU]
    refine it_rule (bot := fun _ _ _ _ _ => none) R (fun _ (_ : Unit) => True) (fun k j _ => ∃ v, k z (nI m) (nI g) x (nI j) = some v) ?_ ?_ N 0 () (by omega) (by omega) trivial
    · intro k _ _
      unfold X9_areAtRest_B73 X9_areAtRest_J141
      rw [eR, if_pos (Int32.le_refl _), nI_1]
      exact hk
    · intro k j _ hj _ hkk
      have hkk := hkk () trivial
      obtain ⟨q, hq⟩ := has_tot (nI m) (nI g)
      obtain ⟨n, hn⟩ := cin_tot z (nI j) (-6)
      obtain ⟨t, ht⟩ := dof_tot z hg (show j < 6 by omega)
      unfold X9_areAtRest_B73 X9_areAtRest_J141 X9_areAtRest_J135
      rw [eR, if_neg (nI_ge hj (by omega)), hq, Option.bind_some, chk_nI hg (by decide), hn, Option.bind_some, chk_nI (show j < 6 by omega) (by decide), ht, Option.bind_some, nI_1, nI_1]
      split
      · exact hk
      · split
        · exact hkk
        · split
          · exact hkk
          · split
            · exact hkk
            · exact ⟨_, rfl⟩
  have l2 : ∃ v, it X9_areAtRest_B36 (fun _ _ _ => none) FU z (nI m) 0 = some v := by
    rw [hFU]
    refine it_rule (bot := fun _ _ _ => none) 8 (fun _ (_ : Unit) => True) (fun k j _ => ∃ v, k z (nI m) (nI j) = some v) ?_ ?_ N 0 () (by omega) (by omega) trivial
    · intro k _ _
      unfold X9_areAtRest_B36
      rw [if_pos (by decide)]
      exact ⟨_, rfl⟩
    · intro k j _ hj _ hk
      have hk := hk () trivial
      unfold X9_areAtRest_B36
      rw [if_neg (show ¬ (8 : Int32) ≤ nI j from nlit (by decide) hj), has_b hm hj, Option.bind_some]
      cases e : m.testBit j
      · rw [if_pos (show (if false = true then (1 : Int32) else 0) = 0 from rfl)]
        exact l3 k j _ hj hk
      · obtain ⟨p, hp, ep⟩ := hat j hj e
        obtain ⟨t, ht⟩ := dof_tot z hj hp
        rw [if_pos rfl, if_neg (by decide), chk_nI hj (by decide), nI_clamp (by omega), ep, ht, Option.bind_some]
        exact l3 k j _ hj hk
  unfold f_X9_areAtRest
  rw [hFU]
  refine it_rule (bot := fun _ _ _ => none) R (fun _ (_ : Unit) => True) (fun k j _ => ∃ v, k z (nI m) (nI j) = some v) ?_ ?_ N 0 () (by omega) (by omega) trivial
  · intro k _ _
    unfold X9_areAtRest_B2
    rw [eR, if_pos (Int32.le_refl _)]
    exact l2
  · intro k j _ hj _ hk
    obtain ⟨n, hn⟩ := cin_tot z (nI j) (-6)
    unfold X9_areAtRest_B2
    rw [eR, if_neg (nI_ge hj (by omega)), hn, Option.bind_some, chk_nI (show j < 6 by omega) (by decide), nI_1]
    split
    · exact hk () trivial
    · exact ⟨_, rfl⟩
section RR
variable {a : AS} {z : MS}
theorem pwR {R n : Nat} (hR : R ≤ 6) (hn : n ≤ 6) : R ^ n ≤ 46656 := Nat.le_trans (Nat.pow_le_pow_left hR n) (Nat.le_trans (Nat.pow_le_pow_right (by decide) hn) (by decide))
theorem cnt_up (p : Nat → Bool) {i j : Nat} (h : i ≤ j) : cnt p i ≤ cnt p j := by
  induction j with
  | zero => rw [show i = 0 by omega]; exact Nat.le_refl _
  | succ j ih =>
    by_cases e : i = j + 1
    · rw [e]; exact Nat.le_refl _
    · have := ih (by omega)
      rw [cnt_s]; omega
/-- one way of putting them -/
theorem r115 (hI : Inv a) (hM : Mc (mcore z) a) {m : Nat} (hm : m < 256) (hn : cnt (fun j => m.testBit j) 8 ≤ 6) {x2 : Int32} (hx2 : x2 < 0 ∨ ∃ g, g < 8 ∧ x2 = nI g) {w : MS} (hw : mkeep w = mkeep z) (k99 : MS → Int32 → Int32 → Int32 → Int32 → Int32 → Int32 → Option (Int32 × MS)) (x3 x4 x5 : Int32) {i : Nat} (hi : i < 2 ^ 30) (P : Int32 × MS → Prop) (hk : ∀ w' y4 y5, mkeep w' = mkeep z → ∃ v, k99 w' (nI m) x2 x3 y4 y5 (nI (i + 1)) = some v ∧ P v) : ∃ v, it (X9_rests_B115 k99) (fun _ _ _ _ _ _ _ _ _ => none) FU w (nI m) x2 x3 x4 x5 (nI i) (nI (a_R a ^ cnt (fun j => m.testBit j) 8)) 0 = some v ∧ P v := by
  obtain ⟨N, hN, hFU⟩ := FU_ex
  have hR := hI.1.2.1
  have hR2 := hI.1.1
  obtain ⟨n, en⟩ : ∃ n, n = cnt (fun j => m.testBit j) 8 := ⟨_, rfl⟩
  rw [← en] at hn ⊢
  rw [hFU]
  have q : ∃ v, it (X9_rests_B115 k99) (fun _ _ _ _ _ _ _ _ _ => none) N w (nI m) x2 x3 x4 x5 (nI i) (nI (a_R a ^ (n - cnt (fun j => m.testBit j) 0))) (nI 0) = some v ∧ P v := by
    refine it_rule (bot := fun _ _ _ _ _ _ _ _ _ => none) 8 (fun j (s : MS) => mkeep s = mkeep z ∧ ∀ g, g < j → m.testBit g = true → ∃ p, p < 6 ∧ M_at s g = nI p) (fun k j s => ∃ v, k s (nI m) x2 x3 x4 x5 (nI i) (nI (a_R a ^ (n - cnt (fun j => m.testBit j) j))) (nI j) = some v ∧ P v) ?_ ?_ N 0 w (by omega) (by omega) ⟨hw, fun g hg => absurd hg (Nat.not_lt_zero _)⟩
    · intro k s ⟨s1, s2⟩
      obtain ⟨q, hq⟩ := rest_tot hR (kp_R s1 hM) hm s2
      have fin : ∀ y4 y5, ∃ v, X9_rests_J196 k99 s (nI m) x2 x3 y4 y5 (nI i) = some v ∧ P v := fun y4 y5 => by
        unfold X9_rests_J196
        rw [nI_1]
        exact hk s y4 y5 s1
      unfold X9_rests_B115 X9_rests_J189 X9_rests_J191
      rw [if_pos (by decide), hq, Option.bind_some]
      split
      · exact fin _ _
      · split
        · split
          · exact fin _ _
          · rename_i h0
            rcases hx2 with h1 | ⟨g, hg, rfl⟩
            · exact absurd h1 h0
            · rw [chk_nI hg (by decide)]
              exact fin _ _
        · exact fin _ _
    · intro k j s hj ⟨s1, s2⟩ hkk
      unfold X9_rests_B115 X9_rests_J157
      rw [if_neg (show ¬ (8 : Int32) ≤ nI j from nlit (by decide) hj), has_b hm hj, Option.bind_some, nI_1]
      have ec : cnt (fun j => m.testBit j) (j + 1) = cnt (fun j => m.testBit j) j + (if m.testBit j then 1 else 0) := cnt_s _ j
      cases e : m.testBit j
      · rw [e] at ec
        rw [if_pos (show (if false = true then (1 : Int32) else 0) = 0 from rfl)]
        have := hkk s ⟨s1, fun g hg hb => by
          by_cases c : g = j
          · rw [c, e] at hb; cases hb
          · exact s2 g (by omega) hb⟩
        rw [show cnt (fun j => m.testBit j) (j + 1) = cnt (fun j => m.testBit j) j from ec] at this
        exact this
      · rw [e] at ec
        have ec : cnt (fun j => m.testBit j) (j + 1) = cnt (fun j => m.testBit j) j + 1 := ec
        have hle : cnt (fun j => m.testBit j) (j + 1) ≤ n := by rw [en]; exact cnt_up _ (by omega)
        obtain ⟨t, ht⟩ : ∃ t, t = n - cnt (fun j => m.testBit j) (j + 1) := ⟨_, rfl⟩
        rw [← ht] at hkk
        rw [show n - cnt (fun j => m.testBit j) j = t + 1 by omega]
        have hp1 := pwR hR (show t + 1 ≤ 6 by omega)
        have hp0 : 0 < a_R a ^ t := Nat.pow_pos (by omega)
        have hpt := pwR hR (show t ≤ 6 by omega)
        have ed : nI (a_R a ^ (t + 1)) / nI (a_R a) = nI (a_R a ^ t) := by
          rw [pk_div (by omega) (by omega) (by omega), Nat.pow_succ, Nat.mul_div_cancel _ (by omega)]
        have hdv : i / a_R a ^ t ≤ i := Nat.div_le_self _ _
        rw [if_pos rfl, if_neg (by decide), kp_R s1 hM, nz_ok (nI_ne0 (by omega) (by omega)), ed, nz_ok (nI_ne0 hp0 (by omega)), nz_ok (nI_ne0 (by omega) (by omega)), chk_nI hj (by decide), ltA_eq, nI_clamp (show j < 2 ^ 31 by omega), pk_div (show i < 2 ^ 31 by omega) hp0 (by omega), pk_rem (by omega) (by omega) (by omega)]
        obtain ⟨y, ey⟩ : ∃ y, y = M_set_at s (upd (M_at s) j (nI (i / a_R a ^ t % a_R a))) := ⟨_, rfl⟩
        rw [← ey]
        obtain ⟨q1, q2, -⟩ := sx_at ey
        have q3 : M_at y = upd (M_at s) j (nI (i / a_R a ^ t % a_R a)) := congrArg (fun m => m.1) q2
        refine hkk y ⟨q1.trans s1, fun g hg hb => ?_⟩
        rw [q3]
        by_cases c : g = j
        · have hmod : i / a_R a ^ t % a_R a < a_R a := Nat.mod_lt _ (by omega)
          exact ⟨i / a_R a ^ t % a_R a, by omega, by rw [c, pk_us]⟩
        · obtain ⟨p, hp, ep⟩ := s2 g (by omega) hb
          exact ⟨p, hp, by rw [pk_un c, ep]⟩
  exact q
theorem r62 (hI : Inv a) (hM : Mc (mcore z) a) {m : Nat} (hm : m < 256) (hn : cnt (fun j => m.testBit j) 8 ≤ 6) {x2 : Int32} (hx2 : x2 < 0 ∨ ∃ g, g < 8 ∧ x2 = nI g) : ∃ v, X9_rests_J62 z (nI m) x2 = some v ∧ mkeep v.2 = mkeep z := by
  obtain ⟨N, hN, hFU⟩ := FU_ex
  have hR := hI.1.2.1
  have hR2 := hI.1.1
  obtain ⟨n, en⟩ : ∃ n, n = cnt (fun j => m.testBit j) 8 := ⟨_, rfl⟩
  have hpn := pwR hR (show n ≤ 6 by omega)
  have l2 : ∃ v, it X9_rests_B99 (fun _ _ _ _ _ _ _ => none) FU z (nI m) x2 (nI (a_R a ^ n)) 0 (-6) 0 = some v ∧ mkeep v.2 = mkeep z := by
    rw [hFU]
    refine it_rule (bot := fun _ _ _ _ _ _ _ => none) (a_R a ^ n) (fun _ (s : MS × Int32 × Int32) => mkeep s.1 = mkeep z) (fun k i s => ∃ v : Int32 × MS, k s.1 (nI m) x2 (nI (a_R a ^ n)) s.2.1 s.2.2 (nI i) = some v ∧ mkeep v.2 = mkeep z) ?_ ?_ N 0 (z, 0, -6) (by omega) (by omega) rfl
    · rintro k ⟨s, y4, y5⟩ hs
      show ∃ v, X9_rests_B99 k s (nI m) x2 (nI (a_R a ^ n)) y4 y5 (nI (a_R a ^ n)) = some v ∧ _
      unfold X9_rests_B99
      rw [if_pos (Int32.le_refl _)]
      split
      · exact ⟨_, rfl, hs⟩
      · exact ⟨_, rfl, hs⟩
    · rintro k i ⟨s, y4, y5⟩ hi hs hk
      have hs : mkeep s = mkeep z := hs
      have hMs : Mc (mcore s) a := by
        have : mcore s = mcore z := congrArg (fun m => m.1) hs
        rw [this]; exact hM
      obtain ⟨w, e1, e2, -⟩ := asNow_Mx hMs
      show ∃ v, X9_rests_B99 k s (nI m) x2 (nI (a_R a ^ n)) y4 y5 (nI i) = some v ∧ _
      unfold X9_rests_B99
      rw [if_neg (nI_ge hi (by omega)), e1, Option.bind_some]
      have := r115 hI hM hm (by omega) hx2 (e2.trans hs) k (nI (a_R a ^ n)) y4 y5 (i := i) (by omega) (fun v => mkeep v.2 = mkeep z) (fun w' z4 z5 hw' => hk (w', z4, z5) hw')
      rw [← en] at this
      exact this
  unfold X9_rests_J62
  rw [hFU]
  have q : ∃ v, it X9_rests_B67 (fun _ _ _ _ _ => none) N z (nI m) x2 (nI (a_R a ^ 0)) (nI 0) = some v ∧ mkeep v.2 = mkeep z := by
    refine it_rule (bot := fun _ _ _ _ _ => none) n (fun _ (_ : Unit) => True) (fun k i _ => ∃ v : Int32 × MS, k z (nI m) x2 (nI (a_R a ^ i)) (nI i) = some v ∧ mkeep v.2 = mkeep z) ?_ ?_ N 0 () (by omega) (by omega) trivial
    · intro k _ _
      unfold X9_rests_B67
      rw [bits_spec hm, Option.bind_some, ← en, if_pos (Int32.le_refl _)]
      exact l2
    · intro k i _ hi _ hk
      unfold X9_rests_B67
      rw [bits_spec hm, Option.bind_some, ← en, if_neg (nI_ge hi (by omega)), kp_R rfl hM, pk_mul, nI_1, ← Nat.pow_succ]
      exact hk () trivial
  exact q
theorem rrests_tot (hI : Inv a) (hM : Mc (mcore z) a) (x1 x2 : Int32) : ∃ v, f_X9_rests z x1 x2 = some v ∧ mkeep v.2 = mkeep z := by
  unfold f_X9_rests
  rcases num_cases x1 (n := 256) (by decide) with ⟨m, hm, rfl⟩ | hx
  · rw [show f_X9_in (nI m) 0 255 = some 1 from in_nI (n := 256) hm (by decide), Option.bind_some, if_neg (by decide)]
    split
    · rw [bits_spec hm, Option.bind_some]
      by_cases c : cnt (fun j => m.testBit j) 8 ≤ 6
      · rw [if_pos (show nI (cnt (fun j => m.testBit j) 8) ≤ (6 : Int32) from nI_le (b := 6) c (by decide))]
        by_cases d : x2 = -1
        · rw [if_pos d]
          exact r62 hI hM hm c (Or.inl (by rw [d]; decide))
        · rw [if_neg d]
          rcases num_cases x2 (n := 8) (by decide) with ⟨g, hg, rfl⟩ | hx
          · rw [show f_X9_in (nI g) 0 7 = some 1 from in_nI (n := 8) hg (by decide), Option.bind_some, if_neg (by decide)]
            obtain ⟨q, hq⟩ := has_tot (nI m) (nI g)
            rw [hq, Option.bind_some]
            split
            · exact ⟨_, rfl, rfl⟩
            · exact r62 hI hM hm c (Or.inr ⟨g, hg, rfl⟩)
          · rw [show f_X9_in x2 0 7 = some 0 from in_no (n := 8) (by decide) (by decide) hx, Option.bind_some, if_pos rfl]
            exact ⟨_, rfl, rfl⟩
      · have := cnt_le (fun j => m.testBit j) 8
        rw [if_neg (show ¬ nI (cnt (fun j => m.testBit j) 8) ≤ (6 : Int32) from nI_ge (a := 6) (by omega) (by omega))]
        exact ⟨_, rfl, rfl⟩
    · exact ⟨_, rfl, rfl⟩
  · rw [show f_X9_in x1 0 255 = some 0 from in_no (n := 256) (by decide) (by decide) hx, Option.bind_some, if_pos rfl]
    exact ⟨_, rfl, rfl⟩
end RR
/-- rests: both return, and all that lasts stays (that they answer alike isn't so: the order of two refusals) -/
theorem wsim_rests : WSim_rests Rel Rel := by
  intro S z x1 x2 h
  obtain ⟨⟨a, hI, hH, hM⟩, h3⟩ := id h
  obtain ⟨q, hq⟩ := crests_tot hI hH (K_rest S) x1 x2
  obtain ⟨w, hw, hk⟩ := rrests_tot hI hM x1 x2
  exact ⟨q, w, hq, hw, h.to rfl hk⟩
end
