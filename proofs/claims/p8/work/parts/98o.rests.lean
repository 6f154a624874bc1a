/-! rests returns on both sides: the class -/
def TOk (R m : Nat) (rs : TS) : Prop := T_members rs = nI m ∧ T_rooms rs = nI R
section TC
variable {R m : Nat} {rs : TS}
theorem cont_tot (hR : R ≤ 6) (hT : T_rooms rs = nI R) {i r : Nat} (hi : i < 6) (hr : r < 6) : ∃ v, f_X4_isContent rs (nI i) (nI r) = some v := by
  obtain ⟨N, hN, hFU⟩ := FU_ex
  unfold f_X4_isContent
  rw [ix6, chk_nI (show i * 6 + r < 36 by omega) (by decide), chk_nI hi (by decide), chk_nI hr (by decide), chk_nI hr (by decide), hFU]
  generalize (T_taste rs (nI (i * 6 + r)).toNatClampNeg + T_company rs (nI i).toNatClampNeg * (T_fixed rs (nI r).toNatClampNeg + T_share rs (nI r).toNatClampNeg - 1)) = x3
  refine it_rule (bot := fun _ _ _ _ _ => none) R (fun _ (_ : Unit) => True) (fun k j _ => ∃ v, k rs (nI i) (nI r) x3 (nI j) = some v) ?_ ?_ N 0 () (by omega) (by omega) trivial
  · intro k _ _
    unfold X4_isContent_B38
    rw [hT, if_pos (Int32.le_refl _)]
    exact ⟨_, rfl⟩
  · intro k j _ hj _ hk
    have hk := hk () trivial
    have hj6 : j < 6 := by omega
    have z0 : ∀ x, ∃ v, X4_isContent_J87 k rs (nI i) (nI r) x3 (nI j) x 0 = some v := fun x => by
      unfold X4_isContent_J87 X4_isContent_J122
      rw [if_pos rfl, nI_1]; exact hk
    have z1 : ∀ x, ∃ v, X4_isContent_J87 k rs (nI i) (nI r) x3 (nI j) x 1 = some v := fun x => by
      unfold X4_isContent_J87 X4_isContent_J122
      rw [if_neg (by decide), ix6, chk_nI (show i * 6 + j < 36 by omega) (by decide), chk_nI hi (by decide), nI_1]
      split
      · exact hk
      · exact ⟨_, rfl⟩
    unfold X4_isContent_B38 X4_isContent_J86
    rw [hT, if_neg (nI_ge hj (by omega)), chk_nI hj6 (by decide), chk_nI hj6 (by decide), chk_nI hj6 (by decide)]
    split
    · exact z0 _
    · split
      · exact z0 _
      · exact z1 _
theorem cr_tot (hR : R ≤ 6) (hT : T_rooms rs = nI R) {i : Nat} (hi : i < 6) : ∃ v, f_X4_contentRooms rs (nI i) = some v := by
  obtain ⟨N, hN, hFU⟩ := FU_ex
  unfold f_X4_contentRooms
  rw [hFU]
  refine it_rule (bot := fun _ _ _ _ => none) R (fun _ (_ : Int32) => True) (fun k j x => ∃ v, k rs (nI i) x (nI j) = some v) ?_ ?_ N 0 0 (by omega) (by omega) trivial
  · intro k x _
    unfold X4_contentRooms_B4
    rw [hT, if_pos (Int32.le_refl _)]
    exact ⟨_, rfl⟩
  · intro k j x hj _ hk
    obtain ⟨q, hq⟩ := cont_tot hR hT hi (show j < 6 by omega)
    unfold X4_contentRooms_B4 X4_contentRooms_J36
    rw [hT, if_neg (nI_ge hj (by omega)), chk_nI (show j < 6 by omega) (by decide), hq, Option.bind_some, nI_1]
    split
    · exact hk _ trivial
    · split
      · exact hk _ trivial
      · exact hk _ trivial
theorem put_tot (hR : R ≤ 6) (hm : m ≤ 6) : ∀ n d i (rs : TS) (x2 : Int32), d < n → i + d = m → TOk R m rs → ∃ rs', it X4_put_R (fun _ _ _ => none) n rs (nI i) x2 = some rs' ∧ TOk R m rs'
  | 0, d, i, rs, x2, h, _, _ => absurd h (Nat.not_lt_zero _)
  | n + 1, d, i, rs, x2, hd, hi, hT => by
    obtain ⟨N, hN, hFU⟩ := FU_ex
    have ih := put_tot hR hm n
    obtain ⟨kS, hkS⟩ : ∃ kS, kS = it X4_put_R (fun _ _ _ => none) n := ⟨_, rfl⟩
    rw [← hkS] at ih
    show ∃ rs', X4_put_R (it X4_put_R (fun _ _ _ => none) n) rs (nI i) x2 = some rs' ∧ _
    rw [← hkS]
    unfold X4_put_R
    by_cases c : i < m
    · rw [hT.1, if_pos (nI_lt c (by omega)), hFU]
      have hi6 : i < 6 := by omega
      refine it_rule (bot := fun _ _ _ _ => none) R (fun _ (s : TS) => TOk R m s) (fun k j s => ∃ rs', k s (nI i) x2 (nI j) = some rs' ∧ TOk R m rs') ?_ ?_ N 0 rs (by omega) (by omega) hT
      · intro k s hs
        unfold X4_put_B44
        rw [hs.2, if_pos (Int32.le_refl _)]
        exact ⟨_, rfl, hs⟩
      · intro k j s hj hs hk
        have hj6 : j < 6 := by omega
        obtain ⟨s', e1, e2⟩ := ih (d - 1) (i + 1) (T_set_share s (upd (T_share s) j (T_share s j - 1))) (x2 * 10 + nI j) (by omega) (by omega) hs
        unfold X4_put_B44 X4_put_J108
        rw [hs.2, if_neg (nI_ge hj (by omega)), chk_nI hi6 (by decide), chk_nI hj6 (by decide), chk_nI hj6 (by decide), chk_nI hj6 (by decide), nI_1, nI_1, ltA_eq, nI_clamp (show j < 2 ^ 31 by omega), e1, Option.bind_some, chk_nI hj6 (by decide), chk_nI hj6 (by decide), ltA_eq]
        split
        · split
          · exact hk s hs
          · exact hk _ e2
        · exact hk s hs
    · rw [hT.1, if_neg (nI_nlt (by omega) (by omega))]
      unfold X4_put_J28
      split
      · exact ⟨_, rfl, hT⟩
      · exact ⟨_, rfl, hT⟩
theorem weigh_tot (hR : R ≤ 6) (hm : m ≤ 6) (hT : TOk R m rs) : ∃ rs', f_X4_weigh rs = some rs' ∧ TOk R m rs' := by
  obtain ⟨N, hN, hFU⟩ := FU_ex
  unfold f_X4_weigh
  rw [hFU]
  refine it_rule (bot := fun _ _ => none) m (fun _ (s : TS) => TOk R m s) (fun k i s => ∃ rs', k s (nI i) = some rs' ∧ TOk R m rs') ?_ ?_ N 0 rs (by omega) (by omega) hT
  · intro k s hs
    obtain ⟨s', e1, e2⟩ := put_tot hR hm 9 m 0 s 0 (by omega) (by omega) hs
    unfold X4_weigh_B2
    rw [hs.1, if_pos (Int32.le_refl _)]
    have e1 : f_X4_put s 0 0 = some s' := e1
    rw [e1, Option.bind_some]
    exact ⟨_, rfl, e2⟩
  · intro k i s hi hs hk
    have hi6 : i < 6 := by omega
    obtain ⟨q, hq⟩ := cr_tot hR hs.2 hi6
    unfold X4_weigh_B2
    rw [hs.1, if_neg (nI_ge hi (by omega)), hq, Option.bind_some, chk_nI hi6 (by decide), ltA_eq, chk_nI hi6 (by decide), nI_1]
    split
    · exact ⟨_, rfl, hs⟩
    · exact hk _ hs
theorem deal_tot (hR : R ≤ 6) (hm : m ≤ 6) : ∀ n d i y (rs : TS), d < n → i + d = R → y ≤ 6 → TOk R m rs → ∃ rs', it X4_deal_R (fun _ _ _ => none) n rs (nI i) (nI y) = some rs' ∧ TOk R m rs'
  | 0, d, i, y, rs, h, _, _, _ => absurd h (Nat.not_lt_zero _)
  | n + 1, d, i, y, rs, hd, hi, hy, hT => by
    obtain ⟨N, hN, hFU⟩ := FU_ex
    have ih := deal_tot hR hm n
    obtain ⟨kS, hkS⟩ : ∃ kS, kS = it X4_deal_R (fun _ _ _ => none) n := ⟨_, rfl⟩
    rw [← hkS] at ih
    show ∃ rs', X4_deal_R (it X4_deal_R (fun _ _ _ => none) n) rs (nI i) (nI y) = some rs' ∧ _
    rw [← hkS]
    unfold X4_deal_R
    by_cases c : i < R
    · have hi6 : i < 6 := by omega
      rw [hT.2, if_pos (nI_lt c (by omega)), chk_nI hi6 (by decide), chk_nI hi6 (by decide)]
      have lp : ∀ x : Int32, x ≤ nI y → ∃ rs', it (X4_deal_B38 kS) (fun _ _ _ _ _ => none) FU rs (nI i) (nI y) x 0 = some rs' ∧ TOk R m rs' := by
        intro x hx
        rw [hFU]
        by_cases x0 : x < 0
        · obtain ⟨N, rfl⟩ : ∃ M, N = M + 1 := ⟨N - 1, by omega⟩
          rw [it_s]
          unfold X4_deal_B38
          rw [if_pos x0]
          exact ⟨_, rfl, hT⟩
        · obtain ⟨t, ht', rfl⟩ := nI_of x0
          have ht : t ≤ y := (nI_leI ht' (by omega)).mp hx
          refine it_rule (bot := fun _ _ _ _ _ => none) (t + 1) (fun _ (s : TS) => TOk R m s) (fun k j s => ∃ rs', k s (nI i) (nI y) (nI t) (nI j) = some rs' ∧ TOk R m rs') ?_ ?_ N 0 rs (by omega) (by omega) hT
          · intro k s hs
            unfold X4_deal_B38
            rw [if_pos (nI_lt (by omega) (by omega))]
            exact ⟨_, rfl, hs⟩
          · intro k j s hj hs hk
            obtain ⟨s', e1, e2⟩ := ih (d - 1) (i + 1) (y - j) (T_set_share s (upd (T_share s) i (nI j))) (by omega) (by omega) (by omega) hs
            unfold X4_deal_B38
            rw [if_neg (nI_nlt (by omega) (by omega)), chk_nI hi6 (by decide), ltA_eq, nI_clamp (show i < 2 ^ 31 by omega), nI_1, pk_sub (by omega), e1, Option.bind_some, nI_1]
            exact hk s' e2
      refine lp _ ?_
      split
      · rename_i h; exact Int32.le_of_lt h
      · exact Int32.le_refl _
    · rw [hT.2, if_neg (nI_nlt (by omega) (by omega))]
      split
      · obtain ⟨s', e1, e2⟩ := weigh_tot hR hm hT
        rw [e1, Option.bind_some]
        exact ⟨_, rfl, e2⟩
      · exact ⟨_, rfl, hT⟩
end TC
section TF
variable {b : AS} {h : HS}
theorem sz_spec (hI : Inv b) (hH : Hc h b) {r : Nat} (hr : r < 6) : f_X1_sizeOf h (nI r) = some (nI (a_sz b r)) := by
  unfold f_X1_sizeOf
  rw [show (4 : Int32) = nI 4 from rfl, ix6, chk_nI (by omega) (by decide), nI_clamp (by omega), (hH.2.2.2.1 r hr).2.1]
theorem enl_tot (hI : Inv b) (hH : Hc h b) {rs : TS} {m g : Nat} (hm : m < 6) (hg : g < 8) (hT : TOk (a_R b) m rs) : ∃ rs', f_X4_enlist rs h (nI g) = some rs' ∧ TOk (a_R b) (m + 1) rs' := by
  obtain ⟨N, hN, hFU⟩ := FU_ex
  have hR := hI.1.2.1
  unfold f_X4_enlist
  rw [hT.1, chk_nI hm (by decide), ltA_eq, show (4 : Int32) = nI 4 from rfl, ix5, chk_nI (show g * 5 + 4 < 40 by omega) (by decide), chk_nI hm (by decide), ltA_eq, hFU]
  refine it_rule (bot := fun _ _ _ _ => none) (a_R b) (fun _ (s : TS) => TOk (a_R b) m s) (fun k j s => ∃ rs', k s h (nI g) (nI j) = some rs' ∧ TOk (a_R b) (m + 1) rs') ?_ ?_ N 0 _ (by omega) (by omega) hT
  · intro k s hs
    unfold X4_enlist_B31
    rw [hs.2, if_pos (Int32.le_refl _)]
    refine ⟨_, rfl, ?_, hs.2⟩
    show T_members s + 1 = _
    rw [hs.1, nI_1]
  · intro k j s hj hs hk
    unfold X4_enlist_B31
    rw [hs.2, if_neg (nI_ge hj (by omega)), things_spec hH hg (show j < 6 by omega), Option.bind_some, hs.1, ix6, chk_nI (show m * 6 + j < 36 by omega) (by decide), ltA_eq, nI_1]
    exact hk _ hs
theorem isIn_tot (x y : Int32) : ∃ v, f_X8_isIn x y = some v := by
  unfold f_X8_isIn
  split
  · exact ⟨_, rfl⟩
  · split
    · exact ⟨_, rfl⟩
    · split
      · exact ⟨_, rfl⟩
      · exact ⟨_, rfl⟩
theorem bc_tot (x : Int32) : ∃ v, f_J6_bitCount_0f7a4 x = some v := ⟨_, rfl⟩
theorem find_tot (hI : Inv b) (hH : Hc h b) (rs : TS) (x2 : Int32) : ∃ rs' m, f_X4_find rs h x2 = some rs' ∧ m ≤ 6 ∧ TOk (a_R b) m rs' := by
  obtain ⟨N, hN, hFU⟩ := FU_ex
  have hR := hI.1.2.1
  have l2 : ∀ (s : TS) m, m ≤ 6 → TOk (a_R b) m s → ∃ rs' m, it X4_find_B62 (fun _ _ _ _ => none) FU s h x2 0 = some rs' ∧ m ≤ 6 ∧ TOk (a_R b) m rs' := by
    intro s m hm hs
    rw [hFU]
    refine it_rule (bot := fun _ _ _ _ => none) (a_R b) (fun _ (s : TS) => TOk (a_R b) m s) (fun k j s => ∃ rs' m, k s h x2 (nI j) = some rs' ∧ m ≤ 6 ∧ TOk (a_R b) m rs') ?_ ?_ N 0 s (by omega) (by omega) hs
    · intro k s hs
      obtain ⟨s', e1, e2⟩ := deal_tot hR hm 9 (a_R b) 0 m s (by omega) (by omega) hm hs
      have e1 : f_X4_deal s 0 (nI m) = some s' := e1
      unfold X4_find_B62
      rw [hs.2, if_pos (Int32.le_refl _), hs.1, e1, Option.bind_some]
      exact ⟨_, m, rfl, hm, e2⟩
    · intro k j s hj hs hk
      obtain ⟨q, hq⟩ := bc_tot (nI (msk (fun g => a_is b g && a_pl b g == j) 8) &&& (x2 ^^^ (-1 : Int32)))
      unfold X4_find_B62
      rw [hs.2, if_neg (nI_ge hj (by omega)), sz_spec hI hH (show j < 6 by omega), Option.bind_some, chk_nI (show j < 6 by omega) (by decide), ltA_eq, bitsIn_spec hI hH (show j < 2 ^ 31 by omega), Option.bind_some, hq, Option.bind_some, chk_nI (show j < 6 by omega) (by decide), ltA_eq, nI_1]
      exact hk _ hs
  unfold f_X4_find
  rw [hFU]
  refine it_rule (bot := fun _ _ _ _ => none) 8 (fun _ (s : TS) => ∃ m, m ≤ 6 ∧ TOk (a_R b) m s) (fun k j s => ∃ rs' m, k s h x2 (nI j) = some rs' ∧ m ≤ 6 ∧ TOk (a_R b) m rs') ?_ ?_ N 0 _ (by omega) (by omega) ⟨0, by omega, rfl, hH.1⟩
  · intro k s ⟨m, hm, hs⟩
    unfold X4_find_B25
    rw [if_pos (by decide)]
    exact l2 s m hm hs
  · intro k j s hj ⟨m, hm, hs⟩ hk
    obtain ⟨q, hq⟩ := isIn_tot x2 (nI j)
    unfold X4_find_B25 X4_find_J54
    rw [if_neg (show ¬ (8 : Int32) ≤ nI j from nlit (by decide) hj), hq, Option.bind_some, nI_1]
    by_cases c : q = 0
    · rw [if_pos c]; exact hk s ⟨m, hm, hs⟩
    · rw [if_neg c, hs.1]
      by_cases d : m < 6
      · obtain ⟨s', e1, e2⟩ := enl_tot hI hH d hj hs
        rw [if_neg (show ¬ (6 : Int32) ≤ nI m from nlit (by decide) d), e1, Option.bind_some]
        exact hk s' ⟨m + 1, by omega, e2⟩
      · rw [if_pos (show (6 : Int32) ≤ nI m from nI_le (a := 6) (by omega) (by omega))]
        exact hk s ⟨m, hm, hs⟩
theorem ro_tot {R m : Nat} (hm : m ≤ 6) {rs : TS} (hT : TOk R m rs) (x1 : Int32) : ∃ v, f_X4_roomOf rs x1 = some v := by
  obtain ⟨N, hN, hFU⟩ := FU_ex
  unfold f_X4_roomOf
  split
  · exact ⟨_, rfl⟩
  · rw [hT.1, hFU]
    have q : ∃ v, it X4_roomOf_B22 (fun _ _ _ _ => none) N rs x1 (T_first rs) (nI (m - 0) - 1) = some v := by
      refine it_rule (bot := fun _ _ _ _ => none) m (fun _ (_ : Int32) => True) (fun k i x => ∃ v, k rs x1 x (nI (m - i) - 1) = some v) ?_ ?_ N 0 (T_first rs) (by omega) (by omega) trivial
      · intro k x _
        unfold X4_roomOf_B22
        rw [Nat.sub_self, if_pos (by decide)]
        exact ⟨_, rfl⟩
      · intro k i x hi _ hk
        obtain ⟨t, ht⟩ : ∃ t, t = m - (i + 1) := ⟨_, rfl⟩
        rw [← ht] at hk
        rw [show m - i = t + 1 by omega, nI_pred]
        unfold X4_roomOf_B22
        rw [if_neg (nI_pos (by omega)), chk_nI (show t < 6 by omega) (by decide), ← Int32.sub_eq_add_neg]
        split
        · exact ⟨_, rfl⟩
        · exact hk _ trivial
    exact q
theorem crests_tot (hI : Inv b) (hH : Hc h b) (rs : TS) (x1 x2 : Int32) : ∃ q, f_X8_rests h rs x1 x2 = some q := by
  have j : ∃ q, X8_rests_J43 h rs x1 x2 = some q := by
    obtain ⟨q, hq⟩ := bc_tot x1
    obtain ⟨s, m, e1, e2, e3⟩ := find_tot hI hH rs x1
    obtain ⟨v, hv⟩ := ro_tot e2 e3 x2
    unfold X8_rests_J43
    rw [hq, Option.bind_some, e1, Option.bind_some, hv, Option.bind_some]
    split
    · split
      · exact ⟨_, rfl⟩
      · exact ⟨_, rfl⟩
    · exact ⟨_, rfl⟩
  obtain ⟨q, hq⟩ := isIn_tot x1 x2
  unfold f_X8_rests
  rw [hq, Option.bind_some]
  split
  · exact ⟨_, rfl⟩
  · split
    · exact ⟨_, rfl⟩
    · split
      · split
        · exact j
        · split
          · exact ⟨_, rfl⟩
          · exact j
      · exact ⟨_, rfl⟩
end TF
