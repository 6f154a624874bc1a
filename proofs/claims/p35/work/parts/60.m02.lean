/-! 60.told -/
section
theorem dv {n d : Nat} (hn : n < 2 ^ 31) (h0 : 0 < d) (hd : d < 2 ^ 31) (hq : 1 ≤ n / d) : nI n / nI d - 1 = nI (n / d - 1) := by
  rw [pk_div hn h0 hd]; exact pk_sub (b := 1) hq
theorem width_spec {h : HS} {a : AS} (hH : Hc h a) {r q : Nat} (hr : r < 6) (hq : q < 6) : f_X1_widthOf h (nI r) (nI q) = some (nI (a_wd a r q)) := by
  unfold f_X1_widthOf
  rw [ix6, chk_nI (by omega) (by decide), nI_clamp (by omega), hH.2.2.2.2.1 r q hr hq]
theorem sim_told : Sim_told Rel := by
  intro S z x h
  obtain ⟨⟨a, hI, hH, hM⟩, ⟨n0, hn0, p1, p2, p3⟩, h4⟩ := id h
  have hH : Hc (K_now S) a := hH
  have hM : Mc (mcore z) a := hM
  have p1 : P_used (K_pad S) = nI n0 := p1
  have p2 : M_signs z = nI n0 := p2
  have hR6 := hI.1.2.1
  suffices H : ∃ v, f_X8_told (K_now S) (K_pad S) x = some v ∧ f_X9_told z x = some v by
    obtain ⟨v, v1, v2⟩ := H
    exact ⟨v, v, v1, v2, rfl, h⟩
  by_cases c1 : x < 10
  · have m1 : x < 1000 := Int32.lt_trans c1 (by decide)
    have m2 : x < 100 := Int32.lt_trans c1 (by decide)
    unfold f_X8_told f_X9_told f_X8_toldByCode
    rw [if_pos m1, if_pos m2, if_pos c1]
    by_cases e0 : x = 0
    · rw [if_pos e0, if_pos e0, p1, p2]; exact ⟨_, rfl, rfl⟩
    · rw [if_neg e0, if_neg e0]
      by_cases e1 : x = 1
      · rw [if_pos e1, if_pos e1, hH.1, m_rooms hM]; exact ⟨_, rfl, rfl⟩
      · rw [if_neg e1, if_neg e1]
        by_cases e2 : x = 2
        · rw [if_pos e2, if_pos e2, hH.2.1, m_there hM]; exact ⟨_, rfl, rfl⟩
        · rw [if_neg e2, if_neg e2]
          by_cases e3 : x = 3
          · rw [if_pos e3, if_pos e3, hH.2.2.1, show M_sights z = nI (a_k a) from hM.2.2.1]; exact ⟨_, rfl, rfl⟩
          · rw [if_neg e3, if_neg e3, if_neg (Int32.not_le.mpr c1), Option.bind_some]; exact ⟨_, rfl, rfl⟩
  · have c10 : (10 : Int32) ≤ x := Int32.not_lt.mp c1
    obtain ⟨n, hn, rfl⟩ := nI_of (x := x) (fun q => c1 (Int32.lt_trans q (by decide)))
    have hn10 : 10 ≤ n := (nI_leI (a := 10) (by decide) hn).mp c10
    have ne : ∀ j : Nat, j < 4 → ¬ nI n = nI j := fun j hj q => by have := (nI_eq hn (by omega)).mp q; omega
    unfold f_X8_told f_X9_told f_X8_toldByCode X9_told_J146
    rw [if_neg (show ¬ nI n = (0 : Int32) from ne 0 (by decide)), if_neg (show ¬ nI n = (1 : Int32) from ne 1 (by decide)), if_neg (show ¬ nI n = (2 : Int32) from ne 2 (by decide)), if_neg (show ¬ nI n = (3 : Int32) from ne 3 (by decide)), if_pos c10]
    by_cases c100 : n < 100
    · rw [if_neg (show ¬ (100 : Int32) ≤ nI n from nlit (by decide) c100), if_pos (show nI n < (1000 : Int32) from nI_lt (b := 1000) (by omega) (by decide)), if_pos (show nI n < (100 : Int32) from nI_lt c100 (by decide)), if_neg c1]
      have d1 : nI n / 10 - 1 = nI (n / 10 - 1) := dv hn (d := 10) (by decide) (by decide) (by omega)
      have d2 : nI n - nI n / 10 * 10 = nI (n % 10) := pk_rem hn (d := 10) (by decide) (by decide)
      rw [d1, d2]
      rcases rm_cases hI hH hM (nI (n / 10 - 1)) with ⟨r, hr, er, u1, u2⟩ | ⟨-, u1, u2⟩
      · have er' : n / 10 - 1 = r := (nI_eq (by omega) (by omega)).mp er
        rw [u1, u2, Option.bind_some, Option.bind_some, if_neg (show ¬ (1 : Int32) = 0 by decide), if_neg (show ¬ (1 : Int32) = 0 by decide), er']
        have hm := hH.2.2.2.1 r (by omega)
        have hz := hM.2.2.2.1 r (by omega)
        by_cases c6 : n % 10 < 6
        · rw [if_neg (show ¬ (6 : Int32) ≤ nI (n % 10) from nlit (by decide) c6), if_pos (show nI (n % 10) ≤ (5 : Int32) from nI_le (b := 5) (by omega) (by decide)), ix6, chk_nI (by omega) (by decide), nI_clamp (by omega), Option.bind_some]
          by_cases c4 : n % 10 < 4
          · rw [if_neg (show ¬ (4 : Int32) ≤ nI (n % 10) from nlit (by decide) c4), ix4', chk_nI (by omega) (by decide), nI_clamp (by omega), hm.1 _ c4, show M_things z (4 * r + n % 10) = nI (a_th a r (n % 10)) from hz.1 _ c4]
            exact ⟨_, rfl, rfl⟩
          · rw [if_pos (show (4 : Int32) ≤ nI (n % 10) from nI_le (a := 4) (by omega) (by omega)), chk_nI (by omega) (by decide), chk_nI (by omega) (by decide), nI_clamp (by omega)]
            by_cases c5 : n % 10 = 4
            · rw [c5, if_pos (show nI 4 = (4 : Int32) from rfl), hm.2.1, show M_size z r = nI (a_sz a r) from hz.2.1]; exact ⟨_, rfl, rfl⟩
            · have c5' : n % 10 = 5 := by omega
              rw [c5', if_neg (show ¬ nI 5 = (4 : Int32) by decide), hm.2.2, show M_chairs z r = nI (a_ch a r) from hz.2.2]; exact ⟨_, rfl, rfl⟩
        · rw [if_pos (show (6 : Int32) ≤ nI (n % 10) from nI_le (a := 6) (by omega) (by omega)), if_neg (show ¬ nI (n % 10) ≤ (5 : Int32) from nI_ge (a := 5) (by omega) (by omega)), Option.bind_some]
          exact ⟨_, rfl, rfl⟩
      · rw [u1, u2, Option.bind_some, Option.bind_some, if_pos (show (0 : Int32) = 0 from rfl), if_pos (show (0 : Int32) = 0 from rfl), Option.bind_some]
        exact ⟨_, rfl, rfl⟩
    · rw [if_pos (show (100 : Int32) ≤ nI n from nI_le (a := 100) (by omega) hn)]
      by_cases c1000 : n < 1000
      · rw [if_neg (show ¬ (1000 : Int32) ≤ nI n from nlit (by decide) c1000), if_pos (show nI n < (1000 : Int32) from nI_lt c1000 (by decide)), if_neg (show ¬ nI n < (100 : Int32) from nI_nlt (b := 100) (by omega) hn)]
        have d1 : nI n / 100 - 1 = nI (n / 100 - 1) := dv hn (d := 100) (by decide) (by decide) (by omega)
        have d2 : nI n - nI n / 100 * 100 = nI (n % 100) := pk_rem hn (d := 100) (by decide) (by decide)
        rw [d1, d2]
        rcases rm_cases hI hH hM (nI (n / 100 - 1)) with ⟨r, hr, er, u1, u2⟩ | ⟨-, u1, u2⟩
        · have er' : n / 100 - 1 = r := (nI_eq (by omega) (by omega)).mp er
          rw [u1, u2, Option.bind_some, Option.bind_some, if_neg (show ¬ (1 : Int32) = 0 by decide), if_neg (show ¬ (1 : Int32) = 0 by decide)]
          rcases rm_cases hI hH hM (nI (n % 100)) with ⟨q, hq, eq, w1, w2⟩ | ⟨-, w1, w2⟩
          · have eq' : n % 100 = q := (nI_eq (by omega) (by omega)).mp eq
            rw [w1, w2, Option.bind_some, Option.bind_some, if_neg (show ¬ (1 : Int32) = 0 by decide), if_neg (show ¬ (1 : Int32) = 0 by decide), er', eq']
            by_cases c : r = q
            · rw [if_pos (by rw [c]), if_pos (by rw [c]), Option.bind_some]; exact ⟨_, rfl, rfl⟩
            · rw [if_neg (fun e => c ((nI_eq (by omega) (by omega)).mp e)), if_neg (fun e => c ((nI_eq (by omega) (by omega)).mp e)), width_spec hH (by omega) (by omega), Option.bind_some, Option.bind_some, ix6', chk_nI (by omega) (by decide), nI_clamp (by omega), show M_width z (6 * r + q) = nI (a_wd a r q) from hM.2.2.2.2.1 r q (by omega) (by omega)]
              exact ⟨_, rfl, rfl⟩
          · rw [w1, w2, Option.bind_some, Option.bind_some, if_pos (show (0 : Int32) = 0 from rfl), if_pos (show (0 : Int32) = 0 from rfl), Option.bind_some]
            exact ⟨_, rfl, rfl⟩
        · rw [u1, u2, Option.bind_some, Option.bind_some, if_pos (show (0 : Int32) = 0 from rfl), if_pos (show (0 : Int32) = 0 from rfl), Option.bind_some]
          exact ⟨_, rfl, rfl⟩
      · rw [if_pos (show (1000 : Int32) ≤ nI n from nI_le (a := 1000) (by omega) hn), if_neg (show ¬ nI n < (1000 : Int32) from nI_nlt (b := 1000) (by omega) hn)]
        have d1 : nI n / 1000 - 1 = nI (n / 1000 - 1) := dv hn (d := 1000) (by decide) (by decide) (by omega)
        have d2 : nI n - nI n / 1000 * 1000 = nI (n % 1000) := pk_rem hn (d := 1000) (by decide) (by decide)
        rw [d1, d2]
        rcases th_cases hI hH hM (nI (n / 1000 - 1)) with ⟨g, hg, eg, hg1, u1, u2⟩ | ⟨u1, u2⟩
        · have eg' : n / 1000 - 1 = g := (nI_eq (by omega) (by omega)).mp eg
          rw [u1, u2, Option.bind_some, Option.bind_some, if_neg (show ¬ (1 : Int32) = 0 by decide), if_neg (show ¬ (1 : Int32) = 0 by decide), eg']
          by_cases c5 : n % 1000 < 5
          · rw [if_neg (show ¬ (5 : Int32) ≤ nI (n % 1000) from nlit (by decide) c5), if_neg (show ¬ (5 : Int32) ≤ nI (n % 1000) from nlit (by decide) c5), ix5, ix5', chk_nI (by omega) (by decide), chk_nI (by omega) (by decide), nI_clamp (by omega), nI_clamp (by omega), Option.bind_some, hH.2.2.2.2.2.2.1 g _ hg c5, show M_likes z (5 * g + n % 1000) = Int32.ofInt (a_lk a g (n % 1000)) from (hM.2.2.2.2.2.1 g hg hg1).2.2.2.2 _ c5]
            exact ⟨_, rfl, rfl⟩
          · rw [if_pos (show (5 : Int32) ≤ nI (n % 1000) from nI_le (a := 5) (by omega) (by omega)), if_pos (show (5 : Int32) ≤ nI (n % 1000) from nI_le (a := 5) (by omega) (by omega)), Option.bind_some]
            exact ⟨_, rfl, rfl⟩
        · rw [u1, u2, Option.bind_some, Option.bind_some, if_pos (show (0 : Int32) = 0 from rfl), if_pos (show (0 : Int32) = 0 from rfl), Option.bind_some]
          exact ⟨_, rfl, rfl⟩
end
/-! 61.count2 -/
section
set_option maxRecDepth 100000 in
theorem bitv_dec : ∀ T : Fin 256, ∀ g : Fin 8, ((nI T.val >>> (nI g.val &&& 31)) &&& 1) = nI (if T.val.testBit g.val then 1 else 0) := by decide +kernel
theorem bit_val {T g : Nat} (hT : T < 256) (hg : g < 8) : ((nI T >>> (nI g &&& 31)) &&& 1) = nI (if T.testBit g then 1 else 0) := bitv_dec ⟨T, hT⟩ ⟨g, hg⟩
section C2
variable {a : AS} {h : HS} {z : MS}
/-- the reference's count in a room, of what lasts -/
theorem inRoom_spec (hI : Inv a) (hM : Mc (mcore z) a) {r : Nat} (hr : r < 2 ^ 31) (x2 x3 : Int32) : f_X9_inRoom z (nI r) x2 x3 = some (nI (cnt (fun j => ((a_is a j && a_pl a j == r) && !(decide (nI j = x3))) && (decide (x2 < 0) || decide (nI (a_bs a j) = x2))) 8)) := by
  obtain ⟨N, hN, hFU⟩ := FU_ex
  have hT := hI.1.2.2.1
  have et : M_there z = nI (a_T a) := hM.2.1
  unfold f_X9_inRoom
  rw [hFU]
  refine it_rule (bot := fun _ _ _ _ _ _ => none) 8 (fun i (n : Int32) => n = nI (cnt (fun j => ((a_is a j && a_pl a j == r) && !(decide (nI j = x3))) && (decide (x2 < 0) || decide (nI (a_bs a j) = x2))) i)) (fun k i n => k z (nI r) x2 x3 n (nI i) = some (nI (cnt (fun j => ((a_is a j && a_pl a j == r) && !(decide (nI j = x3))) && (decide (x2 < 0) || decide (nI (a_bs a j) = x2))) 8))) ?_ ?_ N 0 0 (by omega) (by omega) rfl
  · intro k n hn
    unfold X9_inRoom_B6
    rw [if_pos (by decide), hn]
  · intro k i n hi hn hk
    unfold X9_inRoom_B6 X9_inRoom_J63 X9_inRoom_J59 X9_inRoom_J64
    rw [if_neg (show ¬ (8 : Int32) ≤ nI i from nlit (by decide) hi), et, has_b hT hi, Option.bind_some, chk_nI hi (by decide), chk_nI hi (by decide), nI_clamp (by omega), nI_1]
    cases e : (a_T a).testBit i
    · simp only [Bool.false_eq_true, if_false, if_true]
      refine hk _ ?_
      rw [hn, cnt_s]; unfold a_is; rw [e]; simp
    · simp only [if_true]
      have ei : a_is a i = true := e
      have hp : M_place z i = nI (a_pl a i) := (hM.2.2.2.2.2.1 i hi ei).1
      have hb : M_busy z i = nI (a_bs a i) := (hM.2.2.2.2.2.1 i hi ei).2.1
      have hpl : a_pl a i < 2 ^ 31 := by have := (hI.2.2.2.2.2.1 i hi ei).1; have := hI.1.2.1; omega
      rw [if_neg (by decide), hp, hb]
      by_cases q : nI i = x3
      · rw [if_pos q]
        refine hk _ ?_
        rw [hn, cnt_s]; simp [q]
      · rw [if_neg q]
        by_cases q2 : a_pl a i = r
        · rw [if_pos (by rw [q2])]
          by_cases q3 : x2 < 0
          · rw [if_pos q3]
            refine hk _ ?_
            rw [hn, cnt_s, ei]; simp [q, q2, q3]; exact nI_1 _
          · rw [if_neg q3]
            by_cases q4 : nI (a_bs a i) = x2
            · rw [if_pos q4]
              refine hk _ ?_
              rw [hn, cnt_s, ei]; simp [q, q2, q4]; exact nI_1 _
            · rw [if_neg q4]
              refine hk _ ?_
              rw [hn, cnt_s, ei]; simp [q3, q4]
        · rw [if_neg (fun c => q2 ((nI_eq hpl hr).mp c))]
          refine hk _ ?_
          rw [hn, cnt_s, ei]; simp [q2]
/-- who sits in a room -/
def a_sit (a : AS) (r : Nat) : Nat := cnt (fun j => (a_is a j && a_pl a j == r) && a_bs a j == 2) 8
theorem bs_lt (hI : Inv a) {g : Nat} (hg : g < 8) : a_bs a g ≤ 3 := by
  cases e : a_is a g
  · rw [(hI.2.2.2.2.1 g hg e).2.1]; decide
  · exact (hI.2.2.2.2.2.1 g hg e).2.1
theorem pl_lt (hI : Inv a) {g : Nat} (hg : g < 8) : a_pl a g < 6 := by
  cases e : a_is a g
  · rw [(hI.2.2.2.2.1 g hg e).1]; decide
  · have := (hI.2.2.2.2.2.1 g hg e).1; have := hI.1.2.1; omega
theorem sitters_spec (hI : Inv a) (hH : Hc h a) {r : Nat} (hr : r < 2 ^ 31) : f_X1_sitters h (nI r) = some (nI (a_sit a r)) := by
  obtain ⟨N, hN, hFU⟩ := FU_ex
  have e0 : a_sit a r = cnt (fun j => a_bs a j == 2 && a_pl a j == r) 8 := by
    unfold a_sit
    refine cnt_congr (fun j hj => ?_)
    cases e : a_is a j
    · rw [(hI.2.2.2.2.1 j hj e).2.1]; rfl
    · cases a_pl a j == r <;> cases a_bs a j == 2 <;> rfl
  unfold f_X1_sitters
  rw [hFU, e0]
  refine it_rule (bot := fun _ _ _ _ => none) 8 (fun i (n : Int32) => n = nI (cnt (fun j => a_bs a j == 2 && a_pl a j == r) i)) (fun k i n => k h (nI r) n (nI i) = some (nI (cnt (fun j => a_bs a j == 2 && a_pl a j == r) 8))) ?_ ?_ N 0 0 (by omega) (by omega) rfl
  · intro k n hn
    unfold X1_sitters_B4
    rw [if_pos (by decide), hn]
  · intro k i n hi hn hk
    obtain ⟨hp, hb, -⟩ := hH.2.2.2.2.2.1 i hi
    have b3 := bs_lt hI hi
    have p6 := pl_lt hI hi
    unfold X1_sitters_B4 X1_sitters_J33
    rw [if_neg (show ¬ (8 : Int32) ≤ nI i from nlit (by decide) hi), chk_nI hi (by decide), chk_nI hi (by decide), nI_clamp (by omega), hp, hb, nI_1]
    by_cases q : a_bs a i = 2
    · rw [if_pos (show nI (a_bs a i) = (2 : Int32) by rw [q]; rfl)]
      by_cases q2 : a_pl a i = r
      · rw [if_pos (by rw [q2])]
        refine hk _ ?_
        rw [hn, cnt_s]; simp [q, q2]; exact nI_1 _
      · rw [if_neg (fun c => q2 ((nI_eq (by omega) hr).mp c))]
        refine hk _ ?_
        rw [hn, cnt_s]; simp [q2]
    · rw [if_neg (show ¬ nI (a_bs a i) = (2 : Int32) from fun c => q ((nI_eq (by omega) (b := 2) (by decide)).mp c))]
      refine hk _ ?_
      rw [hn, cnt_s]; simp [q]
/-- the reference's number of bits -/
theorem bits_spec {m : Nat} (hm : m < 256) : f_X9_bits (nI m) = some (nI (cnt (fun j => m.testBit j) 8)) := by
  obtain ⟨N, hN, hFU⟩ := FU_ex
  unfold f_X9_bits
  rw [hFU]
  refine it_rule (bot := fun _ _ _ => none) 8 (fun i (n : Int32) => n = nI (cnt (fun j => m.testBit j) i)) (fun k i n => k (nI m) n (nI i) = some (nI (cnt (fun j => m.testBit j) 8))) ?_ ?_ N 0 0 (by omega) (by omega) rfl
  · intro k n hn
    unfold X9_bits_B4
    rw [if_pos (by decide), hn]
  · intro k i n hi hn hk
    unfold X9_bits_B4
    rw [if_neg (show ¬ (8 : Int32) ≤ nI i from nlit (by decide) hi), nI_1]
    refine hk _ ?_
    rw [hn, cnt_s, bit_val hm hi, nI_add]
end C2
end
/-! 62.room -/
section
theorem room_fin {S : KDS} {z : MS} {a : AS} (hI : Inv a) (hH : Hc (K_now S) a) (hM : Mc (mcore z) a) (h3 : PadR (K_pad S) (M_signs z) (M_pad z) ∧ ImgR (K_kept S 0) (M_isKept z 0) (K_img0 S) (mimg (M_image z) 0) ∧ ImgR (K_kept S 1) (M_isKept z 1) (K_img1 S) (mimg (M_image z) 200)) {r w v : Nat} (hr : r < 6) (hw : w < 6) (hv : v ≤ 9) (h4 : w = 4 → 1 ≤ v ∧ a_in a r ≤ v) :
    ∃ q x, X8_room_J83 (K_now S) (nI r) (nI w) (nI v) = some q ∧ X9_room_J78 z (nI r) (nI w) (nI v) = some x ∧ q.1 = x.1 ∧ Rel (K_set_now S q.2) x.2 := by
  obtain ⟨i1, i2, i3, i4, i5, i6, i7, i8, i9, i10, i11⟩ := hI
  obtain ⟨d1, d2, d3, d4, d5, d6, d7, d8⟩ := hH
  obtain ⟨m1, m2, m3, m4, m5, m6, m7⟩ := hM
  have hc : ∀ o, H_measure (K_now S) (r * 6 + w) = o → X8_room_J83 (K_now S) (nI r) (nI w) (nI v) = some (o, H_set_measure (K_now S) (upd (H_measure (K_now S)) (r * 6 + w) (nI v))) := by
    intro o ho
    unfold X8_room_J83
    rw [ix6, chk_nI (by omega) (by decide), chk_nI (by omega) (by decide), nI_clamp (by omega), ltA_eq, ho]
  by_cases c4 : w < 4
  · have e1 : H_measure (K_now S) (r * 6 + w) = nI (a_th a r w) := (d4 r hr).1 w c4
    have e2 : M_things z (4 * r + w) = nI (a_th a r w) := (m4 r hr).1 w c4
    obtain ⟨z1, ez1⟩ : ∃ y, y = M_set_things z (upd (M_things z) (4 * r + w) (nI v)) := ⟨_, rfl⟩
    have k1 := mk_things z (upd (M_things z) (4 * r + w) (nI v))
    rw [← ez1] at k1
    refine ⟨_, (nI (a_th a r w), z1), hc _ e1, ?_, rfl, ?_⟩
    · unfold X9_room_J78 X9_room_J116
      rw [if_neg (show ¬ (4 : Int32) ≤ nI w from nlit (by decide) c4), if_neg (show ¬ (4 : Int32) ≤ nI w from nlit (by decide) c4), ix4', chk_nI (by omega) (by decide), chk_nI (by omega) (by decide), nI_clamp (by omega), ltA_eq, ← ez1, e2]
    · unfold Rel
      rw [k1]
      refine ⟨⟨(a_R a, a_T a, a_k a, (fun r' s' => if r' = r ∧ s' = w then v else a_th a r' s'), a_sz a, a_ch a, a_wd a, a_lk a, a_pl a, a_bs a, a_mt a, a_lf a, a_sg a, a_sr a), ⟨i1, ?_, i3, i4, i5, i6, i7, i8, i9, i10, i11⟩, ⟨d1, d2, d3, ?_, d5, d6, d7, d8⟩, ⟨m1, m2, m3, ?_, m5, m6, m7⟩⟩, h3⟩
      · intro r' hr'
        refine ⟨fun s hs => ?_, (i2 r' hr').2⟩
        show (if r' = r ∧ s = w then v else a_th a r' s) ≤ 9
        split
        · exact hv
        · exact (i2 r' hr').1 s hs
      · intro r' hr'
        refine ⟨fun s hs => ?_, ?_, ?_⟩
        · show upd (H_measure (K_now S)) (r * 6 + w) (nI v) (r' * 6 + s) = nI (if r' = r ∧ s = w then v else a_th a r' s)
          by_cases q : r' = r ∧ s = w
          · rw [if_pos q, q.1, q.2, pk_us]
          · rw [if_neg q, pk_un (by omega)]; exact (d4 r' hr').1 s hs
        · show upd (H_measure (K_now S)) (r * 6 + w) (nI v) (r' * 6 + 4) = _
          rw [pk_un (by omega)]; exact (d4 r' hr').2.1
        · show upd (H_measure (K_now S)) (r * 6 + w) (nI v) (r' * 6 + 5) = _
          rw [pk_un (by omega)]; exact (d4 r' hr').2.2
      · intro r' hr'
        refine ⟨fun s hs => ?_, (m4 r' hr').2⟩
        show upd (M_things z) (4 * r + w) (nI v) (4 * r' + s) = nI (if r' = r ∧ s = w then v else a_th a r' s)
        by_cases q : r' = r ∧ s = w
        · rw [if_pos q, q.1, q.2, pk_us]
        · rw [if_neg q, pk_un (by omega)]; exact (m4 r' hr').1 s hs
  · have n4 : (4 : Int32) ≤ nI w := nI_le (a := 4) (by omega) (by omega)
    by_cases c5 : w = 4
    · subst c5
      have e1 : H_measure (K_now S) (r * 6 + 4) = nI (a_sz a r) := (d4 r hr).2.1
      have e2 : M_size z r = nI (a_sz a r) := (m4 r hr).2.1
      obtain ⟨z1, ez1⟩ : ∃ y, y = M_set_size z (upd (M_size z) r (nI v)) := ⟨_, rfl⟩
      have k1 := mk_size z (upd (M_size z) r (nI v))
      rw [← ez1] at k1
      refine ⟨_, (nI (a_sz a r), z1), hc _ e1, ?_, rfl, ?_⟩
      · unfold X9_room_J78 X9_room_J116
        rw [if_pos n4, if_pos n4, if_pos (show nI 4 = (4 : Int32) from rfl), if_pos (show nI 4 = (4 : Int32) from rfl), chk_nI hr (by decide), chk_nI hr (by decide), nI_clamp (by omega), ltA_eq, ← ez1, e2]
      · unfold Rel
        rw [k1]
        refine ⟨⟨(a_R a, a_T a, a_k a, a_th a, (fun r' => if r' = r then v else a_sz a r'), a_ch a, a_wd a, a_lk a, a_pl a, a_bs a, a_mt a, a_lf a, a_sg a, a_sr a), ⟨i1, ?_, i3, i4, i5, i6, i7, i8, i9, ?_, i11⟩, ⟨d1, d2, d3, ?_, d5, d6, d7, d8⟩, ⟨m1, m2, m3, ?_, m5, m6, m7⟩⟩, h3⟩
        · intro r' hr'
          refine ⟨(i2 r' hr').1, ?_, ?_, (i2 r' hr').2.2.2⟩
          · show 1 ≤ (if r' = r then v else a_sz a r')
            split
            · exact (h4 rfl).1
            · exact (i2 r' hr').2.1
          · show (if r' = r then v else a_sz a r') ≤ 9
            split
            · exact hv
            · exact (i2 r' hr').2.2.1
        · intro r' hr'
          show a_in a r' ≤ (if r' = r then v else a_sz a r')
          by_cases q : r' = r
          · rw [if_pos q, q]; exact (h4 rfl).2
          · rw [if_neg q]; exact i10 r' hr'
        · intro r' hr'
          refine ⟨fun s hs => ?_, ?_, ?_⟩
          · show upd (H_measure (K_now S)) (r * 6 + 4) (nI v) (r' * 6 + s) = _
            rw [pk_un (by omega)]; exact (d4 r' hr').1 s hs
          · show upd (H_measure (K_now S)) (r * 6 + 4) (nI v) (r' * 6 + 4) = nI (if r' = r then v else a_sz a r')
            by_cases q : r' = r
            · rw [if_pos q, q, pk_us]
            · rw [if_neg q, pk_un (by omega)]; exact (d4 r' hr').2.1
          · show upd (H_measure (K_now S)) (r * 6 + 4) (nI v) (r' * 6 + 5) = _
            rw [pk_un (by omega)]; exact (d4 r' hr').2.2
        · intro r' hr'
          refine ⟨(m4 r' hr').1, ?_, (m4 r' hr').2.2⟩
          show upd (M_size z) r (nI v) r' = nI (if r' = r then v else a_sz a r')
          by_cases q : r' = r
          · rw [if_pos q, q, pk_us]
          · rw [if_neg q, pk_un q]; exact (m4 r' hr').2.1
    · have c5' : w = 5 := by omega
      subst c5'
      have e1 : H_measure (K_now S) (r * 6 + 5) = nI (a_ch a r) := (d4 r hr).2.2
      have e2 : M_chairs z r = nI (a_ch a r) := (m4 r hr).2.2
      obtain ⟨z1, ez1⟩ : ∃ y, y = M_set_chairs z (upd (M_chairs z) r (nI v)) := ⟨_, rfl⟩
      have k1 := mk_chairs z (upd (M_chairs z) r (nI v))
      rw [← ez1] at k1
      refine ⟨_, (nI (a_ch a r), z1), hc _ e1, ?_, rfl, ?_⟩
      · unfold X9_room_J78 X9_room_J116
        rw [if_pos n4, if_neg (show ¬ nI 5 = (4 : Int32) by decide), chk_nI hr (by decide), nI_clamp (by omega), if_pos n4, if_neg (show ¬ nI 5 = (4 : Int32) by decide), chk_nI hr (by decide), ltA_eq, ← ez1, e2]
      · unfold Rel
        rw [k1]
        refine ⟨⟨(a_R a, a_T a, a_k a, a_th a, a_sz a, (fun r' => if r' = r then v else a_ch a r'), a_wd a, a_lk a, a_pl a, a_bs a, a_mt a, a_lf a, a_sg a, a_sr a), ⟨i1, ?_, i3, i4, i5, i6, i7, i8, i9, i10, i11⟩, ⟨d1, d2, d3, ?_, d5, d6, d7, d8⟩, ⟨m1, m2, m3, ?_, m5, m6, m7⟩⟩, h3⟩
        · intro r' hr'
          refine ⟨(i2 r' hr').1, (i2 r' hr').2.1, (i2 r' hr').2.2.1, ?_⟩
          show (if r' = r then v else a_ch a r') ≤ 9
          split
          · exact hv
          · exact (i2 r' hr').2.2.2
        · intro r' hr'
          refine ⟨fun s hs => ?_, ?_, ?_⟩
          · show upd (H_measure (K_now S)) (r * 6 + 5) (nI v) (r' * 6 + s) = _
            rw [pk_un (by omega)]; exact (d4 r' hr').1 s hs
          · show upd (H_measure (K_now S)) (r * 6 + 5) (nI v) (r' * 6 + 4) = _
            rw [pk_un (by omega)]; exact (d4 r' hr').2.1
          · show upd (H_measure (K_now S)) (r * 6 + 5) (nI v) (r' * 6 + 5) = nI (if r' = r then v else a_ch a r')
            by_cases q : r' = r
            · rw [if_pos q, q, pk_us]
            · rw [if_neg q, pk_un (by omega)]; exact (d4 r' hr').2.2
        · intro r' hr'
          refine ⟨(m4 r' hr').1, (m4 r' hr').2.1, ?_⟩
          show upd (M_chairs z) r (nI v) r' = nI (if r' = r then v else a_ch a r')
          by_cases q : r' = r
          · rw [if_pos q, q, pk_us]
          · rw [if_neg q, pk_un q]; exact (m4 r' hr').2.2
theorem cnt_in {a : AS} {r : Nat} : cnt (fun j => ((a_is a j && a_pl a j == r) && !(decide (nI j = (-6 : Int32)))) && (decide ((-1 : Int32) < 0) || decide (nI (a_bs a j) = (-1 : Int32)))) 8 = a_in a r := by
  unfold a_in
  rw [cn8_cnt]
  refine cnt_congr (fun j hj => ?_)
  have e : decide (nI j = (-6 : Int32)) = false := decide_eq_false (fun q => by have := nI_pos (n := j) (by omega); rw [q] at this; exact this (by decide))
  rw [e, show decide ((-1 : Int32) < 0) = true from rfl]
  simp
theorem cnt_sit {a : AS} (hI : Inv a) {r : Nat} : cnt (fun j => ((a_is a j && a_pl a j == r) && !(decide (nI j = (-6 : Int32)))) && (decide ((2 : Int32) < 0) || decide (nI (a_bs a j) = (2 : Int32)))) 8 = a_sit a r := by
  unfold a_sit
  refine cnt_congr (fun j hj => ?_)
  have b3 := bs_lt hI hj
  have e : decide (nI j = (-6 : Int32)) = false := decide_eq_false (fun q => by have := nI_pos (n := j) (by omega); rw [q] at this; exact this (by decide))
  have e2 : decide (nI (a_bs a j) = (2 : Int32)) = (a_bs a j == 2) := by
    rw [Bool.eq_iff_iff, decide_eq_true_eq, show (2 : Int32) = nI 2 from rfl, nI_eq (by omega) (by decide)]; simp
  rw [e, e2, show decide ((2 : Int32) < 0) = false from rfl]
  simp
theorem sim_room : Sim_room Rel := by
  intro S z x1 x2 x3 h
  obtain ⟨⟨a, hI, hH, hM⟩, h3⟩ := id h
  have hH : Hc (K_now S) a := hH
  have hM : Mc (mcore z) a := hM
  have hR6 := hI.1.2.1
  have out : ∀ v : Int32, f_X8_room (K_now S) x1 x2 x3 = some (v, K_now S) → f_X9_room z x1 x2 x3 = some (v, z) → ∃ q w, f_X8_room (K_now S) x1 x2 x3 = some q ∧ f_X9_room z x1 x2 x3 = some w ∧ q.1 = w.1 ∧ Rel (K_set_now S q.2) w.2 := fun v e1 e2 => ⟨_, _, e1, e2, rfl, h⟩
  rcases rm_cases hI hH hM x1 with ⟨r, hr, rfl, t1, t2⟩ | ⟨-, t1, t2⟩
  · rcases num_cases x2 (n := 6) (by decide) with ⟨w, hw, rfl⟩ | hx2
    · have b2 : f_X9_in (nI w) 0 5 = some 1 := in_nI (n := 6) hw (by decide)
      obtain ⟨lo, hlo, hlo4⟩ : ∃ lo : Nat, (lo = if w = 4 then 1 else 0) ∧ lo ≤ 1 := ⟨_, rfl, by split <;> omega⟩
      have g1 : f_X8_room (K_now S) (nI r) (nI w) x3 = X8_room_J34 (K_now S) (nI r) (nI w) x3 (nI lo) x3 := by
        unfold f_X8_room
        rw [t1, Option.bind_some, if_neg (show ¬ (1 : Int32) = 0 by decide), if_neg (nI_pos (by omega)), if_neg (show ¬ (6 : Int32) ≤ nI w from nlit (by decide) hw)]
        by_cases c : w = 4
        · rw [if_pos (show nI w = (4 : Int32) by rw [c]; rfl), hlo, if_pos c]; rfl
        · rw [if_neg (show ¬ nI w = (4 : Int32) from fun q => c ((nI_eq (by omega) (b := 4) (by decide)).mp q)), hlo, if_neg c]; rfl
      have g2 : f_X9_room z (nI r) (nI w) x3 = X9_room_J30 z (nI r) (nI w) x3 (nI lo) x3 := by
        unfold f_X9_room
        rw [t2, Option.bind_some, if_neg (show ¬ (1 : Int32) = 0 by decide), b2, Option.bind_some, if_neg (show ¬ (1 : Int32) = 0 by decide)]
        by_cases c : w = 4
        · rw [if_pos (show nI w = (4 : Int32) by rw [c]; rfl), hlo, if_pos c]; rfl
        · rw [if_neg (show ¬ nI w = (4 : Int32) from fun q => c ((nI_eq (by omega) (b := 4) (by decide)).mp q)), hlo, if_neg c]; rfl
      by_cases c1 : x3 < nI lo
      · refine out (-2) ?_ ?_
        · rw [g1]; unfold X8_room_J34; rw [if_pos c1]
        · rw [g2]; unfold X9_room_J30; rw [in_0 (Or.inl c1), Option.bind_some, if_pos rfl]
      · by_cases c9 : x3 ≤ 9
        · obtain ⟨v, hv, rfl⟩ := nI_of (x := x3) (fun q => c1 (Int32.lt_of_lt_of_le q (nI_pos' (by omega))))
          have hv9 : v ≤ 9 := (nI_leI hv (b := 9) (by decide)).mp c9
          have hvl : lo ≤ v := by
            rcases Nat.lt_or_ge v lo with q | q
            · exact absurd (nI_lt q (by omega)) c1
            · exact q
          have ein : a_in a r ≤ 8 := cnt_le _ 8
          have esi : a_sit a r ≤ 8 := cnt_le _ 8
          have k1 : f_X8_room (K_now S) (nI r) (nI w) (nI v) = if w = 4 ∧ v < a_in a r ∨ w = 5 ∧ v < a_sit a r then some (-3, K_now S) else X8_room_J83 (K_now S) (nI r) (nI w) (nI v) := by
            rw [g1]; unfold X8_room_J34 X8_room_J63
            rw [if_neg c1, if_pos c9, count_spec hI hH (by omega), sitters_spec hI hH (by omega), Option.bind_some, Option.bind_some]
            rcases (show w < 4 ∨ w = 4 ∨ w = 5 by omega) with c | c | c
            · rw [if_neg (show ¬ nI w = (4 : Int32) from fun q => by have := (nI_eq (by omega) (b := 4) (by decide)).mp q; omega), if_neg (show ¬ nI w = (5 : Int32) from fun q => by have := (nI_eq (by omega) (b := 5) (by decide)).mp q; omega), if_neg (by omega)]
            · subst c
              rw [if_pos (show nI 4 = (4 : Int32) from rfl), if_neg (show ¬ nI 4 = (5 : Int32) by decide)]
              by_cases q : v < a_in a r
              · rw [if_pos (nI_lt q (by omega)), if_pos (Or.inl ⟨rfl, q⟩)]
              · rw [if_neg (nI_nlt (by omega) hv), if_neg (by omega)]
            · subst c
              rw [if_neg (show ¬ nI 5 = (4 : Int32) by decide), if_pos (show nI 5 = (5 : Int32) from rfl)]
              by_cases q : v < a_sit a r
              · rw [if_neg (nI_ge q (by omega)), if_pos (Or.inr ⟨rfl, q⟩)]
              · rw [if_pos (nI_le (by omega) hv), if_neg (by omega)]
          have k2 : f_X9_room z (nI r) (nI w) (nI v) = if w = 4 ∧ v < a_in a r ∨ w = 5 ∧ v < a_sit a r then some (-3, z) else X9_room_J78 z (nI r) (nI w) (nI v) := by
            rw [g2]; unfold X9_room_J30 X9_room_J58
            rw [in_1 c1 (Int32.not_lt.mpr c9), Option.bind_some, if_neg (show ¬ (1 : Int32) = 0 by decide), inRoom_spec hI hM (by omega), inRoom_spec hI hM (by omega), cnt_in, cnt_sit hI, Option.bind_some, Option.bind_some]
            rcases (show w < 4 ∨ w = 4 ∨ w = 5 by omega) with c | c | c
            · rw [if_neg (show ¬ nI w = (4 : Int32) from fun q => by have := (nI_eq (by omega) (b := 4) (by decide)).mp q; omega), if_neg (show ¬ nI w = (5 : Int32) from fun q => by have := (nI_eq (by omega) (b := 5) (by decide)).mp q; omega), if_neg (by omega)]
            · subst c
              rw [if_pos (show nI 4 = (4 : Int32) from rfl), if_neg (show ¬ nI 4 = (5 : Int32) by decide)]
              by_cases q : v < a_in a r
              · rw [if_pos (nI_lt q (by omega)), if_pos (Or.inl ⟨rfl, q⟩)]
              · rw [if_neg (nI_nlt (by omega) hv), if_neg (by omega)]
            · subst c
              rw [if_neg (show ¬ nI 5 = (4 : Int32) by decide), if_pos (show nI 5 = (5 : Int32) from rfl)]
              by_cases q : v < a_sit a r
              · rw [if_neg (nI_ge q (by omega)), if_pos (Or.inr ⟨rfl, q⟩)]
              · rw [if_pos (nI_le (by omega) hv), if_neg (by omega)]
          by_cases q : w = 4 ∧ v < a_in a r ∨ w = 5 ∧ v < a_sit a r
          · exact out (-3) (by rw [k1, if_pos q]) (by rw [k2, if_pos q])
          · rw [k1, k2, if_neg q, if_neg q]
            exact room_fin hI hH hM h3 (by omega) hw hv9 (fun c => ⟨by rw [if_pos c] at hlo; omega, by omega⟩)
        · refine out (-2) ?_ ?_
          · rw [g1]; unfold X8_room_J34; rw [if_neg c1, if_neg c9]
          · rw [g2]; unfold X9_room_J30; rw [in_0 (Or.inr (Int32.not_le.mp c9)), Option.bind_some, if_pos rfl]
    · refine out (-2) ?_ ?_
      · unfold f_X8_room
        rw [t1, Option.bind_some, if_neg (show ¬ (1 : Int32) = 0 by decide)]
        by_cases c : x2 < 0
        · rw [if_pos c]
        · rw [if_neg c, if_pos (show (6 : Int32) ≤ x2 from hx2.resolve_left c)]
      · unfold f_X9_room; rw [t2, Option.bind_some, if_neg (show ¬ (1 : Int32) = 0 by decide), show f_X9_in x2 0 5 = some 0 from in_no (n := 6) (by decide) (by decide) hx2, Option.bind_some, if_pos rfl]
  · refine out (-1) ?_ ?_
    · unfold f_X8_room; rw [t1, Option.bind_some, if_pos rfl]
    · unfold f_X9_room; rw [t2, Option.bind_some, if_pos rfl]
end
/-! 63.more -/
section
theorem it_s {γ : Type} (B : γ → γ) (bot : γ) (n : Nat) : it B bot (n + 1) = B (it B bot n) := rfl
/-- shut(): no one has gone through any door -/
theorem shut_spec (z : MS) : ∃ w f, f_X9_shut z = some w ∧ mkeep w = mkeep z ∧ msc w = ((msc z).1, (msc z).2.1, (msc z).2.2.1, (msc z).2.2.2.1, (msc z).2.2.2.2.1, (msc z).2.2.2.2.2.1, f) ∧ ∀ k, k < 36 → f k = 0 := by
  obtain ⟨N, hN, hFU⟩ := FU_ex
  unfold f_X9_shut
  rw [hFU]
  refine it_rule (bot := fun _ _ => none) 36 (fun i (y : MS) => mkeep y = mkeep z ∧ ∃ f, msc y = ((msc z).1, (msc z).2.1, (msc z).2.2.1, (msc z).2.2.2.1, (msc z).2.2.2.2.1, (msc z).2.2.2.2.2.1, f) ∧ ∀ k, k < i → f k = 0) (fun k i y => ∃ w f, k y (nI i) = some w ∧ mkeep w = mkeep z ∧ msc w = ((msc z).1, (msc z).2.1, (msc z).2.2.1, (msc z).2.2.2.1, (msc z).2.2.2.2.1, (msc z).2.2.2.2.2.1, f) ∧ ∀ k, k < 36 → f k = 0) ?_ ?_ N 0 z (by omega) (by omega) ⟨rfl, M_through z, rfl, fun k hk => absurd hk (Nat.not_lt_zero _)⟩
  · intro k y ⟨h1, f, h2, h3⟩
    exact ⟨y, f, by unfold X9_shut_B2; rw [if_pos (by decide)], h1, h2, h3⟩
  · intro k i y hi ⟨h1, f, h2, h3⟩ hk
    obtain ⟨y1, ey1⟩ : ∃ x, x = M_set_through y (upd (M_through y) i 0) := ⟨_, rfl⟩
    obtain ⟨e1, e2⟩ := set_through ey1
    have ht : M_through y = f := congrArg (fun m => m.2.2.2.2.2.2) h2
    obtain ⟨w, f', a1, a2⟩ := hk y1 ⟨e1.trans h1, upd f i 0, by rw [e2, h2, ht], fun j hj => by
      by_cases q : j = i
      · subst q; exact pk_us
      · exact (pk_un q).trans (h3 j (by omega))⟩
    refine ⟨w, f', ?_, a2⟩
    unfold X9_shut_B2
    rw [if_neg (show ¬ (36 : Int32) ≤ nI i from nlit (by decide) hi), chk_nI hi (by decide), nI_clamp (by omega), ltA_eq, ← ey1, nI_1]
    exact a1
theorem copy_eq (h h2 : HS) : f_X1_copy h h2 = some (H_rooms h2, H_there h2, H_sights h2, va_cpy (H_measure h2) (H_measure h) 0 0 36, va_cpy (H_width h2) (H_width h) 0 0 36, va_cpy (H_place h2) (H_place h) 0 0 8, va_cpy (H_busy h2) (H_busy h) 0 0 8, va_cpy (H_mate h2) (H_mate h) 0 0 8, va_cpy (H_left h2) (H_left h) 0 0 8, va_cpy (H_likes h2) (H_likes h) 0 0 40, va_cpy (H_sightGuest h2) (H_sightGuest h) 0 0 6, va_cpy (H_sightRoom h2) (H_sightRoom h) 0 0 6) := rfl
theorem cpy_at {α : Type} {f g : Nat → α} {n j : Nat} (h : j < n) : va_cpy f g 0 0 n j = f j := by
  unfold va_cpy
  simp [h]
/-- copy(): all of a house is as the other's -/
theorem copy_spec (h h2 : HS) : ∃ h', f_X1_copy h h2 = some h' ∧ H_rooms h' = H_rooms h2 ∧ H_there h' = H_there h2 ∧ H_sights h' = H_sights h2 ∧ (∀ j, j < 36 → H_measure h' j = H_measure h2 j) ∧ (∀ j, j < 36 → H_width h' j = H_width h2 j) ∧ (∀ j, j < 8 → H_place h' j = H_place h2 j ∧ H_busy h' j = H_busy h2 j ∧ H_mate h' j = H_mate h2 j ∧ H_left h' j = H_left h2 j) ∧ (∀ j, j < 40 → H_likes h' j = H_likes h2 j) ∧ (∀ j, j < 6 → H_sightGuest h' j = H_sightGuest h2 j ∧ H_sightRoom h' j = H_sightRoom h2 j) :=
  ⟨_, copy_eq h h2, rfl, rfl, rfl, fun _ hj => cpy_at hj, fun _ hj => cpy_at hj, fun _ hj => ⟨cpy_at hj, cpy_at hj, cpy_at hj, cpy_at hj⟩, fun _ hj => cpy_at hj, fun _ hj => ⟨cpy_at hj, cpy_at hj⟩⟩
end
/-! 63.step -/
section
/-! rules for stepping: literals are nI's; tests decided; index tests dropped -/
theorem s_lit {k : Nat} : (no_index (OfNat.ofNat k) : Int32) = nI k := rfl
theorem s_lt_t {a b : Nat} (h : a < b) (hb : b < 2 ^ 31) : (nI a < nI b) = True := eq_true (nI_lt h hb)
theorem s_lt_f {a b : Nat} (h : b ≤ a) (hb : a < 2 ^ 31) : (nI a < nI b) = False := eq_false (nI_nlt h hb)
theorem s_le_t {a b : Nat} (h : a ≤ b) (hb : b < 2 ^ 31) : (nI a ≤ nI b) = True := eq_true (nI_le h hb)
theorem s_le_f {a b : Nat} (h : b < a) (hb : a < 2 ^ 31) : (nI a ≤ nI b) = False := eq_false (nI_ge h hb)
theorem s_eq_t {a b : Nat} (h : a = b) : (nI a = nI b) = True := eq_true (by rw [h])
theorem s_eq_f {a b : Nat} (h : a ≠ b) (ha : a < 2 ^ 31) (hb : b < 2 ^ 31) : (nI a = nI b) = False := eq_false (fun q => h ((nI_eq ha hb).mp q))
theorem s_chk {α : Type} {n N : Nat} {x : Option α} (h : n < N) (hN : N < 2 ^ 31) : chk (nI n) N x = x := chk_nI h hN
theorem s_clamp {n : Nat} (h : n < 2 ^ 31) : (nI n).toNatClampNeg = n := nI_clamp h
theorem s_mod (b : Bool) : ((if b = true then (1 : Int32) else 0) = 0) = (b = false) := by cases b <;> decide
theorem ltA_ex {α β : Type} {x : α} {k : α → Option β} {Q : β → Prop} (h : ∀ y, y = x → ∃ w, k y = some w ∧ Q w) : ∃ w, ltA x k = some w ∧ Q w := by rw [ltA_eq]; exact h x rfl
theorem bind_ex {α β : Type} {e : Option α} {k : α → Option β} {Q : β → Prop} {R : α → Prop} (h : ∃ v, e = some v ∧ R v) (h2 : ∀ v, R v → ∃ w, k v = some w ∧ Q w) : ∃ w, e.bind k = some w ∧ Q w := by
  obtain ⟨v, e1, e2⟩ := h
  rw [e1]; exact h2 v e2
/-- the rest of the reference's parts -/
def mrest (z : MS) : Int32 × Int32 × (Nat → Int64) × (Nat → Int32) × (Nat → Int64) × (Nat → Int64) := (M_reason z, M_events z, M_states z, M_dear z, M_chances z, M_then z)
section SX
variable {z z' : MS} {f : Nat → Int32} {v : Int32}
theorem sx_at (h : z' = M_set_at z f) : mkeep z' = mkeep z ∧ msc z' = (f, (msc z).2) ∧ mrest z' = mrest z := by subst h; exact ⟨kp_at z f, ms_at z f, rfl⟩
theorem sx_busyNow (h : z' = M_set_busyNow z f) : mkeep z' = mkeep z ∧ msc z' = ((msc z).1, f, (msc z).2.2) ∧ mrest z' = mrest z := by subst h; exact ⟨kp_busyNow z f, ms_busyNow z f, rfl⟩
theorem sx_withNow (h : z' = M_set_withNow z f) : mkeep z' = mkeep z ∧ msc z' = ((msc z).1, (msc z).2.1, f, (msc z).2.2.2) ∧ mrest z' = mrest z := by subst h; exact ⟨kp_withNow z f, ms_withNow z f, rfl⟩
theorem sx_leftNow (h : z' = M_set_leftNow z f) : mkeep z' = mkeep z ∧ msc z' = ((msc z).1, (msc z).2.1, (msc z).2.2.1, f, (msc z).2.2.2.2) ∧ mrest z' = mrest z := by subst h; exact ⟨kp_leftNow z f, ms_leftNow z f, rfl⟩
theorem sx_thingsNow (h : z' = M_set_thingsNow z f) : mkeep z' = mkeep z ∧ msc z' = ((msc z).1, (msc z).2.1, (msc z).2.2.1, (msc z).2.2.2.1, f, (msc z).2.2.2.2.2) ∧ mrest z' = mrest z := by subst h; exact ⟨kp_thingsNow z f, ms_thingsNow z f, rfl⟩
theorem sx_loose (h : z' = M_set_loose z v) : mkeep z' = mkeep z ∧ msc z' = ((msc z).1, (msc z).2.1, (msc z).2.2.1, (msc z).2.2.2.1, (msc z).2.2.2.2.1, v, (msc z).2.2.2.2.2.2) ∧ mrest z' = mrest z := by subst h; exact ⟨kp_loose z v, ms_loose z v, rfl⟩
theorem sx_through (h : z' = M_set_through z f) : mkeep z' = mkeep z ∧ msc z' = ((msc z).1, (msc z).2.1, (msc z).2.2.1, (msc z).2.2.2.1, (msc z).2.2.2.2.1, (msc z).2.2.2.2.2.1, f) ∧ mrest z' = mrest z := by subst h; exact ⟨kp_through z f, ms_through z f, rfl⟩
theorem sx_reason (h : z' = M_set_reason z v) : mkeep z' = mkeep z ∧ msc z' = msc z ∧ mrest z' = (v, (mrest z).2) := by subst h; exact ⟨rfl, rfl, rfl⟩
theorem sx_events (h : z' = M_set_events z v) : mkeep z' = mkeep z ∧ msc z' = msc z ∧ mrest z' = ((mrest z).1, v, (mrest z).2.2) := by subst h; exact ⟨rfl, rfl, rfl⟩
end SX
/-- two loops side by side -/
theorem it_rule2 {γ δ σ : Type} {B : γ → γ} {bot : γ} {C : δ → δ} {bot2 : δ} (e : Nat) (I : Nat → σ → Prop) (Q : γ → δ → Nat → σ → Prop) (hex : ∀ k k' s, I e s → Q (B k) (C k') e s) (hst : ∀ k k' i s, i < e → I i s → (∀ s', I (i + 1) s' → Q k k' (i + 1) s') → Q (B k) (C k') i s) : ∀ n i s, e - i < n → i ≤ e → I i s → Q (it B bot n) (it C bot2 n) i s := by
  intro n
  induction n with
  | zero => intro i s h; omega
  | succ n ih =>
    intro i s h hi hI
    show Q (B (it B bot n)) (C (it C bot2 n)) i s
    by_cases c : i = e
    · subst c; exact hex _ _ s hI
    · exact hst _ _ i s (by omega) hI (fun s' hs' => ih (i + 1) s' (by omega) (by omega) hs')
/-- a guest stands in the door between r and q -/
def stn (a : AS) (r q g : Nat) : Bool := a_bs a g == 3 && ((a_pl a g == r && a_mt a g == (q : Int)) || (a_pl a g == q && a_mt a g == (r : Int)))
def jam (a : AS) (r q : Nat) : Nat := cnt (stn a r q) 8
theorem mt_rng {a : AS} (hI : Inv a) {g : Nat} (hg : g < 8) : -6 ≤ a_mt a g ∧ a_mt a g < 8 := by
  have h3 := bs_lt hI hg
  have hR := hI.1.2.1
  rcases (show a_bs a g = 0 ∨ a_bs a g = 1 ∨ a_bs a g = 2 ∨ a_bs a g = 3 by omega) with q | q | q | q
  · rw [(hI.2.2.2.2.2.2.1 g hg (Or.inl q)).1]; decide
  · obtain ⟨j, h1, -, h2, -⟩ := hI.2.2.2.2.2.2.2.1 g hg q
    rw [h2]; omega
  · rw [(hI.2.2.2.2.2.2.1 g hg (Or.inr q)).1]; decide
  · obtain ⟨-, j, h1, -, h2, -⟩ := hI.2.2.2.2.2.2.2.2.1 g hg q
    rw [h2]; omega
theorem oI_toInt {x : Int} (h1 : -1000000 ≤ x) (h2 : x ≤ 1000000) : (Int32.ofInt x).toInt = x := by
  rw [Int32.toInt_ofInt]
  rw [Int.bmod_def, show (Int32.size : Nat) = 4294967296 from rfl]
  split <;> omega
theorem oI_nI {x : Int} {q : Nat} (h1 : -1000000 ≤ x) (h2 : x ≤ 1000000) (hq : q < 2 ^ 31) : (Int32.ofInt x = nI q) ↔ x = (q : Int) := by
  constructor
  · intro h
    have := congrArg Int32.toInt h
    rwa [oI_toInt h1 h2, nI_toInt hq] at this
  · intro h
    apply Int32.toInt_inj.mp
    rw [oI_toInt h1 h2, nI_toInt hq, h]
theorem oI_nat (q : Nat) : Int32.ofInt (q : Int) = nI q := rfl
end
/-! 64.door -/
section
theorem st_bool (P1 P2 P3 P4 : Prop) [Decidable P1] [Decidable P2] [Decidable P3] [Decidable P4] : (if P1 then (if P2 then some (nI 1) else if P3 then if P4 then some (nI 1) else some (nI 0) else some (nI 0)) else if P3 then if P4 then some (nI 1) else some (nI 0) else some (nI 0)) = some (if ((3 : Nat) == 3 && (decide P1 && decide P2 || decide P3 && decide P4)) = true then nI 1 else nI 0) := by
  by_cases c1 : P1 <;> by_cases c2 : P2 <;> by_cases c3 : P3 <;> by_cases c4 : P4 <;> simp [c1, c2, c3, c4]
section DO
variable {a : AS} {h : HS} {z : MS}
theorem mt_eq (hI : Inv a) {g q : Nat} (hg : g < 8) (hq : q < 2 ^ 31) : (Int32.ofInt (a_mt a g) = nI q) ↔ a_mt a g = (q : Int) := oI_nI (by have := mt_rng hI hg; omega) (by have := mt_rng hI hg; omega) hq
theorem jam_spec (hI : Inv a) (hH : Hc h a) {r q : Nat} (hr : r < 2 ^ 31) (hq : q < 2 ^ 31) : f_X1_jam h (nI r) (nI q) = some (nI (jam a r q)) := by
  obtain ⟨N, hN, hFU⟩ := FU_ex
  unfold f_X1_jam
  rw [hFU]
  refine it_rule (bot := fun _ _ _ _ _ => none) 8 (fun i (x : Int32) => x = nI (cnt (stn a r q) i)) (fun k i x => k h (nI r) (nI q) x (nI i) = some (nI (jam a r q))) ?_ ?_ N 0 0 (by omega) (by omega) rfl
  · intro k x hx
    unfold X1_jam_B5
    rw [if_pos (by decide), hx]; rfl
  · intro k i x hi hx hk
    obtain ⟨hp, hb, hm, -⟩ := hH.2.2.2.2.2.1 i hi
    have hpl := pl_lt hI hi
    have hbs := bs_lt hI hi
    have e1 : (nI (a_pl a i) = nI r) = (a_pl a i = r) := propext (nI_eq (by omega) hr)
    have e2 : (nI (a_pl a i) = nI q) = (a_pl a i = q) := propext (nI_eq (by omega) hq)
    have e3 : (Int32.ofInt (a_mt a i) = nI r) = (a_mt a i = (r : Int)) := propext (mt_eq hI hi hr)
    have e4 : (Int32.ofInt (a_mt a i) = nI q) = (a_mt a i = (q : Int)) := propext (mt_eq hI hi hq)
    have e5 : (nI (a_bs a i) = nI 3) = (a_bs a i = 3) := propext (nI_eq (by omega) (by omega))
    unfold X1_jam_B5 X1_jam_J34 X1_jam_J56 X1_jam_J60 X1_jam_J61 X1_jam_J82
    simp (disch := omega) only [s_lit, s_lt_t, s_lt_f, s_le_t, s_le_f, s_eq_t, s_eq_f, s_chk, s_clamp, Option.bind_some, nI_add, pk_mul, if_true, if_false, reduceIte, ↓reduceIte, hp, hb, hm, e1, e2, e3, e4, e5]
    have key : ∀ n : Nat, n = (if stn a r q i then 1 else 0) → k h (nI r) (nI q) (x + nI n) (nI (i + 1)) = some (nI (jam a r q)) := by
      intro n hn
      refine hk _ ?_
      rw [hx, cnt_s, nI_add, hn]
    have key0 : stn a r q i = false → k h (nI r) (nI q) x (nI (i + 1)) = some (nI (jam a r q)) := by
      intro hs
      have := key 0 (by rw [hs]; rfl)
      rwa [show nI 0 = (0 : Int32) from rfl, Int32.add_zero] at this
    have key1 : stn a r q i = true → k h (nI r) (nI q) (x + nI 1) (nI (i + 1)) = some (nI (jam a r q)) := fun hs => key 1 (by rw [hs]; rfl)
    unfold stn at key0 key1
    repeat' split
    all_goals (try rw [nI_add i 1])
    all_goals first
      | (apply key0; simp [*]; done)
      | (apply key1; simp [*]; done)
      | (apply key0; simp [*]; omega)
theorem jam_pos {r q : Nat} : 0 < jam a r q ↔ ∃ g, g < 8 ∧ stn a r q g = true := by
  unfold jam cnt
  rw [List.countP_pos_iff]
  constructor
  · rintro ⟨g, h1, h2⟩; exact ⟨g, List.mem_range.mp h1, h2⟩
  · rintro ⟨g, h1, h2⟩; exact ⟨g, List.mem_range.mpr h1, h2⟩
theorem jam_le {r q : Nat} : jam a r q ≤ 8 := cnt_le _ 8
theorem stn_wd (hI : Inv a) {r q g : Nat} (hg : g < 8) (h : stn a r q g = true) : 1 ≤ a_wd a r q ∧ a_is a g = true := by
  unfold stn at h
  simp only [Bool.and_eq_true, Bool.or_eq_true, beq_iff_eq] at h
  obtain ⟨hb, h⟩ := h
  have hi : a_is a g = true := by
    cases e : a_is a g
    · have := (hI.2.2.2.2.1 g hg e).2.1; omega
    · rfl
  obtain ⟨-, q', hq', -, hm, hw⟩ := hI.2.2.2.2.2.2.2.2.1 g hg hb
  have hpl := (hI.2.2.2.2.2.1 g hg hi).1
  have hR := hI.1.2.1
  refine ⟨?_, hi⟩
  rcases h with ⟨h1, h2⟩ | ⟨h1, h2⟩
  · have : q' = q := by omega
    rw [← h1, ← this]; exact hw
  · have : q' = r := by omega
    rw [(hI.2.2.1 r q (by omega) (by omega)).2.1, ← h1, ← this]; exact hw
theorem stands_spec (hI : Inv a) (hM : Mc (mcore z) a) {g r q : Nat} (hg : g < 8) (hr : r < 2 ^ 31) (hq : q < 2 ^ 31) : f_X9_standsIn z (nI g) (nI r) (nI q) = some (if stn a r q g then 1 else 0) := by
  have hT := hI.1.2.2.1
  have et : M_there z = nI (a_T a) := hM.2.1
  have hbs := bs_lt hI hg
  have hpl := pl_lt hI hg
  unfold f_X9_standsIn
  rw [et, has_b hT hg, Option.bind_some]
  cases e : (a_T a).testBit g
  · have e' : a_is a g = false := e
    have hb := (hI.2.2.2.2.1 g hg e').2.1
    unfold stn; rw [hb]; rfl
  · have e' : a_is a g = true := e
    obtain ⟨hp, hb, -, hm, -⟩ := hM.2.2.2.2.2.1 g hg e'
    have hp : M_place z g = nI (a_pl a g) := hp
    have hb : M_busy z g = nI (a_bs a g) := hb
    have hm : a_bs a g = 1 ∨ a_bs a g = 3 → M_with z g = Int32.ofInt (a_mt a g) := hm
    have e1 : (nI (a_pl a g) = nI r) = (a_pl a g = r) := propext (nI_eq (by omega) hr)
    have e2 : (nI (a_pl a g) = nI q) = (a_pl a g = q) := propext (nI_eq (by omega) hq)
    have e3 : (Int32.ofInt (a_mt a g) = nI r) = (a_mt a g = (r : Int)) := propext (mt_eq hI hg hr)
    have e4 : (Int32.ofInt (a_mt a g) = nI q) = (a_mt a g = (q : Int)) := propext (mt_eq hI hg hq)
    have e5 : (nI (a_bs a g) = nI 3) = (a_bs a g = 3) := propext (nI_eq (by omega) (by omega))
    unfold X9_standsIn_J41 X9_standsIn_J61
    simp (disch := omega) only [s_lit, s_lt_t, s_lt_f, s_le_t, s_le_f, s_eq_t, s_eq_f, s_chk, s_clamp, Option.bind_some, nI_add, pk_mul, if_true, if_false, reduceIte, ↓reduceIte, hp, hb, e5, e1, e2]
    by_cases c : a_bs a g = 3
    · simp (disch := omega) only [s_lit, s_lt_t, s_lt_f, s_le_t, s_le_f, s_eq_t, s_eq_f, s_chk, s_clamp, Option.bind_some, nI_add, pk_mul, if_true, if_false, reduceIte, ↓reduceIte, c, hm (Or.inr c), e3, e4]
      unfold stn
      have b1 : (a_pl a g == r) = decide (a_pl a g = r) := rfl
      have b2 : (a_mt a g == (q : Int)) = decide (a_mt a g = (q : Int)) := rfl
      have b3 : (a_pl a g == q) = decide (a_pl a g = q) := rfl
      have b4 : (a_mt a g == (r : Int)) = decide (a_mt a g = (r : Int)) := rfl
      rw [b1, b2, b3, b4, c]
      exact st_bool ..
    · simp (disch := omega) only [s_lit, s_lt_t, s_lt_f, s_le_t, s_le_f, s_eq_t, s_eq_f, s_chk, s_clamp, Option.bind_some, nI_add, pk_mul, if_true, if_false, reduceIte, ↓reduceIte, c]
      unfold stn; simp [c]
end DO
end
/-! 65.door2 -/
section
/-- a state with other widths -/
def a_setWd (a : AS) (f : Nat → Nat → Nat) : AS := (a_R a, a_T a, a_k a, a_th a, a_sz a, a_ch a, f, a_lk a, a_pl a, a_bs a, a_mt a, a_lf a, a_sg a, a_sr a)
def dw (a : AS) (r q v : Nat) (r' q' : Nat) : Nat := if (r' = r ∧ q' = q) ∨ (r' = q ∧ q' = r) then v else a_wd a r' q'
theorem Inv_door {a : AS} (hI : Inv a) {r q v : Nat} (hr : r < a_R a) (hq : q < a_R a) (hrq : r ≠ q) (hv : v ≤ 3) (h0 : v = 0 → jam a r q = 0) : Inv (a_setWd a (dw a r q v)) := by
  obtain ⟨i1, i2, i3, i4, i5, i6, i7, i8, i9, i10, i11⟩ := id hI
  refine ⟨i1, i2, ?_, ?_, i5, i6, i7, i8, ?_, i10, i11⟩
  · intro r' q' hr' hq'
    show dw a r q v r' q' ≤ 3 ∧ dw a r q v r' q' = dw a r q v q' r' ∧ (a_R a ≤ r' → dw a r q v r' q' = 0)
    obtain ⟨w1, w2, w3⟩ := i3 r' q' hr' hq'
    unfold dw
    by_cases c : (r' = r ∧ q' = q) ∨ (r' = q ∧ q' = r)
    · rw [if_pos c, if_pos (show (q' = r ∧ r' = q) ∨ (q' = q ∧ r' = r) by omega)]
      exact ⟨hv, rfl, fun _ => by omega⟩
    · rw [if_neg c, if_neg (show ¬ ((q' = r ∧ r' = q) ∨ (q' = q ∧ r' = r)) by omega)]
      exact ⟨w1, w2, w3⟩
  · intro r' hr'
    show dw a r q v r' r' = 0
    unfold dw
    rw [if_neg (by omega)]; exact i4 r' hr'
  · intro g hg hb
    obtain ⟨hl, j, j1, j2, j3, j4⟩ := i9 g hg hb
    refine ⟨hl, j, j1, j2, j3, ?_⟩
    show 1 ≤ dw a r q v (a_pl a g) j
    unfold dw
    by_cases c : (a_pl a g = r ∧ j = q) ∨ (a_pl a g = q ∧ j = r)
    · rw [if_pos c]
      rcases Nat.eq_zero_or_pos v with hv0 | hv0
      · exfalso
        have hj := h0 hv0
        have : 0 < jam a r q := jam_pos.mpr ⟨g, hg, by
          unfold stn
          have hb : a_bs a g = 3 := hb
          have j3 : a_mt a g = (j : Int) := j3
          rw [hb, j3]
          rcases c with ⟨c1, c2⟩ | ⟨c1, c2⟩
          · rw [c1, c2]; simp
          · rw [c1, c2]; simp⟩
        omega
      · exact hv0
    · rw [if_neg c]; exact j4
theorem Hc_door {a : AS} {h : HS} (hH : Hc h a) {r q v : Nat} (hr : r < 6) (hq : q < 6) : Hc (H_set_width h (upd (upd (H_width h) (r * 6 + q) (nI v)) (q * 6 + r) (nI v))) (a_setWd a (dw a r q v)) := by
  obtain ⟨b1, b2, b3, b4, b5, b6, b7, b8⟩ := hH
  refine ⟨b1, b2, b3, b4, ?_, b6, b7, b8⟩
  intro r' q' hr' hq'
  show upd (upd (H_width h) (r * 6 + q) (nI v)) (q * 6 + r) (nI v) (r' * 6 + q') = nI (dw a r q v r' q')
  unfold dw
  by_cases c1 : r' = q ∧ q' = r
  · rw [if_pos (Or.inr c1), c1.1, c1.2, pk_us]
  · rw [pk_un (by omega)]
    by_cases c2 : r' = r ∧ q' = q
    · rw [if_pos (Or.inl c2), c2.1, c2.2, pk_us]
    · rw [if_neg (by omega), pk_un (by omega)]; exact b5 r' q' hr' hq'
theorem Mc_door {a : AS} {z z' : MS} (hM : Mc (mcore z) a) {r q v : Nat} (hr : r < 6) (hq : q < 6) (e : mcore z' = (M_rooms z, M_things z, M_size z, M_chairs z, upd (upd (M_width z) (6 * r + q) (nI v)) (6 * q + r) (nI v), M_there z, M_likes z, M_place z, M_busy z, M_with z, M_left z, M_sights z, M_sight z)) : Mc (mcore z') (a_setWd a (dw a r q v)) := by
  rw [e]
  obtain ⟨m1, m2, m3, m4, m5, m6, m7⟩ := hM
  refine ⟨m1, m2, m3, m4, ?_, m6, m7⟩
  intro r' q' hr' hq'
  show upd (upd (M_width z) (6 * r + q) (nI v)) (6 * q + r) (nI v) (6 * r' + q') = nI (dw a r q v r' q')
  unfold dw
  by_cases c1 : r' = q ∧ q' = r
  · rw [if_pos (Or.inr c1), c1.1, c1.2, pk_us]
  · rw [pk_un (by omega)]
    by_cases c2 : r' = r ∧ q' = q
    · rw [if_pos (Or.inl c2), c2.1, c2.2, pk_us]
    · rw [if_neg (by omega), pk_un (by omega)]; exact m5 r' q' hr' hq'
theorem rdoor_loop {a : AS} {z z2 : MS} (hI : Inv a) (hM : Mc (mcore z) a) {r q v : Nat} (hr : r < 6) (hq : q < 6) (hv : v < 2 ^ 31) (e2 : z2 = M_set_width (M_set_width z (upd (M_width z) (6 * r + q) (nI v))) (upd (upd (M_width z) (6 * r + q) (nI v)) (6 * q + r) (nI v))) : it X9_door_B38 (fun _ _ _ _ _ => none) FU z (nI r) (nI q) (nI v) 0 = if v = 0 ∧ 0 < jam a r q then some (-3, z) else some (nI (a_wd a r q), z2) := by
  obtain ⟨N, hN, hFU⟩ := FU_ex
  rw [hFU]
  refine it_rule (bot := fun _ _ _ _ _ => none) 8 (fun i (_ : Unit) => ∀ j, j < i → v = 0 → stn a r q j = false) (fun k i _ => k z (nI r) (nI q) (nI v) (nI i) = if v = 0 ∧ 0 < jam a r q then some (-3, z) else some (nI (a_wd a r q), z2)) ?_ ?_ N 0 () (by omega) (by omega) (fun j hj => absurd hj (Nat.not_lt_zero _))
  · intro k _ hs
    have hw : M_width z (6 * r + q) = nI (a_wd a r q) := hM.2.2.2.2.1 r q hr hq
    have hn : ¬ (v = 0 ∧ 0 < jam a r q) := by
      rintro ⟨h1, h2⟩
      obtain ⟨g, hg, h3⟩ := jam_pos.mp h2
      rw [hs g hg h1] at h3; cases h3
    rw [if_neg hn]
    unfold X9_door_B38
    rw [if_pos (by decide), ix6', ix6', chk_nI (by omega) (by decide), chk_nI (by omega) (by decide), nI_clamp (by omega), nI_clamp (by omega), ltA_eq, chk_nI (by omega) (by decide), ltA_eq, hw]
    rw [e2]; rfl
  · intro k i _ hi hs hk
    unfold X9_door_B38 X9_door_J63
    rw [if_neg (show ¬ (8 : Int32) ≤ nI i from nlit (by decide) hi)]
    by_cases c : v = 0
    · rw [if_pos (show nI v = 0 by rw [c]; rfl), stands_spec hI hM hi (by omega) (by omega), Option.bind_some, nI_1]
      cases e : stn a r q i
      · rw [if_pos (by decide)]
        refine hk () (fun j hj h0 => ?_)
        by_cases cj : j = i
        · subst cj; exact e
        · exact hs j (by omega) h0
      · rw [if_neg (by decide), if_pos ⟨c, jam_pos.mpr ⟨i, hi, e⟩⟩]
    · rw [if_neg (show ¬ nI v = 0 from fun h => c ((nI_eq hv (b := 0) (by decide)).mp h)), nI_1]
      exact hk () (fun j _ h0 => absurd h0 c)
theorem sim_door : Sim_door Rel := by
  intro S z x1 x2 x3 h
  obtain ⟨⟨a, hI, hH, hM⟩, h3⟩ := id h
  have hH : Hc (K_now S) a := hH
  have hM : Mc (mcore z) a := hM
  have hR6 := hI.1.2.1
  have out : ∀ v : Int32, f_X8_door (K_now S) x1 x2 x3 = some (v, K_now S) → f_X9_door z x1 x2 x3 = some (v, z) → ∃ q w, f_X8_door (K_now S) x1 x2 x3 = some q ∧ f_X9_door z x1 x2 x3 = some w ∧ q.1 = w.1 ∧ Rel (K_set_now S q.2) w.2 := fun v e1 e2 => ⟨_, _, e1, e2, rfl, h⟩
  rcases rm_cases hI hH hM x1 with ⟨r, hr, rfl, a1, a2⟩ | ⟨-, a1, a2⟩
  · rcases rm_cases hI hH hM x2 with ⟨q, hq, rfl, b1, b2⟩ | ⟨-, b1, b2⟩
    · by_cases c : r = q
      · subst c
        refine out (-1) ?_ ?_
        · unfold f_X8_door
          rw [a1, Option.bind_some, if_neg (show ¬ (1 : Int32) = 0 by decide), Option.bind_some, if_neg (show ¬ (1 : Int32) = 0 by decide), if_pos rfl]
        · unfold f_X9_door
          rw [a2, Option.bind_some, if_neg (show ¬ (1 : Int32) = 0 by decide), Option.bind_some, if_neg (show ¬ (1 : Int32) = 0 by decide), if_pos rfl]
      · have c' : ¬ nI r = nI q := fun e => c ((nI_eq (by omega) (by omega)).mp e)
        rcases num_cases x3 (n := 4) (by decide) with ⟨v, hv, rfl⟩ | hx
        · obtain ⟨z2, ez2⟩ : ∃ y, y = M_set_width (M_set_width z (upd (M_width z) (6 * r + q) (nI v))) (upd (upd (M_width z) (6 * r + q) (nI v)) (6 * q + r) (nI v)) := ⟨_, rfl⟩
          have k2 : mkeep z2 = ((M_rooms z, M_things z, M_size z, M_chairs z, upd (upd (M_width z) (6 * r + q) (nI v)) (6 * q + r) (nI v), M_there z, M_likes z, M_place z, M_busy z, M_with z, M_left z, M_sights z, M_sight z), M_signs z, M_pad z, M_image z, M_isKept z) := by rw [ez2]; rfl
          have g2 : f_X9_door z (nI r) (nI q) (nI v) = if v = 0 ∧ 0 < jam a r q then some (-3, z) else some (nI (a_wd a r q), z2) := by
            unfold f_X9_door
            rw [a2, Option.bind_some, if_neg (show ¬ (1 : Int32) = 0 by decide), b2, Option.bind_some, if_neg (show ¬ (1 : Int32) = 0 by decide), if_neg c', show f_X9_in (nI v) 0 3 = some 1 from in_nI (n := 4) hv (by decide), Option.bind_some, if_neg (show ¬ (1 : Int32) = 0 by decide)]
            exact rdoor_loop hI hM (by omega) (by omega) (by omega) ez2
          have g3 : X8_door_J60 (K_now S) (nI r) (nI q) (nI v) = some (nI (a_wd a r q), H_set_width (K_now S) (upd (upd (H_width (K_now S)) (r * 6 + q) (nI v)) (q * 6 + r) (nI v))) := by
            unfold X8_door_J60 f_X1_widthOf
            rw [ix6, ix6, chk_nI (by omega) (by decide), Option.bind_some, nI_clamp (by omega), nI_clamp (by omega), chk_nI (by omega) (by decide), ltA_eq, chk_nI (by omega) (by decide), ltA_eq, hH.2.2.2.2.1 r q (by omega) (by omega)]
          have g1 : f_X8_door (K_now S) (nI r) (nI q) (nI v) = if v = 0 ∧ 0 < jam a r q then some (-3, K_now S) else some (nI (a_wd a r q), H_set_width (K_now S) (upd (upd (H_width (K_now S)) (r * 6 + q) (nI v)) (q * 6 + r) (nI v))) := by
            unfold f_X8_door
            rw [a1, Option.bind_some, if_neg (show ¬ (1 : Int32) = 0 by decide), b1, Option.bind_some, if_neg (show ¬ (1 : Int32) = 0 by decide), if_neg c', if_neg (nI_pos (by omega)), if_pos (show nI v ≤ (3 : Int32) from nI_le (b := 3) (by omega) (by decide)), jam_spec hI hH (by omega) (by omega), Option.bind_some, g3]
            have hj := jam_le (a := a) (r := r) (q := q)
            by_cases c0 : v = 0
            · rw [if_pos (show nI v = 0 by rw [c0]; rfl)]
              by_cases c1 : 0 < jam a r q
              · rw [if_neg (show ¬ nI (jam a r q) ≤ 0 from nI_ge c1 (by omega)), if_pos ⟨c0, c1⟩]
              · rw [if_pos (show nI (jam a r q) ≤ 0 from nI_le (b := 0) (by omega) (by decide)), if_neg (by omega)]
            · rw [if_neg (show ¬ nI v = 0 from fun h => c0 ((nI_eq (by omega) (b := 0) (by decide)).mp h)), if_neg (by omega)]
          by_cases hc : v = 0 ∧ 0 < jam a r q
          · exact out (-3) (by rw [g1, if_pos hc]) (by rw [g2, if_pos hc])
          · refine ⟨_, _, by rw [g1, if_neg hc], by rw [g2, if_neg hc], rfl, ?_⟩
            unfold Rel
            rw [k2]
            exact ⟨⟨_, Inv_door hI hr hq c (by omega) (by omega), Hc_door hH (by omega) (by omega), k2 ▸ Mc_door hM (by omega) (by omega) (congrArg (fun m => m.1) k2)⟩, h3⟩
        · refine out (-2) ?_ ?_
          · unfold f_X8_door
            rw [a1, Option.bind_some, if_neg (show ¬ (1 : Int32) = 0 by decide), b1, Option.bind_some, if_neg (show ¬ (1 : Int32) = 0 by decide), if_neg c']
            by_cases c2 : x3 < 0
            · rw [if_pos c2]
            · rw [if_neg c2, if_neg (show ¬ x3 ≤ (3 : Int32) from fun q => absurd (hx.resolve_left c2) (Int32.not_le.mpr (Int32.lt_of_le_of_lt q (by decide))))]
          · unfold f_X9_door
            rw [a2, Option.bind_some, if_neg (show ¬ (1 : Int32) = 0 by decide), b2, Option.bind_some, if_neg (show ¬ (1 : Int32) = 0 by decide), if_neg c', show f_X9_in x3 0 3 = some 0 from in_no (n := 4) (by decide) (by decide) hx, Option.bind_some, if_pos rfl]
    · refine out (-1) ?_ ?_
      · unfold f_X8_door; rw [a1, Option.bind_some, if_neg (show ¬ (1 : Int32) = 0 by decide), b1, Option.bind_some, if_pos rfl]
      · unfold f_X9_door; rw [a2, Option.bind_some, if_neg (show ¬ (1 : Int32) = 0 by decide), b2, Option.bind_some, if_pos rfl]
  · refine out (-1) ?_ ?_
    · unfold f_X8_door; rw [a1, Option.bind_some, if_pos rfl]
    · unfold f_X9_door; rw [a2, Option.bind_some, if_pos rfl]
end
/-! 66.eng -/
section
/-! one guest begins to do another thing -/
def eng (a : AS) (g b : Nat) (m : Int) (l : Nat) : AS := (a_R a, a_T a, a_k a, a_th a, a_sz a, a_ch a, a_wd a, a_lk a, a_pl a, (fun j => if j = g then b else a_bs a j), (fun j => if j = g then m else a_mt a j), (fun j => if j = g then l else a_lf a j), a_sg a, a_sr a)
def hEng (h : HS) (g : Nat) (b m l : Int32) : HS := H_set_left (H_set_mate (H_set_busy h (upd (H_busy h) g b)) (upd (H_mate h) g m)) (upd (H_left h) g l)
theorem engage_spec (h : HS) {g : Nat} (hg : g < 8) (b m l : Int32) : f_X1_engage h (nI g) b m l = some (hEng h g b m l) := by
  unfold f_X1_engage hEng
  rw [chk_nI hg (by decide), ltA_eq, chk_nI hg (by decide), ltA_eq, chk_nI hg (by decide), ltA_eq, nI_clamp (by omega)]
theorem Hc_eng {a : AS} {h : HS} (hH : Hc h a) {g : Nat} (b : Nat) (m : Int) (l : Nat) : Hc (hEng h g (nI b) (Int32.ofInt m) (nI l)) (eng a g b m l) := by
  obtain ⟨b1, b2, b3, b4, b5, b6, b7, b8⟩ := hH
  refine ⟨b1, b2, b3, b4, b5, ?_, b7, b8⟩
  intro j hj
  obtain ⟨p1, p2, p3, p4⟩ := b6 j hj
  show H_place h j = nI (a_pl a j) ∧ upd (H_busy h) g (nI b) j = nI (if j = g then b else a_bs a j) ∧ upd (H_mate h) g (Int32.ofInt m) j = Int32.ofInt (if j = g then m else a_mt a j) ∧ upd (H_left h) g (nI l) j = nI (if j = g then l else a_lf a j)
  by_cases c : j = g
  · rw [if_pos c, if_pos c, if_pos c, c, pk_us, pk_us, pk_us, ← c]; exact ⟨p1, rfl, rfl, rfl⟩
  · rw [if_neg c, if_neg c, if_neg c, pk_un c, pk_un c, pk_un c]; exact ⟨p1, p2, p3, p4⟩
theorem mk_busy (z : MS) (f : Nat → Int32) : mkeep (M_set_busy z f) = ((M_rooms z, M_things z, M_size z, M_chairs z, M_width z, M_there z, M_likes z, M_place z, f, M_with z, M_left z, M_sights z, M_sight z), M_signs z, M_pad z, M_image z, M_isKept z) := rfl
theorem mk_left (z : MS) (f : Nat → Int32) : mkeep (M_set_left z f) = ((M_rooms z, M_things z, M_size z, M_chairs z, M_width z, M_there z, M_likes z, M_place z, M_busy z, M_with z, f, M_sights z, M_sight z), M_signs z, M_pad z, M_image z, M_isKept z) := rfl
theorem mk_place (z : MS) (f : Nat → Int32) : mkeep (M_set_place z f) = ((M_rooms z, M_things z, M_size z, M_chairs z, M_width z, M_there z, M_likes z, f, M_busy z, M_with z, M_left z, M_sights z, M_sight z), M_signs z, M_pad z, M_image z, M_isKept z) := rfl
theorem neg6 : (-6 : Int32) = Int32.ofInt (-6) := by decide
theorem Hc_eng' {a : AS} {h : HS} (hH : Hc h a) {g : Nat} {b : Nat} {m : Int} {l : Nat} {x y w : Int32} (hx : x = nI b) (hy : y = Int32.ofInt m) (hw : w = nI l) : Hc (hEng h g x y w) (eng a g b m l) := by
  rw [hx, hy, hw]; exact Hc_eng hH b m l
theorem eng_R (a : AS) (g b : Nat) (m : Int) (l : Nat) : a_R (eng a g b m l) = a_R a := rfl
theorem eng_T (a : AS) (g b : Nat) (m : Int) (l : Nat) : a_T (eng a g b m l) = a_T a := rfl
theorem eng_k (a : AS) (g b : Nat) (m : Int) (l : Nat) : a_k (eng a g b m l) = a_k a := rfl
theorem eng_th (a : AS) (g b : Nat) (m : Int) (l : Nat) : a_th (eng a g b m l) = a_th a := rfl
theorem eng_sz (a : AS) (g b : Nat) (m : Int) (l : Nat) : a_sz (eng a g b m l) = a_sz a := rfl
theorem eng_ch (a : AS) (g b : Nat) (m : Int) (l : Nat) : a_ch (eng a g b m l) = a_ch a := rfl
theorem eng_wd (a : AS) (g b : Nat) (m : Int) (l : Nat) : a_wd (eng a g b m l) = a_wd a := rfl
theorem eng_lk (a : AS) (g b : Nat) (m : Int) (l : Nat) : a_lk (eng a g b m l) = a_lk a := rfl
theorem eng_pl (a : AS) (g b : Nat) (m : Int) (l : Nat) : a_pl (eng a g b m l) = a_pl a := rfl
theorem eng_sg (a : AS) (g b : Nat) (m : Int) (l : Nat) : a_sg (eng a g b m l) = a_sg a := rfl
theorem eng_sr (a : AS) (g b : Nat) (m : Int) (l : Nat) : a_sr (eng a g b m l) = a_sr a := rfl
theorem eng_bs (a : AS) (g b : Nat) (m : Int) (l j : Nat) : a_bs (eng a g b m l) j = if j = g then b else a_bs a j := rfl
theorem eng_mt (a : AS) (g b : Nat) (m : Int) (l j : Nat) : a_mt (eng a g b m l) j = if j = g then m else a_mt a j := rfl
theorem eng_lf (a : AS) (g b : Nat) (m : Int) (l j : Nat) : a_lf (eng a g b m l) j = if j = g then l else a_lf a j := rfl
/-- who is freed when g leaves off -/
def offp (a : AS) (g j : Nat) : Bool := j == g || (a_bs a g == 1 && a_mt a g == (j : Int))
def rs (a : AS) (g : Nat) : AS := (a_R a, a_T a, a_k a, a_th a, a_sz a, a_ch a, a_wd a, a_lk a, a_pl a, (fun j => if offp a g j then 0 else a_bs a j), (fun j => if offp a g j then -6 else a_mt a j), (fun j => if offp a g j then 0 else a_lf a j), a_sg a, a_sr a)
theorem rs_R (a : AS) (g : Nat) : a_R (rs a g) = a_R a := rfl
theorem rs_T (a : AS) (g : Nat) : a_T (rs a g) = a_T a := rfl
theorem rs_k (a : AS) (g : Nat) : a_k (rs a g) = a_k a := rfl
theorem rs_th (a : AS) (g : Nat) : a_th (rs a g) = a_th a := rfl
theorem rs_sz (a : AS) (g : Nat) : a_sz (rs a g) = a_sz a := rfl
theorem rs_ch (a : AS) (g : Nat) : a_ch (rs a g) = a_ch a := rfl
theorem rs_wd (a : AS) (g : Nat) : a_wd (rs a g) = a_wd a := rfl
theorem rs_lk (a : AS) (g : Nat) : a_lk (rs a g) = a_lk a := rfl
theorem rs_pl (a : AS) (g : Nat) : a_pl (rs a g) = a_pl a := rfl
theorem rs_sg (a : AS) (g : Nat) : a_sg (rs a g) = a_sg a := rfl
theorem rs_sr (a : AS) (g : Nat) : a_sr (rs a g) = a_sr a := rfl
theorem rs_bs (a : AS) (g j : Nat) : a_bs (rs a g) j = if offp a g j then 0 else a_bs a j := rfl
theorem rs_mt (a : AS) (g j : Nat) : a_mt (rs a g) j = if offp a g j then -6 else a_mt a j := rfl
theorem rs_lf (a : AS) (g j : Nat) : a_lf (rs a g) j = if offp a g j then 0 else a_lf a j := rfl
theorem rise_spec {a : AS} {h : HS} (hI : Inv a) (hH : Hc h a) {g : Nat} (hg : g < 8) : ∃ h', f_X1_rise h (nI g) = some h' ∧ Hc h' (rs a g) := by
  obtain ⟨p1, p2, p3, p4⟩ := hH.2.2.2.2.2.1 g hg
  have hb := bs_lt hI hg
  unfold f_X1_rise X1_rise_J34
  rw [chk_nI hg (by decide), chk_nI hg (by decide), nI_clamp (by omega), p2, p3]
  by_cases c : a_bs a g = 1
  · obtain ⟨j, j1, j2, j3, j4, -⟩ := hI.2.2.2.2.2.2.2.1 g hg c
    rw [if_pos (show nI (a_bs a g) = (1 : Int32) by rw [c]; rfl), j3, oI_nat, th_at hI hH j1, Option.bind_some, j4, if_neg (by decide), engage_spec _ j1, Option.bind_some, engage_spec _ hg, Option.bind_some]
    have h1 : Hc (hEng (hEng h j 0 (-6) 0) g 0 (-6) 0) (eng (eng a j 0 (-6) 0) g 0 (-6) 0) := Hc_eng' (Hc_eng' hH rfl neg6 rfl) rfl neg6 rfl
    generalize hEng (hEng h j 0 (-6) 0) g 0 (-6) 0 = h2 at h1 ⊢
    refine ⟨_, rfl, ?_⟩
    have ec : ∀ i, offp a g i = (i == g || i == j) := fun i => by
      have ej : ((j : Int) == (i : Int)) = (i == j) := by rw [Bool.eq_iff_iff, beq_iff_eq, beq_iff_eq]; omega
      unfold offp; rw [c, j3, ej]; simp
    unfold Hc at h1 ⊢
    simp only [eng_R, eng_T, eng_k, eng_th, eng_sz, eng_ch, eng_wd, eng_lk, eng_pl, eng_sg, eng_sr, eng_bs, eng_mt, eng_lf, rs_R, rs_T, rs_k, rs_th, rs_sz, rs_ch, rs_wd, rs_lk, rs_pl, rs_sg, rs_sr, rs_bs, rs_mt, rs_lf, ec] at h1 ⊢
    obtain ⟨b1, b2, b3, b4, b5, b6, b7, b8⟩ := h1
    refine ⟨b1, b2, b3, b4, b5, fun i hi => ?_, b7, b8⟩
    have q := b6 i hi
    revert q
    by_cases q1 : i = g <;> by_cases q2 : i = j <;> simp [q1, q2]
  · rw [if_neg (show ¬ nI (a_bs a g) = (1 : Int32) from fun q => c ((nI_eq (by omega) (b := 1) (by decide)).mp q)), engage_spec _ hg, Option.bind_some]
    have h1 : Hc (hEng h g 0 (-6) 0) (eng a g 0 (-6) 0) := Hc_eng' hH rfl neg6 rfl
    generalize hEng h g 0 (-6) 0 = h2 at h1 ⊢
    refine ⟨_, rfl, ?_⟩
    have ec : ∀ i, offp a g i = (i == g) := fun i => by unfold offp; simp [c]
    unfold Hc at h1 ⊢
    simp only [eng_R, eng_T, eng_k, eng_th, eng_sz, eng_ch, eng_wd, eng_lk, eng_pl, eng_sg, eng_sr, eng_bs, eng_mt, eng_lf, rs_R, rs_T, rs_k, rs_th, rs_sz, rs_ch, rs_wd, rs_lk, rs_pl, rs_sg, rs_sr, rs_bs, rs_mt, rs_lf, ec] at h1 ⊢
    obtain ⟨b1, b2, b3, b4, b5, b6, b7, b8⟩ := h1
    refine ⟨b1, b2, b3, b4, b5, fun i hi => ?_, b7, b8⟩
    have q := b6 i hi
    revert q
    by_cases q1 : i = g <;> simp [q1]
end
/-! 67.off -/
section
/-- the reference's leaving off -/
theorem off_spec {a : AS} {z : MS} (hI : Inv a) (hM : Mc (mcore z) a) {g : Nat} (hg : g < 8) : ∃ w bs lf, f_X9_leaveOff z (nI g) = some w ∧ mkeep w = ((M_rooms z, M_things z, M_size z, M_chairs z, M_width z, M_there z, M_likes z, M_place z, bs, M_with z, lf, M_sights z, M_sight z), M_signs z, M_pad z, M_image z, M_isKept z) ∧ ∀ j, j < 8 → bs j = (if offp a g j then 0 else M_busy z j) ∧ lf j = (if offp a g j then 0 else M_left z j) := by
  have hT := hI.1.2.2.1
  have et : M_there z = nI (a_T a) := hM.2.1
  have hb3 := bs_lt hI hg
  have fin : ∀ y : MS, ∀ bs lf, mkeep y = ((M_rooms z, M_things z, M_size z, M_chairs z, M_width z, M_there z, M_likes z, M_place z, bs, M_with z, lf, M_sights z, M_sight z), M_signs z, M_pad z, M_image z, M_isKept z) → (∀ j, j < 8 → j ≠ g → bs j = (if offp a g j then 0 else M_busy z j) ∧ lf j = (if offp a g j then 0 else M_left z j)) → ∃ w bs lf, X9_leaveOff_J45 y (nI g) = some w ∧ mkeep w = ((M_rooms z, M_things z, M_size z, M_chairs z, M_width z, M_there z, M_likes z, M_place z, bs, M_with z, lf, M_sights z, M_sight z), M_signs z, M_pad z, M_image z, M_isKept z) ∧ ∀ j, j < 8 → bs j = (if offp a g j then 0 else M_busy z j) ∧ lf j = (if offp a g j then 0 else M_left z j) := by
    intro y bs lf ky hj
    obtain ⟨y1, ey1⟩ : ∃ x, x = M_set_busy y (upd (M_busy y) g 0) := ⟨_, rfl⟩
    have k1 := mk_busy y (upd (M_busy y) g 0)
    rw [← ey1] at k1
    obtain ⟨y2, ey2⟩ : ∃ x, x = M_set_left y1 (upd (M_left y1) g 0) := ⟨_, rfl⟩
    have k2 := mk_left y1 (upd (M_left y1) g 0)
    rw [← ey2] at k2
    have hb : M_busy y = bs := congrArg (fun m => m.1.2.2.2.2.2.2.2.2.1) ky
    have hl : M_left y1 = lf := (congrArg (fun m => m.1.2.2.2.2.2.2.2.2.2.2.1) k1).trans (congrArg (fun m => m.1.2.2.2.2.2.2.2.2.2.2.1) ky)
    refine ⟨y2, upd bs g 0, upd lf g 0, ?_, ?_, ?_⟩
    · unfold X9_leaveOff_J45
      rw [chk_nI hg (by decide), nI_clamp (by omega), ltA_eq, ← ey1, chk_nI hg (by decide), ltA_eq, ← ey2]
    · rw [k2, hl]
      have q1 := congrArg (fun m : MKK => ((m.1.1, m.1.2.1, m.1.2.2.1, m.1.2.2.2.1, m.1.2.2.2.2.1, m.1.2.2.2.2.2.1, m.1.2.2.2.2.2.2.1, m.1.2.2.2.2.2.2.2.1, m.1.2.2.2.2.2.2.2.2.1, m.1.2.2.2.2.2.2.2.2.2.1, upd lf g 0, m.1.2.2.2.2.2.2.2.2.2.2.2), m.2)) k1
      have q2 := congrArg (fun m : MKK => ((m.1.1, m.1.2.1, m.1.2.2.1, m.1.2.2.2.1, m.1.2.2.2.2.1, m.1.2.2.2.2.2.1, m.1.2.2.2.2.2.2.1, m.1.2.2.2.2.2.2.2.1, upd bs g 0, m.1.2.2.2.2.2.2.2.2.2.1, upd lf g 0, m.1.2.2.2.2.2.2.2.2.2.2.2), m.2)) ky
      rw [hb] at q1
      exact q1.trans q2
    · intro j hj8
      by_cases c : j = g
      · subst c
        have : offp a j j = true := by unfold offp; simp
        rw [this, pk_us, pk_us]; exact ⟨rfl, rfl⟩
      · rw [pk_un c, pk_un c]; exact hj j hj8 c
  have hh : f_X9_has (M_there z) (nI g) = some (if (a_T a).testBit g then 1 else 0) := by rw [et]; exact has_b hT hg
  unfold f_X9_leaveOff
  rw [hh, Option.bind_some]
  cases e : (a_T a).testBit g
  · have e' : a_is a g = false := e
    have hb0 := (hI.2.2.2.2.1 g hg e').2.1
    rw [if_pos (by decide)]
    refine fin z (M_busy z) (M_left z) rfl (fun j hj c => ?_)
    have : offp a g j = false := by unfold offp; simp [c, hb0]
    rw [this]; exact ⟨rfl, rfl⟩
  · have e' : a_is a g = true := e
    obtain ⟨hp, hb, hl, hm, -⟩ := hM.2.2.2.2.2.1 g hg e'
    have hb : M_busy z g = nI (a_bs a g) := hb
    have hm : a_bs a g = 1 ∨ a_bs a g = 3 → M_with z g = Int32.ofInt (a_mt a g) := hm
    rw [if_neg (by decide), chk_nI hg (by decide), nI_clamp (by omega), hb]
    by_cases c : a_bs a g = 1
    · obtain ⟨j, j1, j2, j3, j4, -⟩ := hI.2.2.2.2.2.2.2.1 g hg c
      have hw : M_with z g = nI j := by rw [hm (Or.inl c), j3]; rfl
      obtain ⟨y1, ey1⟩ : ∃ x, x = M_set_busy z (upd (M_busy z) j 0) := ⟨_, rfl⟩
      have k1 := mk_busy z (upd (M_busy z) j 0)
      rw [← ey1] at k1
      obtain ⟨y2, ey2⟩ : ∃ x, x = M_set_left y1 (upd (M_left y1) j 0) := ⟨_, rfl⟩
      have k2 := mk_left y1 (upd (M_left y1) j 0)
      rw [← ey2] at k2
      have hw1 : M_with y1 g = nI j := (congrFun (congrArg (fun m => m.1.2.2.2.2.2.2.2.2.2.1) k1) g).trans hw
      have hl1 : M_left y1 = M_left z := congrArg (fun m => m.1.2.2.2.2.2.2.2.2.2.2.1) k1
      have q1 := congrArg (fun m : MKK => ((m.1.1, m.1.2.1, m.1.2.2.1, m.1.2.2.2.1, m.1.2.2.2.2.1, m.1.2.2.2.2.2.1, m.1.2.2.2.2.2.2.1, m.1.2.2.2.2.2.2.2.1, m.1.2.2.2.2.2.2.2.2.1, m.1.2.2.2.2.2.2.2.2.2.1, upd (M_left z) j 0, m.1.2.2.2.2.2.2.2.2.2.2.2), m.2)) k1
      obtain ⟨w, bs, lf, f1, f2⟩ := fin y2 (upd (M_busy z) j 0) (upd (M_left z) j 0) (by rw [k2, hl1]; exact q1) (fun i hi ci => by
        have ej : ((j : Int) == (i : Int)) = (i == j) := by rw [Bool.eq_iff_iff, beq_iff_eq, beq_iff_eq]; omega
        have eo : offp a g i = (i == j) := by unfold offp; rw [c, j3, ej]; simp [ci]
        rw [eo]
        by_cases q : i = j
        · subst q; rw [pk_us, pk_us]; simp
        · rw [pk_un q, pk_un q]; simp [q])
      refine ⟨w, bs, lf, ?_, f2⟩
      rw [if_pos (show nI (a_bs a g) = (1 : Int32) by rw [c]; rfl), chk_nI hg (by decide), hw, chk_nI j1 (by decide), nI_clamp (by omega), ltA_eq, ← ey1, chk_nI hg (by decide), hw1, chk_nI j1 (by decide), nI_clamp (by omega), ltA_eq, ← ey2]
      exact f1
    · rw [if_neg (show ¬ nI (a_bs a g) = (1 : Int32) from fun q => c ((nI_eq (by omega) (b := 1) (by decide)).mp q))]
      refine fin z (M_busy z) (M_left z) rfl (fun j hj cj => ?_)
      have : offp a g j = false := by unfold offp; simp [c, cj]
      rw [this]; exact ⟨rfl, rfl⟩
end
/-! 68.nw -/
section
/-- as a, but g is (or isn't) there by T, in room p, likes nothing, and has left off -/
def nw (a : AS) (g T p : Nat) : AS := (a_R a, T, a_k a, a_th a, a_sz a, a_ch a, a_wd a, (fun j k => if j = g then 0 else a_lk a j k), (fun j => if j = g then p else a_pl a j), (fun j => if offp a g j then 0 else a_bs a j), (fun j => if offp a g j then -6 else a_mt a j), (fun j => if offp a g j then 0 else a_lf a j), a_sg a, a_sr a)
theorem nw_R (a : AS) (g T p : Nat) : a_R (nw a g T p) = a_R a := rfl
theorem nw_k (a : AS) (g T p : Nat) : a_k (nw a g T p) = a_k a := rfl
theorem nw_th (a : AS) (g T p : Nat) : a_th (nw a g T p) = a_th a := rfl
theorem nw_sz (a : AS) (g T p : Nat) : a_sz (nw a g T p) = a_sz a := rfl
theorem nw_ch (a : AS) (g T p : Nat) : a_ch (nw a g T p) = a_ch a := rfl
theorem nw_wd (a : AS) (g T p : Nat) : a_wd (nw a g T p) = a_wd a := rfl
theorem nw_sg (a : AS) (g T p : Nat) : a_sg (nw a g T p) = a_sg a := rfl
theorem nw_sr (a : AS) (g T p : Nat) : a_sr (nw a g T p) = a_sr a := rfl
theorem nw_T (a : AS) (g T p : Nat) : a_T (nw a g T p) = T := rfl
theorem nw_is (a : AS) (g T p j : Nat) : a_is (nw a g T p) j = T.testBit j := rfl
theorem nw_lk (a : AS) (g T p j k : Nat) : a_lk (nw a g T p) j k = if j = g then 0 else a_lk a j k := rfl
theorem nw_pl (a : AS) (g T p j : Nat) : a_pl (nw a g T p) j = if j = g then p else a_pl a j := rfl
theorem nw_bs (a : AS) (g T p j : Nat) : a_bs (nw a g T p) j = if offp a g j then 0 else a_bs a j := rfl
theorem nw_mt (a : AS) (g T p j : Nat) : a_mt (nw a g T p) j = if offp a g j then -6 else a_mt a j := rfl
theorem nw_lf (a : AS) (g T p j : Nat) : a_lf (nw a g T p) j = if offp a g j then 0 else a_lf a j := rfl
theorem nw_in (a : AS) (g T p r : Nat) : a_in (nw a g T p) r = cnt (fun j => T.testBit j && (if j = g then p else a_pl a j) == r) 8 := rfl
theorem a_in_cnt (a : AS) (r : Nat) : a_in a r = cnt (fun j => a_is a j && a_pl a j == r) 8 := rfl
theorem cnt_mono {p q : Nat → Bool} : ∀ i, (∀ j, j < i → p j = true → q j = true) → cnt p i ≤ cnt q i
  | 0, _ => Nat.le_refl _
  | i + 1, h => by
    rw [cnt_s, cnt_s]
    have h1 := cnt_mono i (fun j hj => h j (by omega))
    cases e : p i
    · simp; omega
    · rw [h i (by omega) e]; simp; omega
theorem cnt_but (p : Nat → Bool) (g : Nat) : ∀ i, g < i → cnt p i = cnt (fun j => p j && !(j == g)) i + (if p g then 1 else 0)
  | 0, h => absurd h (Nat.not_lt_zero _)
  | i + 1, h => by
    rw [cnt_s, cnt_s]
    by_cases c : g = i
    · subst c
      have : cnt (fun j => p j && !(j == g)) g = cnt p g := cnt_congr (fun j hj => by simp [show j ≠ g by omega])
      rw [this]; simp
    · rw [cnt_but p g i (by omega)]
      simp [show ¬ i = g by omega]; omega
theorem offp_sym {a : AS} (hI : Inv a) {g j : Nat} (hj : j < 8) (hb : a_bs a j = 1) (hm : a_mt a j = (g : Int)) (hg : g < 8) : offp a g j = true := by
  obtain ⟨i, i1, i2, i3, i4, i5, i6, -⟩ := hI.2.2.2.2.2.2.2.1 j hj hb
  have e : i = g := by omega
  subst e
  unfold offp; rw [i5, i6]; simp
theorem Inv_nw {a : AS} (hI : Inv a) {g T p : Nat} (hg : g < 8) (hT : T < 256) (ho : ∀ j, j < 8 → j ≠ g → T.testBit j = a_is a j) (h1 : T.testBit g = true → p < a_R a ∧ cnt (fun j => (a_is a j && a_pl a j == p) && !(j == g)) 8 < a_sz a p) (h0 : T.testBit g = false → p = 0) : Inv (nw a g T p) := by
  obtain ⟨i1, i2, i3, i4, i5, i6, i7, i8, i9, i10, i11⟩ := id hI
  unfold Inv
  simp only [nw_R, nw_T, nw_k, nw_th, nw_sz, nw_ch, nw_wd, nw_sg, nw_sr, nw_is, nw_lk, nw_pl, nw_bs, nw_mt, nw_lf, nw_in]
  have hgg : offp a g g = true := by unfold offp; simp
  refine ⟨⟨i1.1, i1.2.1, hT, i1.2.2.2⟩, i2, i3, i4, ?_, ?_, ?_, ?_, ?_, ?_, i11⟩
  · intro j hj e
    by_cases c : j = g
    · subst c; simp only [if_true, hgg]; exact ⟨h0 e, trivial, fun k _ => trivial⟩
    · rw [ho j hj c] at e
      obtain ⟨q1, q2, q3⟩ := i5 j hj e
      simp only [c, if_false, q1, q2]
      refine ⟨trivial, by split <;> rfl, fun k hk => q3 k hk⟩
  · intro j hj e
    by_cases c : j = g
    · subst c; simp only [if_true, hgg]; exact ⟨(h1 e).1, by decide, fun k _ => by decide⟩
    · rw [ho j hj c] at e
      obtain ⟨q1, q2, q3⟩ := i6 j hj e
      simp only [c, if_false]
      refine ⟨q1, by split <;> omega, fun k hk => q3 k hk⟩
  · intro j hj e
    cases c : offp a g j
    · rw [c] at e; simp only [Bool.false_eq_true, if_false] at e ⊢; exact i7 j hj e
    · simp only [if_true]; exact ⟨trivial, trivial⟩
  · intro j hj e
    cases c : offp a g j
    · rw [c] at e
      simp only [Bool.false_eq_true, if_false] at e ⊢
      obtain ⟨i, k1, k2, k3, k4, k5, k6, k7⟩ := i8 j hj e
      have hjg : j ≠ g := fun q => by subst q; rw [hgg] at c; cases c
      have hig : i ≠ g := fun q => by
        subst q
        have := offp_sym hI hj e k3 hg; rw [this] at c; cases c
      have hio : offp a g i = false := by
        cases q : offp a g i
        · rfl
        · exfalso
          unfold offp at q
          simp only [Bool.or_eq_true, Bool.and_eq_true, beq_iff_eq] at q
          rcases q with q | ⟨q1, q2⟩
          · exact hig q
          · obtain ⟨i', l1, l2, l3, l4, l5, l6, -⟩ := i8 g hg q1
            have : i' = i := by omega
            subst this
            omega
      refine ⟨i, k1, k2, k3, ?_, ?_⟩
      · rw [ho i k1 hig]; exact k4
      · rw [hio]; simp only [Bool.false_eq_true, if_false]; exact ⟨k5, k6, k7⟩
    · rw [c] at e; simp at e
  · intro j hj e
    cases c : offp a g j
    · rw [c] at e
      simp only [Bool.false_eq_true, if_false] at e ⊢
      have hjg : j ≠ g := fun q => by subst q; rw [hgg] at c; cases c
      rw [if_neg hjg]; exact i9 j hj e
    · rw [c] at e; simp at e
  · intro r hr
    rw [cnt_but _ g 8 hg]
    have e1 : cnt (fun j => (T.testBit j && (if j = g then p else a_pl a j) == r) && !(j == g)) 8 = cnt (fun j => (a_is a j && a_pl a j == r) && !(j == g)) 8 := cnt_congr (fun j hj => by
      by_cases c : j = g
      · simp [c]
      · rw [ho j hj c]; simp [c])
    rw [e1]
    cases e : T.testBit g
    · simp only [Bool.false_and, Bool.false_eq_true, if_false, Nat.add_zero]
      have := cnt_mono (p := fun j => (a_is a j && a_pl a j == r) && !(j == g)) (q := fun j => a_is a j && a_pl a j == r) 8 (fun j _ h => by simp at h ⊢; exact h.1)
      exact Nat.le_trans this (i10 r hr)
    · simp only [if_true, Bool.true_and]
      by_cases c : p = r
      · subst c; simp; have := (h1 e).2; omega
      · simp [c]
        have := cnt_mono (p := fun j => (a_is a j && a_pl a j == r) && !(j == g)) (q := fun j => a_is a j && a_pl a j == r) 8 (fun j _ h => by simp at h ⊢; exact h.1)
        exact Nat.le_trans this (i10 r hr)
end
/-! 69.guest -/
section
/-! guest, leave -/
def orb (T g : Nat) : Nat := T ||| (1 <<< g)
def clr (T g : Nat) : Nat := T - (if T.testBit g then 2 ^ g else 0)
set_option maxRecDepth 100000 in
theorem orb_dec : ∀ T : Fin 256, ∀ g : Fin 8, (nI T.val ||| ((1 : Int32) <<< (nI g.val &&& 31))) = nI (orb T.val g.val) ∧ ((nI T.val &&& (((1 : Int32) <<< (nI g.val &&& 31)) ^^^ (-1 : Int32))) ||| ((1 : Int32) <<< (nI g.val &&& 31))) = nI (orb T.val g.val) ∧ (nI T.val &&& (((1 : Int32) <<< (nI g.val &&& 31)) ^^^ (-1 : Int32))) = nI (clr T.val g.val) ∧ orb T.val g.val < 256 ∧ clr T.val g.val < 256 := by decide +kernel
set_option maxRecDepth 100000 in
theorem orb_bit : ∀ T : Fin 256, ∀ g j : Fin 8, (orb T.val g.val).testBit j.val = (T.val.testBit j.val || decide (j = g)) ∧ (clr T.val g.val).testBit j.val = (T.val.testBit j.val && !(decide (j = g))) := by decide +kernel
theorem orb_1 {T g : Nat} (hT : T < 256) (hg : g < 8) : (nI T ||| ((1 : Int32) <<< (nI g &&& 31))) = nI (orb T g) ∧ ((nI T &&& (((1 : Int32) <<< (nI g &&& 31)) ^^^ (-1 : Int32))) ||| ((1 : Int32) <<< (nI g &&& 31))) = nI (orb T g) ∧ (nI T &&& (((1 : Int32) <<< (nI g &&& 31)) ^^^ (-1 : Int32))) = nI (clr T g) ∧ orb T g < 256 ∧ clr T g < 256 := orb_dec ⟨T, hT⟩ ⟨g, hg⟩
theorem orb_at {T g j : Nat} (hT : T < 256) (hg : g < 8) (hj : j < 8) : (orb T g).testBit j = (T.testBit j || decide (j = g)) := by
  have := (orb_bit ⟨T, hT⟩ ⟨g, hg⟩ ⟨j, hj⟩).1
  rw [this]; simp
theorem clr_at {T g j : Nat} (hT : T < 256) (hg : g < 8) (hj : j < 8) : (clr T g).testBit j = (T.testBit j && !(decide (j = g))) := by
  have := (orb_bit ⟨T, hT⟩ ⟨g, hg⟩ ⟨j, hj⟩).2
  rw [this]; simp
/-- the class' dismiss -/
theorem dismiss_spec {a : AS} {h : HS} (hI : Inv a) (hH : Hc h a) {g : Nat} (hg : g < 8) : ∃ h', f_X1_dismiss h (nI g) = some h' ∧ Hc h' (nw a g (clr (a_T a) g) 0) := by
  obtain ⟨N, hN, hFU⟩ := FU_ex
  obtain ⟨h1, e1, H1⟩ := rise_spec hI hH hg
  have hT := hI.1.2.2.1
  unfold f_X1_dismiss
  rw [e1, Option.bind_some, chk_nI hg (by decide), nI_clamp (by omega), ltA_eq, hFU]
  obtain ⟨h2, e2⟩ : ∃ y, y = H_set_place (H_set_there h1 ((H_there h1) &&& (((1 : Int32) <<< (nI g &&& 31)) ^^^ (-1 : Int32)))) (upd (H_place h1) g (0 : Int32)) := ⟨_, rfl⟩
  rw [← e2]
  unfold Hc at H1
  simp only [rs_R, rs_T, rs_k, rs_th, rs_sz, rs_ch, rs_wd, rs_lk, rs_pl, rs_sg, rs_sr, rs_bs, rs_mt, rs_lf] at H1
  obtain ⟨b1, b2, b3, b4, b5, b6, b7, b8⟩ := H1
  have c1 : H_rooms h2 = H_rooms h1 := by rw [e2]; rfl
  have c2 : H_there h2 = (H_there h1) &&& (((1 : Int32) <<< (nI g &&& 31)) ^^^ (-1 : Int32)) := by rw [e2]; rfl
  have c3 : H_sights h2 = H_sights h1 := by rw [e2]; rfl
  have c4 : H_measure h2 = H_measure h1 := by rw [e2]; rfl
  have c5 : H_width h2 = H_width h1 := by rw [e2]; rfl
  have c6 : H_place h2 = upd (H_place h1) g (0 : Int32) := by rw [e2]; rfl
  have c7 : H_busy h2 = H_busy h1 := by rw [e2]; rfl
  have c8 : H_mate h2 = H_mate h1 := by rw [e2]; rfl
  have c9 : H_left h2 = H_left h1 := by rw [e2]; rfl
  have c10 : H_likes h2 = H_likes h1 := by rw [e2]; rfl
  have c11 : H_sightGuest h2 = H_sightGuest h1 := by rw [e2]; rfl
  have c12 : H_sightRoom h2 = H_sightRoom h1 := by rw [e2]; rfl
  have key := it_rule (B := X1_dismiss_B28) (bot := fun _ _ _ => none) 5 (fun i (f : Nat → Int32) => (∀ k, k < i → f (g * 5 + k) = 0) ∧ ∀ j k, j < 8 → k < 5 → j ≠ g → f (j * 5 + k) = Int32.ofInt (a_lk a j k)) (fun k i f => ∃ f', k (H_set_likes h2 f) (nI g) (nI i) = some (H_set_likes h2 f') ∧ (∀ k, k < 5 → f' (g * 5 + k) = 0) ∧ ∀ j k, j < 8 → k < 5 → j ≠ g → f' (j * 5 + k) = Int32.ofInt (a_lk a j k)) (by
      intro k f hf
      exact ⟨f, by unfold X1_dismiss_B28; rw [if_pos (by decide)], hf⟩) (by
      intro k i f hi ⟨hf1, hf2⟩ hk
      obtain ⟨f', k1, k2⟩ := hk (upd f (g * 5 + i) 0) ⟨fun k hk' => by
        by_cases c : k = i
        · subst c; exact pk_us
        · rw [pk_un (by omega)]; exact hf1 k (by omega), fun j k hj hk' hjg => by
        rw [pk_un (by omega)]; exact hf2 j k hj hk' hjg⟩
      refine ⟨f', ?_, k2⟩
      unfold X1_dismiss_B28
      rw [if_neg (show ¬ (5 : Int32) ≤ nI i from nlit (by decide) hi), ix5, chk_nI (by omega) (by decide), nI_clamp (by omega), ltA_eq, nI_1]
      exact k1) N 0 (H_likes h2) (by omega) (by omega) ⟨fun k hk => absurd hk (Nat.not_lt_zero _), fun j k hj hk _ => by rw [c10]; exact b7 j k hj hk⟩
  obtain ⟨f', k1, k2, k3⟩ := key
  have es : H_set_likes h2 (H_likes h2) = h2 := rfl
  rw [es] at k1
  refine ⟨H_set_likes h2 f', k1, ?_⟩
  unfold Hc
  simp only [nw_R, nw_T, nw_k, nw_th, nw_sz, nw_ch, nw_wd, nw_sg, nw_sr, nw_lk, nw_pl, nw_bs, nw_mt, nw_lf]
  refine ⟨c1.trans b1, ?_, c3.trans b3, ?_, ?_, ?_, ?_, ?_⟩
  · show H_there h2 = _
    rw [c2, b2, (orb_1 hT hg).2.2.1]
  · show ∀ r, r < 6 → (∀ s, s < 4 → H_measure h2 (r * 6 + s) = _) ∧ H_measure h2 (r * 6 + 4) = _ ∧ H_measure h2 (r * 6 + 5) = _
    rw [c4]; exact b4
  · show ∀ r q, r < 6 → q < 6 → H_width h2 (r * 6 + q) = _
    rw [c5]; exact b5
  · intro j hj
    show H_place h2 j = _ ∧ H_busy h2 j = _ ∧ H_mate h2 j = _ ∧ H_left h2 j = _
    rw [c6, c7, c8, c9]
    refine ⟨?_, (b6 j hj).2⟩
    by_cases c : j = g
    · rw [if_pos c, c, pk_us]; rfl
    · rw [if_neg c, pk_un c]; exact (b6 j hj).1
  · intro j k hj hk
    show f' (j * 5 + k) = _
    by_cases c : j = g
    · rw [if_pos c, c]; exact k2 k hk
    · rw [if_neg c]; exact k3 j k hj hk c
  · show ∀ s, s < a_k a → H_sightGuest h2 s = _ ∧ H_sightRoom h2 s = _
    rw [c11, c12]; exact b8
/-- what the reference holds, after leaving off, by its parts -/
theorem Mc_nw {a : AS} {z : MS} (hI : Inv a) (hM : Mc (mcore z) a) {g T p : Nat} (hg : g < 8) (ho : ∀ j, j < 8 → j ≠ g → T.testBit j = a_is a j) {lk pl bs lf : Nat → Int32} (hb : ∀ j, j < 8 → bs j = (if offp a g j then 0 else M_busy z j) ∧ lf j = (if offp a g j then 0 else M_left z j)) (hp : T.testBit g = true → pl g = nI p ∧ ∀ k, k < 5 → lk (5 * g + k) = 0) (hq : ∀ j, j < 8 → j ≠ g → pl j = M_place z j ∧ ∀ k, k < 5 → lk (5 * j + k) = M_likes z (5 * j + k)) : Mc (M_rooms z, M_things z, M_size z, M_chairs z, M_width z, nI T, lk, pl, bs, M_with z, lf, M_sights z, M_sight z) (nw a g T p) := by
  obtain ⟨m1, m2, m3, m4, m5, m6, m7⟩ := hM
  unfold Mc
  simp only [nw_R, nw_T, nw_k, nw_th, nw_sz, nw_ch, nw_wd, nw_sg, nw_sr, nw_is, nw_lk, nw_pl, nw_bs, nw_mt, nw_lf]
  refine ⟨m1, trivial, m3, m4, m5, ?_, m7⟩
  intro j hj hi
  by_cases c : j = g
  · subst c
    have hgg : offp a j j = true := by unfold offp; simp
    have q := hb j hj
    rw [hgg] at q
    simp only [if_true, hgg]
    refine ⟨(hp hi).1, q.1, q.2, fun h => absurd h (by decide), fun k hk => (hp hi).2 k hk⟩
  · rw [ho j hj c] at hi
    obtain ⟨p1, p2, p3, p4, p5⟩ := m6 j hj hi
    have q := hb j hj
    simp only [c, if_false]
    refine ⟨(hq j hj c).1.trans p1, ?_, ?_, ?_, fun k hk => ((hq j hj c).2 k hk).trans (p5 k hk)⟩
    · rw [q.1]; split
      · rfl
      · exact p2
    · rw [q.2]; split
      · rfl
      · exact p3
    · intro h
      cases e : offp a g j
      · rw [e] at h; simp only [Bool.false_eq_true, if_false] at h ⊢; exact p4 h
      · rw [e] at h; simp at h
def sLk (m : MKK) (f : Nat → Int32) : MKK := ((m.1.1, m.1.2.1, m.1.2.2.1, m.1.2.2.2.1, m.1.2.2.2.2.1, m.1.2.2.2.2.2.1, f, m.1.2.2.2.2.2.2.2), m.2)
theorem guest_lk {z : MS} {T g : Nat} (ht : M_there z = nI T) (hT : T < 256) (hg : g < 8) : ∃ w f, it X9_guest_B65 (fun _ _ _ => none) FU z (nI g) 0 = some (nI (cnt (fun j => T.testBit j) 8), w) ∧ mkeep w = sLk (mkeep z) f ∧ (∀ k, k < 5 → f (5 * g + k) = 0) ∧ ∀ j k, j < 8 → k < 5 → j ≠ g → f (5 * j + k) = M_likes z (5 * j + k) := by
  obtain ⟨N, hN, hFU⟩ := FU_ex
  rw [hFU]
  refine it_rule (bot := fun _ _ _ => none) 5 (fun i (y : MS) => ∃ f, mkeep y = sLk (mkeep z) f ∧ (∀ k, k < i → f (5 * g + k) = 0) ∧ ∀ j k, j < 8 → k < 5 → j ≠ g → f (5 * j + k) = M_likes z (5 * j + k)) (fun k i y => ∃ w f, k y (nI g) (nI i) = some (nI (cnt (fun j => T.testBit j) 8), w) ∧ mkeep w = sLk (mkeep z) f ∧ (∀ k, k < 5 → f (5 * g + k) = 0) ∧ ∀ j k, j < 8 → k < 5 → j ≠ g → f (5 * j + k) = M_likes z (5 * j + k)) ?_ ?_ N 0 z (by omega) (by omega) ⟨M_likes z, rfl, fun k hk => absurd hk (Nat.not_lt_zero _), fun _ _ _ _ _ => rfl⟩
  · intro k y ⟨f, e, h1, h2⟩
    have et : M_there y = nI T := (congrArg (fun m => m.1.2.2.2.2.2.1) e).trans ht
    refine ⟨y, f, ?_, e, h1, h2⟩
    unfold X9_guest_B65
    rw [if_pos (by decide), et, bits_spec hT, Option.bind_some]
  · intro k i y hi ⟨f, e, h1, h2⟩ hk
    obtain ⟨y1, ey1⟩ : ∃ x, x = M_set_likes y (upd (M_likes y) (5 * g + i) 0) := ⟨_, rfl⟩
    have k1 := mk_likes y (upd (M_likes y) (5 * g + i) 0)
    rw [← ey1] at k1
    have hl : M_likes y = f := congrArg (fun m => m.1.2.2.2.2.2.2.1) e
    obtain ⟨w, f', a1, a2⟩ := hk y1 ⟨upd f (5 * g + i) 0, by rw [k1, hl]; exact congrArg (fun m => sLk m (upd f (5 * g + i) 0)) e, fun k hk' => by
      by_cases c : k = i
      · subst c; exact pk_us
      · rw [pk_un (by omega)]; exact h1 k (by omega), fun j k hj hk' hjg => by
      rw [pk_un (by omega)]; exact h2 j k hj hk' hjg⟩
    refine ⟨w, f', ?_, a2⟩
    unfold X9_guest_B65
    rw [if_neg (show ¬ (5 : Int32) ≤ nI i from nlit (by decide) hi), ix5', chk_nI (by omega) (by decide), nI_clamp (by omega), ltA_eq, ← ey1, nI_1]
    exact a1
end
