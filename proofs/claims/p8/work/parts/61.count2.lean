set_option maxRecDepth 100000 in
theorem bitv_dec : ∀ T : Fin 256, ∀ g : Fin 8, ((nI T.val >>> (nI g.val &&& 31)) &&& 1) = nI (if T.val.testBit g.val then 1 else 0) := by decide +kernel
theorem bit_val {T g : Nat} (hT : T < 256) (hg : g < 8) : ((nI T >>> (nI g &&& 31)) &&& 1) = nI (if T.testBit g then 1 else 0) := bitv_dec ⟨T, hT⟩ ⟨g, hg⟩
section C2
variable {a : AS} {h : HS} {z : MS}
/-- the reference's count in a room, of what lasts -/
theorem inRoom_spec (hI : Inv a) (hM : Mc (mcore z) a) {r : Nat} (hr : r < 2 ^ 31) (x2 x3 : Int32) : f_X9_inRoom z (nI r) x2 x3 = some (nI (cnt (fun j => ((a_is a j && a_pl a j == r) && !(decide (nI j = x3))) && (decide (x2 < 0) || decide (nI (a_bs a j) = x2))) 8)) := by
  obtain ⟨N, hN, hFU⟩ := FU_ex
  have hT := hI.1.2.2.1
  have et : M_there z = nI (a_T a) := hM.2.1
  unfold f_X9_inRoom
  rw [hFU]
  refine it_rule (bot := fun _ _ _ _ _ _ => none) 8 (fun i (n : Int32) => n = nI (cnt (fun j => ((a_is a j && a_pl a j == r) && !(decide (nI j = x3))) && (decide (x2 < 0) || decide (nI (a_bs a j) = x2))) i)) (fun k i n => k z (nI r) x2 x3 n (nI i) = some (nI (cnt (fun j => ((a_is a j && a_pl a j == r) && !(decide (nI j = x3))) && (decide (x2 < 0) || decide (nI (a_bs a j) = x2))) 8))) ?_ ?_ N 0 0 (by omega) (by omega) rfl
  · intro k n hn
    unfold X9_inRoom_B6
    rw [if_pos (by decide), hn]
  · intro k i n hi hn hk
    unfold X9_inRoom_B6 X9_inRoom_J63 X9_inRoom_J59 X9_inRoom_J64
    rw [if_neg (show ¬ (8 : Int32) ≤ nI i from nlit (by decide) hi), et, has_b hT hi, Option.bind_some, chk_nI hi (by decide), chk_nI hi (by decide), nI_clamp (by omega), nI_1]
    cases e : (a_T a).testBit i
    · simp only [Bool.false_eq_true, if_false, if_true]
      refine hk _ ?_
      rw [hn, cnt_s]; unfold a_is; rw [e]; simp
    · simp only [if_true]
      have ei : a_is a i = true := e
      have hp : M_place z i = nI (a_pl a i) := (hM.2.2.2.2.2.1 i hi ei).1
      have hb : M_busy z i = nI (a_bs a i) := (hM.2.2.2.2.2.1 i hi ei).2.1
      have hpl : a_pl a i < 2 ^ 31 := by have := (hI.2.2.2.2.2.1 i hi ei).1; have := hI.1.2.1; omega
      rw [if_neg (by decide), hp, hb]
      by_cases q : nI i = x3
      · rw [if_pos q]
        refine hk _ ?_
        rw [hn, cnt_s]; simp [q]
      · rw [if_neg q]
        by_cases q2 : a_pl a i = r
        · rw [if_pos (by rw [q2])]
          by_cases q3 : x2 < 0
          · rw [if_pos q3]
            refine hk _ ?_
            rw [hn, cnt_s, ei]; simp [q, q2, q3]; exact nI_1 _
          · rw [if_neg q3]
            by_cases q4 : nI (a_bs a i) = x2
            · rw [if_pos q4]
              refine hk _ ?_
              rw [hn, cnt_s, ei]; simp [q, q2, q4]; exact nI_1 _
            · rw [if_neg q4]
              refine hk _ ?_
              rw [hn, cnt_s, ei]; simp [q3, q4]
        · rw [if_neg (fun c => q2 ((nI_eq hpl hr).mp c))]
          refine hk _ ?_
          rw [hn, cnt_s, ei]; simp [q2]
/-- who sits in a room -/
def a_sit (a : AS) (r : Nat) : Nat := cnt (fun j => (a_is a j && a_pl a j == r) && a_bs a j == 2) 8
theorem bs_lt (hI : Inv a) {g : Nat} (hg : g < 8) : a_bs a g ≤ 3 := by
  cases e : a_is a g
  · rw [(hI.2.2.2.2.1 g hg e).2.1]; decide
  · exact (hI.2.2.2.2.2.1 g hg e).2.1
theorem pl_lt (hI : Inv a) {g : Nat} (hg : g < 8) : a_pl a g < 6 := by
  cases e : a_is a g
  · rw [(hI.2.2.2.2.1 g hg e).1]; decide
  · have := (hI.2.2.2.2.2.1 g hg e).1; have := hI.1.2.1; omega
theorem sitters_spec (hI : Inv a) (hH : Hc h a) {r : Nat} (hr : r < 2 ^ 31) : f_X1_sitters h (nI r) = some (nI (a_sit a r)) := by
  obtain ⟨N, hN, hFU⟩ := FU_ex
  have e0 : a_sit a r = cnt (fun j => a_bs a j == 2 && a_pl a j == r) 8 := by
    unfold a_sit
    refine cnt_congr (fun j hj => ?_)
    cases e : a_is a j
    · rw [(hI.2.2.2.2.1 j hj e).2.1]; rfl
    · cases a_pl a j == r <;> cases a_bs a j == 2 <;> rfl
  unfold f_X1_sitters
  rw [hFU, e0]
  refine it_rule (bot := fun _ _ _ _ => none) 8 (fun i (n : Int32) => n = nI (cnt (fun j => a_bs a j == 2 && a_pl a j == r) i)) (fun k i n => k h (nI r) n (nI i) = some (nI (cnt (fun j => a_bs a j == 2 && a_pl a j == r) 8))) ?_ ?_ N 0 0 (by omega) (by omega) rfl
  · intro k n hn
    unfold X1_sitters_B4
    rw [if_pos (by decide), hn]
  · intro k i n hi hn hk
    obtain ⟨hp, hb, -⟩ := hH.2.2.2.2.2.1 i hi
    have b3 := bs_lt hI hi
    have p6 := pl_lt hI hi
    unfold X1_sitters_B4 X1_sitters_J33
    rw [if_neg (show ¬ (8 : Int32) ≤ nI i from nlit (by decide) hi), chk_nI hi (by decide), chk_nI hi (by decide), nI_clamp (by omega), hp, hb, nI_1]
    by_cases q : a_bs a i = 2
    · rw [if_pos (show nI (a_bs a i) = (2 : Int32) by rw [q]; rfl)]
      by_cases q2 : a_pl a i = r
      · rw [if_pos (by rw [q2])]
        refine hk _ ?_
        rw [hn, cnt_s]; simp [q, q2]; exact nI_1 _
      · rw [if_neg (fun c => q2 ((nI_eq (by omega) hr).mp c))]
        refine hk _ ?_
        rw [hn, cnt_s]; simp [q2]
    · rw [if_neg (show ¬ nI (a_bs a i) = (2 : Int32) from fun c => q ((nI_eq (by omega) (b := 2) (by decide)).mp c))]
      refine hk _ ?_
      rw [hn, cnt_s]; simp [q]
/-- the reference's number of bits -/
theorem bits_spec {m : Nat} (hm : m < 256) : f_X9_bits (nI m) = some (nI (cnt (fun j => m.testBit j) 8)) := by
  obtain ⟨N, hN, hFU⟩ := FU_ex
  unfold f_X9_bits
  rw [hFU]
  refine it_rule (bot := fun _ _ _ => none) 8 (fun i (n : Int32) => n = nI (cnt (fun j => m.testBit j) i)) (fun k i n => k (nI m) n (nI i) = some (nI (cnt (fun j => m.testBit j) 8))) ?_ ?_ N 0 0 (by omega) (by omega) rfl
  · intro k n hn
    unfold X9_bits_B4
    rw [if_pos (by decide), hn]
  · intro k i n hi hn hk
    unfold X9_bits_B4
    rw [if_neg (show ¬ (8 : Int32) ≤ nI i from nlit (by decide) hi), nI_1]
    refine hk _ ?_
    rw [hn, cnt_s, bit_val hm hi, nI_add]
end C2
