/-- how many below i -/
def cnt (p : Nat → Bool) (i : Nat) : Nat := (List.range i).countP p
theorem cnt_0 (p : Nat → Bool) : cnt p 0 = 0 := rfl
theorem cnt_s (p : Nat → Bool) (i : Nat) : cnt p (i + 1) = cnt p i + (if p i then 1 else 0) := by
  unfold cnt; rw [List.range_succ, List.countP_append]; simp [List.countP_cons]
theorem cnt_le (p : Nat → Bool) (i : Nat) : cnt p i ≤ i := by
  have := List.countP_le_length (p := p) (l := List.range i)
  rwa [List.length_range] at this
theorem cn8_cnt (p : Nat → Bool) : cn8 p = cnt p 8 := rfl
theorem cnt_congr {p q : Nat → Bool} {i : Nat} (h : ∀ j, j < i → p j = q j) : cnt p i = cnt q i := by
  unfold cnt
  exact List.countP_congr (fun j hj => by rw [h j (List.mem_range.mp hj)])
/-- the bits of p below i -/
def msk (p : Nat → Bool) : Nat → Nat
  | 0 => 0
  | i + 1 => msk p i + (if p i then 2 ^ i else 0)
theorem msk_lt (p : Nat → Bool) : ∀ i, msk p i < 2 ^ i
  | 0 => Nat.zero_lt_one
  | i + 1 => by
    have := msk_lt p i
    unfold msk
    rw [Nat.pow_succ]
    split <;> omega
theorem msk_bit (p : Nat → Bool) : ∀ i j, j < i → (msk p i).testBit j = p j
  | 0, j, h => absurd h (Nat.not_lt_zero _)
  | i + 1, j, h => by
    have hlt := msk_lt p i
    unfold msk
    by_cases q : j = i
    · subst q
      cases e : p j
      · simp only [Bool.false_eq_true, if_false, Nat.add_zero]
        exact Nat.testBit_lt_two_pow hlt
      · simp only [if_true]
        rw [Nat.add_comm, Nat.testBit_two_pow_add_eq, Nat.testBit_lt_two_pow hlt]; rfl
    · have hj : j < i := by omega
      cases e : p i
      · simp only [Bool.false_eq_true, if_false, Nat.add_zero]; exact msk_bit p i j hj
      · simp only [if_true]
        rw [Nat.add_comm, Nat.testBit_two_pow_add_gt hj]; exact msk_bit p i j hj
set_option maxRecDepth 100000 in
theorem or_dec : ∀ i : Fin 8, ∀ m : Fin 128, m.val < 2 ^ i.val → nI m.val ||| ((1 : Int32) <<< (nI i.val &&& 31)) = nI (m.val + 2 ^ i.val) := by decide +kernel
set_option maxRecDepth 100000 in
theorem pop_dec : ∀ m : Fin 256, f_J6_bitCount_0f7a4 (nI m.val) = some (nI (cnt (fun j => m.val.testBit j) 8)) := by decide +kernel
set_option maxRecDepth 100000 in
theorem pop_but : ∀ m : Fin 256, ∀ g : Fin 8, f_J6_bitCount_0f7a4 (nI m.val &&& (((1 : Int32) <<< (nI g.val &&& 31)) ^^^ (-1 : Int32))) = some (nI (cnt (fun j => m.val.testBit j && !(j == g.val)) 8)) := by decide +kernel
theorem or_bit {i m : Nat} (hi : i < 8) (hm : m < 2 ^ i) : nI m ||| ((1 : Int32) <<< (nI i &&& 31)) = nI (m + 2 ^ i) := or_dec ⟨i, hi⟩ ⟨m, Nat.lt_of_lt_of_le hm (by
  have : 2 ^ i ≤ 2 ^ 7 := Nat.pow_le_pow_right (by decide) (by omega)
  exact this)⟩ hm
section CS
variable {a : AS} {h : HS} {z : MS}
theorem th_at (hI : Inv a) (hH : Hc h a) {g : Nat} (hg : g < 8) : f_X1_isThere h (nI g) = some (if a_is a g then 1 else 0) := by
  have hT := hI.1.2.2.1
  unfold f_X1_isThere
  rw [if_neg (nI_pos (by omega)), if_neg (show ¬ (8 : Int32) ≤ nI g from nlit (by decide) hg), hH.2.1]
  cases e : a_is a g
  · rw [if_neg (fun q => by have := (bit_1 hT hg).mp q; unfold a_is at e; rw [this] at e; cases e)]; rfl
  · rw [if_pos ((bit_1 hT hg).mpr e)]; rfl
/-- the guests of a room, as bits -/
theorem bitsIn_spec (hI : Inv a) (hH : Hc h a) {r : Nat} (hr : r < 2 ^ 31) : f_X1_bitsIn h (nI r) = some (nI (msk (fun g => a_is a g && a_pl a g == r) 8)) := by
  obtain ⟨N, hN, hFU⟩ := FU_ex
  unfold f_X1_bitsIn
  rw [hFU]
  refine it_rule (bot := fun _ _ _ _ => none) 8 (fun i (x : Int32) => x = nI (msk (fun g => a_is a g && a_pl a g == r) i)) (fun k i x => k h (nI r) x (nI i) = some (nI (msk (fun g => a_is a g && a_pl a g == r) 8))) ?_ ?_ N 0 0 (by omega) (by omega) rfl
  · intro k x hx
    unfold X1_bitsIn_B4
    rw [if_pos (by decide), hx]
  · intro k i x hi hx hk
    have hp := (hH.2.2.2.2.2.1 i hi).1
    have hpl : a_pl a i < 2 ^ 31 := by
      cases e : a_is a i
      · rw [(hI.2.2.2.2.1 i hi e).1]; decide
      · have := (hI.2.2.2.2.2.1 i hi e).1; have := hI.1.2.1; omega
    unfold X1_bitsIn_B4 X1_bitsIn_J34
    rw [if_neg (show ¬ (8 : Int32) ≤ nI i from nlit (by decide) hi), th_at hI hH hi, Option.bind_some, chk_nI hi (by decide), nI_clamp (by omega), hp, nI_1]
    cases e : a_is a i
    · simp only [Bool.false_eq_true, if_false, if_true]
      refine hk x ?_
      rw [hx]
      conv => rhs; unfold msk
      rw [e]; rfl
    · simp only [if_true]
      rw [if_neg (by decide)]
      by_cases q : a_pl a i = r
      · rw [if_pos (by rw [q])]
        refine hk _ ?_
        rw [hx, or_bit hi (msk_lt _ i)]
        conv => rhs; unfold msk
        rw [e, q]; simp
      · rw [if_neg (fun c => q ((nI_eq hpl hr).mp c))]
        refine hk x ?_
        rw [hx]
        conv => rhs; unfold msk
        rw [e]; simp [q]
theorem count_spec (hI : Inv a) (hH : Hc h a) {r : Nat} (hr : r < 2 ^ 31) : f_X1_count h (nI r) = some (nI (a_in a r)) := by
  unfold f_X1_count
  rw [bitsIn_spec hI hH hr, Option.bind_some, pop_dec ⟨_, msk_lt _ 8⟩, Option.bind_some]
  show some (nI (cnt _ 8)) = _
  rw [cnt_congr (q := fun g => a_is a g && a_pl a g == r) (fun j hj => msk_bit _ 8 j hj)]
  rfl
theorem others_spec (hI : Inv a) (hH : Hc h a) {g r : Nat} (hg : g < 8) (hr : r < 2 ^ 31) : f_X1_others h (nI g) (nI r) = some (nI (cnt (fun j => (a_is a j && a_pl a j == r) && !(j == g)) 8)) := by
  unfold f_X1_others
  rw [bitsIn_spec hI hH hr, Option.bind_some, pop_but ⟨_, msk_lt _ 8⟩ ⟨g, hg⟩, Option.bind_some]
  show some (nI (cnt _ 8)) = _
  rw [cnt_congr (q := fun j => (a_is a j && a_pl a j == r) && !(j == g)) (fun j hj => by rw [msk_bit _ 8 j hj])]
/-- the reference's count in a room, in its present -/
theorem countIn_spec (hI : Inv a) (hM : Mc (mnow z) a) {r : Nat} (hr : r < 2 ^ 31) (x : Int32) : f_X9_countIn z (nI r) x = some (nI (cnt (fun j => (a_is a j && a_pl a j == r) && !(decide (nI j = x))) 8)) := by
  obtain ⟨N, hN, hFU⟩ := FU_ex
  have hT := hI.1.2.2.1
  have et : M_there z = nI (a_T a) := hM.2.1
  unfold f_X9_countIn
  rw [hFU]
  refine it_rule (bot := fun _ _ _ _ _ => none) 8 (fun i (n : Int32) => n = nI (cnt (fun j => (a_is a j && a_pl a j == r) && !(decide (nI j = x))) i)) (fun k i n => k z (nI r) x n (nI i) = some (nI (cnt (fun j => (a_is a j && a_pl a j == r) && !(decide (nI j = x))) 8))) ?_ ?_ N 0 0 (by omega) (by omega) rfl
  · intro k n hn
    unfold X9_countIn_B5
    rw [if_pos (by decide), hn]
  · intro k i n hi hn hk
    unfold X9_countIn_B5 X9_countIn_J46 X9_countIn_J47
    rw [if_neg (show ¬ (8 : Int32) ≤ nI i from nlit (by decide) hi), et, has_b hT hi, Option.bind_some, chk_nI hi (by decide), nI_clamp (by omega), nI_1]
    cases e : (a_T a).testBit i
    · simp only [Bool.false_eq_true, if_false, if_true]
      refine hk _ ?_
      rw [hn, cnt_s]; unfold a_is; rw [e]; simp
    · simp only [if_true]
      have ei : a_is a i = true := e
      have hp : M_at z i = nI (a_pl a i) := (hM.2.2.2.2.2.1 i hi ei).1
      have hpl : a_pl a i < 2 ^ 31 := by have := (hI.2.2.2.2.2.1 i hi ei).1; have := hI.1.2.1; omega
      rw [if_neg (by decide), hp]
      by_cases q : nI i = x
      · rw [if_pos q]
        refine hk _ ?_
        rw [hn, cnt_s]; simp [q]
      · rw [if_neg q]
        by_cases q2 : a_pl a i = r
        · rw [if_pos (by rw [q2])]
          refine hk _ ?_
          rw [hn, cnt_s, ei]; simp [q, q2]; exact nI_1 _
        · rw [if_neg (fun c => q2 ((nI_eq hpl hr).mp c))]
          refine hk _ ?_
          rw [hn, cnt_s, ei]; simp [q2]
end CS
