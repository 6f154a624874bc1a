theorem st_bool (P1 P2 P3 P4 : Prop) [Decidable P1] [Decidable P2] [Decidable P3] [Decidable P4] : (if P1 then (if P2 then some (nI 1) else if P3 then if P4 then some (nI 1) else some (nI 0) else some (nI 0)) else if P3 then if P4 then some (nI 1) else some (nI 0) else some (nI 0)) = some (if ((3 : Nat) == 3 && (decide P1 && decide P2 || decide P3 && decide P4)) = true then nI 1 else nI 0) := by
  by_cases c1 : P1 <;> by_cases c2 : P2 <;> by_cases c3 : P3 <;> by_cases c4 : P4 <;> simp [c1, c2, c3, c4]
section DO
variable {a : AS} {h : HS} {z : MS}
theorem mt_eq (hI : Inv a) {g q : Nat} (hg : g < 8) (hq : q < 2 ^ 31) : (Int32.ofInt (a_mt a g) = nI q) ↔ a_mt a g = (q : Int) := oI_nI (by have := mt_rng hI hg; omega) (by have := mt_rng hI hg; omega) hq
theorem jam_spec (hI : Inv a) (hH : Hc h a) {r q : Nat} (hr : r < 2 ^ 31) (hq : q < 2 ^ 31) : f_X1_jam h (nI r) (nI q) = some (nI (jam a r q)) := by
  obtain ⟨N, hN, hFU⟩ := FU_ex
  unfold f_X1_jam
  rw [hFU]
  refine it_rule (bot := fun _ _ _ _ _ => none) 8 (fun i (x : Int32) => x = nI (cnt (stn a r q) i)) (fun k i x => k h (nI r) (nI q) x (nI i) = some (nI (jam a r q))) ?_ ?_ N 0 0 (by omega) (by omega) rfl
  · intro k x hx
    unfold X1_jam_B5
    rw [if_pos (by decide), hx]; rfl
  · intro k i x hi hx hk
    obtain ⟨hp, hb, hm, -⟩ := hH.2.2.2.2.2.1 i hi
    have hpl := pl_lt hI hi
    have hbs := bs_lt hI hi
    have e1 : (nI (a_pl a i) = nI r) = (a_pl a i = r) := propext (nI_eq (by omega) hr)
    have e2 : (nI (a_pl a i) = nI q) = (a_pl a i = q) := propext (nI_eq (by omega) hq)
    have e3 : (Int32.ofInt (a_mt a i) = nI r) = (a_mt a i = (r : Int)) := propext (mt_eq hI hi hr)
    have e4 : (Int32.ofInt (a_mt a i) = nI q) = (a_mt a i = (q : Int)) := propext (mt_eq hI hi hq)
    have e5 : (nI (a_bs a i) = nI 3) = (a_bs a i = 3) := propext (nI_eq (by omega) (by omega))
    unfold X1_jam_B5 X1_jam_J34 X1_jam_J56 X1_jam_J60 X1_jam_J61 X1_jam_J82
    simp (disch := omega) only [s_lit, s_lt_t, s_lt_f, s_le_t, s_le_f, s_eq_t, s_eq_f, s_chk, s_clamp, Option.bind_some, nI_add, pk_mul, if_true, if_false, reduceIte, ↓reduceIte, hp, hb, hm, e1, e2, e3, e4, e5]
    have key : ∀ n : Nat, n = (if stn a r q i then 1 else 0) → k h (nI r) (nI q) (x + nI n) (nI (i + 1)) = some (nI (jam a r q)) := by
      intro n hn
      refine hk _ ?_
      rw [hx, cnt_s, nI_add, hn]
    have key0 : stn a r q i = false → k h (nI r) (nI q) x (nI (i + 1)) = some (nI (jam a r q)) := by
      intro hs
      have := key 0 (by rw [hs]; rfl)
      rwa [show nI 0 = (0 : Int32) from rfl, Int32.add_zero] at this
    have key1 : stn a r q i = true → k h (nI r) (nI q) (x + nI 1) (nI (i + 1)) = some (nI (jam a r q)) := fun hs => key 1 (by rw [hs]; rfl)
    unfold stn at key0 key1
    repeat' split
    all_goals (try rw [nI_add i 1])
    all_goals first
      | (apply key0; simp [*]; done)
      | (apply key1; simp [*]; done)
      | (apply key0; simp [*]; omega)
theorem jam_pos {r q : Nat} : 0 < jam a r q ↔ ∃ g, g < 8 ∧ stn a r q g = true := by
  unfold jam cnt
  rw [List.countP_pos_iff]
  constructor
  · rintro ⟨g, h1, h2⟩; exact ⟨g, List.mem_range.mp h1, h2⟩
  · rintro ⟨g, h1, h2⟩; exact ⟨g, List.mem_range.mpr h1, h2⟩
theorem jam_le {r q : Nat} : jam a r q ≤ 8 := cnt_le _ 8
theorem stn_wd (hI : Inv a) {r q g : Nat} (hg : g < 8) (h : stn a r q g = true) : 1 ≤ a_wd a r q ∧ a_is a g = true := by
  unfold stn at h
  simp only [Bool.and_eq_true, Bool.or_eq_true, beq_iff_eq] at h
  obtain ⟨hb, h⟩ := h
  have hi : a_is a g = true := by
    cases e : a_is a g
    · have := (hI.2.2.2.2.1 g hg e).2.1; omega
    · rfl
  obtain ⟨-, q', hq', -, hm, hw⟩ := hI.2.2.2.2.2.2.2.2.1 g hg hb
  have hpl := (hI.2.2.2.2.2.1 g hg hi).1
  have hR := hI.1.2.1
  refine ⟨?_, hi⟩
  rcases h with ⟨h1, h2⟩ | ⟨h1, h2⟩
  · have : q' = q := by omega
    rw [← h1, ← this]; exact hw
  · have : q' = r := by omega
    rw [(hI.2.2.1 r q (by omega) (by omega)).2.1, ← h1, ← this]; exact hw
theorem stands_spec (hI : Inv a) (hM : Mc (mcore z) a) {g r q : Nat} (hg : g < 8) (hr : r < 2 ^ 31) (hq : q < 2 ^ 31) : f_X9_standsIn z (nI g) (nI r) (nI q) = some (if stn a r q g then 1 else 0) := by
  have hT := hI.1.2.2.1
  have et : M_there z = nI (a_T a) := hM.2.1
  have hbs := bs_lt hI hg
  have hpl := pl_lt hI hg
  unfold f_X9_standsIn
  rw [et, has_b hT hg, Option.bind_some]
  cases e : (a_T a).testBit g
  · have e' : a_is a g = false := e
    have hb := (hI.2.2.2.2.1 g hg e').2.1
    unfold stn; rw [hb]; rfl
  · have e' : a_is a g = true := e
    obtain ⟨hp, hb, -, hm, -⟩ := hM.2.2.2.2.2.1 g hg e'
    have hp : M_place z g = nI (a_pl a g) := hp
    have hb : M_busy z g = nI (a_bs a g) := hb
    have hm : a_bs a g = 1 ∨ a_bs a g = 3 → M_with z g = Int32.ofInt (a_mt a g) := hm
    have e1 : (nI (a_pl a g) = nI r) = (a_pl a g = r) := propext (nI_eq (by omega) hr)
    have e2 : (nI (a_pl a g) = nI q) = (a_pl a g = q) := propext (nI_eq (by omega) hq)
    have e3 : (Int32.ofInt (a_mt a g) = nI r) = (a_mt a g = (r : Int)) := propext (mt_eq hI hg hr)
    have e4 : (Int32.ofInt (a_mt a g) = nI q) = (a_mt a g = (q : Int)) := propext (mt_eq hI hg hq)
    have e5 : (nI (a_bs a g) = nI 3) = (a_bs a g = 3) := propext (nI_eq (by omega) (by omega))
    unfold X9_standsIn_J41 X9_standsIn_J61
    simp (disch := omega) only [s_lit, s_lt_t, s_lt_f, s_le_t, s_le_f, s_eq_t, s_eq_f, s_chk, s_clamp, Option.bind_some, nI_add, pk_mul, if_true, if_false, reduceIte, ↓reduceIte, hp, hb, e5, e1, e2]
    by_cases c : a_bs a g = 3
    · simp (disch := omega) only [s_lit, s_lt_t, s_lt_f, s_le_t, s_le_f, s_eq_t, s_eq_f, s_chk, s_clamp, Option.bind_some, nI_add, pk_mul, if_true, if_false, reduceIte, ↓reduceIte, c, hm (Or.inr c), e3, e4]
      unfold stn
      have b1 : (a_pl a g == r) = decide (a_pl a g = r) := rfl
      have b2 : (a_mt a g == (q : Int)) = decide (a_mt a g = (q : Int)) := rfl
      have b3 : (a_pl a g == q) = decide (a_pl a g = q) := rfl
      have b4 : (a_mt a g == (r : Int)) = decide (a_mt a g = (r : Int)) := rfl
      rw [b1, b2, b3, b4, c]
      exact st_bool ..
    · simp (disch := omega) only [s_lit, s_lt_t, s_lt_f, s_le_t, s_le_f, s_eq_t, s_eq_f, s_chk, s_clamp, Option.bind_some, nI_add, pk_mul, if_true, if_false, reduceIte, ↓reduceIte, c]
      unfold stn; simp [c]
end DO
