set_option maxRecDepth 100000 in
theorem bit_dec : ∀ T : Fin 256, ∀ g : Fin 8, (((nI T.val >>> (nI g.val &&& 31)) &&& 1) = 1 ↔ T.val.testBit g.val = true) := by decide +kernel
theorem bit_1 {T g : Nat} (hT : T < 256) (hg : g < 8) : (((nI T >>> (nI g &&& 31)) &&& 1) = 1 ↔ T.testBit g = true) := bit_dec ⟨T, hT⟩ ⟨g, hg⟩
theorem has_1 {T g : Nat} (hT : T < 256) (hg : g < 8) (h : T.testBit g = true) : f_X9_has (nI T) (nI g) = some 1 := by
  unfold f_X9_has; rw [if_pos ((bit_1 hT hg).mpr h)]
theorem has_0 {T g : Nat} (hT : T < 256) (hg : g < 8) (h : T.testBit g = false) : f_X9_has (nI T) (nI g) = some 0 := by
  unfold f_X9_has; rw [if_neg (fun q => by rw [(bit_1 hT hg).mp q] at h; cases h)]
theorem has_b {T g : Nat} (hT : T < 256) (hg : g < 8) : f_X9_has (nI T) (nI g) = some (if T.testBit g then 1 else 0) := by
  cases h : T.testBit g
  · exact has_0 hT hg h
  · exact has_1 hT hg h
/-- a number is one of 0 to n less 1, or none of them -/
theorem num_cases (x : Int32) {n : Nat} (hn : n < 2 ^ 31) : (∃ j, j < n ∧ x = nI j) ∨ (x < 0 ∨ nI n ≤ x) := by
  by_cases h : x < 0
  · exact Or.inr (Or.inl h)
  · by_cases h2 : nI n ≤ x
    · exact Or.inr (Or.inr h2)
    · exact Or.inl (i_small hn h (Int32.not_le.mp h2))
/-- between 0 and n less 1, on both sides' ways -/
theorem in_nI {j n : Nat} (hj : j < n) (hn : n < 2 ^ 31) : f_X9_in (nI j) 0 (nI (n - 1)) = some 1 := in_1 (nI_pos (by omega)) (nI_nlt (by omega) (by omega))
theorem in_no {x : Int32} {n : Nat} (hn : n < 2 ^ 31) (h0 : 0 < n) (h : x < 0 ∨ nI n ≤ x) : f_X9_in x 0 (nI (n - 1)) = some 0 := by
  rcases h with h | h
  · exact in_0 (Or.inl h)
  · exact in_0 (Or.inr (Int32.lt_of_lt_of_le (nI_lt (by omega) hn) h))
section BS
variable {a : AS} {h : HS} {z : MS}
theorem m_rooms (hM : Mc (mcore z) a) : M_rooms z = nI (a_R a) := hM.1
theorem m_there (hM : Mc (mcore z) a) : M_there z = nI (a_T a) := hM.2.1
theorem rm_cases (hI : Inv a) (hH : Hc h a) (hM : Mc (mcore z) a) (x : Int32) : (∃ r, r < a_R a ∧ x = nI r ∧ f_X1_isRoom h x = some 1 ∧ f_X9_isRoom z x = some 1) ∨ ((x < 0 ∨ nI (a_R a) ≤ x) ∧ f_X1_isRoom h x = some 0 ∧ f_X9_isRoom z x = some 0) := by
  have h2 := hI.1.1
  have h6 := hI.1.2.1
  have e1 : (nI (a_R a) - 1 : Int32) = nI (a_R a - 1) := pk_sub (b := 1) (by omega)
  rcases num_cases x (n := a_R a) (by omega) with ⟨r, hr, rfl⟩ | hx
  · refine Or.inl ⟨r, hr, rfl, ?_, ?_⟩
    · unfold f_X1_isRoom; rw [if_neg (nI_pos (by omega)), hH.1, if_neg (nI_ge hr (by omega))]
    · unfold f_X9_isRoom; rw [m_rooms hM, e1, in_nI hr (by omega), Option.bind_some]; rfl
  · refine Or.inr ⟨hx, ?_, ?_⟩
    · unfold f_X1_isRoom
      by_cases c : x < 0
      · rw [if_pos c]
      · rw [if_neg c, hH.1, if_pos (hx.resolve_left c)]
    · unfold f_X9_isRoom; rw [m_rooms hM, e1, in_no (by omega) (by omega) hx, Option.bind_some]; rfl
theorem th_cases (hI : Inv a) (hH : Hc h a) (hM : Mc (mcore z) a) (x : Int32) : (∃ g, g < 8 ∧ x = nI g ∧ a_is a g = true ∧ f_X1_isThere h x = some 1 ∧ f_X9_isThere z x = some 1) ∨ (f_X1_isThere h x = some 0 ∧ f_X9_isThere z x = some 0) := by
  have hT := hI.1.2.2.1
  rcases num_cases x (n := 8) (by decide) with ⟨g, hg, rfl⟩ | hx
  · have b1 : f_X9_in (nI g) 0 7 = some 1 := in_nI (n := 8) hg (by decide)
    cases e : a_is a g
    · refine Or.inr ⟨?_, ?_⟩
      · unfold f_X1_isThere
        rw [if_neg (nI_pos (by omega)), if_neg (show ¬ (8 : Int32) ≤ nI g from nlit (by decide) hg), hH.2.1, if_neg (fun q => by have := (bit_1 hT hg).mp q; unfold a_is at e; rw [this] at e; cases e)]
      · unfold f_X9_isThere
        rw [b1, Option.bind_some, if_neg (by decide), m_there hM, has_0 hT hg e, Option.bind_some, if_pos rfl]
    · refine Or.inl ⟨g, hg, rfl, e, ?_, ?_⟩
      · unfold f_X1_isThere
        rw [if_neg (nI_pos (by omega)), if_neg (show ¬ (8 : Int32) ≤ nI g from nlit (by decide) hg), hH.2.1, if_pos ((bit_1 hT hg).mpr e)]
      · unfold f_X9_isThere
        rw [b1, Option.bind_some, if_neg (by decide), m_there hM, has_1 hT hg e, Option.bind_some, if_neg (by decide)]
  · refine Or.inr ⟨?_, ?_⟩
    · unfold f_X1_isThere
      by_cases c : x < 0
      · rw [if_pos c]
      · rw [if_neg c, if_pos (show (8 : Int32) ≤ x from hx.resolve_left c)]
    · unfold f_X9_isThere
      rw [show f_X9_in x 0 7 = some 0 from in_no (n := 8) (by decide) (by decide) hx, Option.bind_some, if_pos rfl]
end BS
