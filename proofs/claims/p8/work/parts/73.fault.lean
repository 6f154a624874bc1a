/-! fault -/
theorem p_lt {a b : Nat} (ha : a < 2 ^ 31) (hb : b < 2 ^ 31) : (nI a < nI b) = (a < b) := propext (nI_ltI ha hb)
theorem p_le {a b : Nat} (ha : a < 2 ^ 31) (hb : b < 2 ^ 31) : (nI a ≤ nI b) = (a ≤ b) := propext (nI_leI ha hb)
theorem p_eq {a b : Nat} (ha : a < 2 ^ 31) (hb : b < 2 ^ 31) : (nI a = nI b) = (a = b) := propext (nI_eq ha hb)
/-- is it a guest's letter, a room's -/
def isG (c : Nat) : Bool := decide (65 ≤ c) && decide (c ≤ 72)
def isL (R c : Nat) : Bool := decide (97 ≤ c) && decide (c < 97 + R)
/-- how a sign may follow; 5: it can't -/
def nx (R st c p : Nat) : Nat :=
  if st = 0 then (if c = 46 then 0 else if isG c then 1 else if isL R c then 3 else 5)
  else if st = 1 then (if isG c then (if p < c then 2 else 5) else if c = 95 then 0 else if c = 94 then 0 else if isL R c then 0 else 5)
  else if st = 2 then (if 49 ≤ c ∧ c ≤ 57 then 0 else 5)
  else if st = 3 then (if isL R c then 4 else 5)
  else (if 48 ≤ c ∧ c ≤ 51 then 0 else 5)
theorem nx0 (R c p : Nat) : nx R 0 c p = if c = 46 then 0 else if isG c then 1 else if isL R c then 3 else 5 := rfl
theorem nx1 (R c p : Nat) : nx R 1 c p = if isG c then (if p < c then 2 else 5) else if c = 95 then 0 else if c = 94 then 0 else if isL R c then 0 else 5 := rfl
theorem nx2 (R c p : Nat) : nx R 2 c p = if 49 ≤ c ∧ c ≤ 57 then 0 else 5 := rfl
theorem nx3 (R c p : Nat) : nx R 3 c p = if isL R c then 4 else 5 := rfl
theorem nx4 (R c p : Nat) : nx R 4 c p = if 48 ≤ c ∧ c ≤ 51 then 0 else 5 := rfl
/-- the fault, m signs from i on -/
def fa (R : Nat) (c : Nat → Nat) (n : Nat) : Nat → Nat → Nat → Int32
  | 0, _, st => if st = 0 then -6 else nI n
  | m + 1, i, st => if nx R st (c i) (c (i - 1)) = 5 then nI i else fa R c n m (i + 1) (nx R st (c i) (c (i - 1)))
theorem fa_0 (R : Nat) (c : Nat → Nat) (n i st : Nat) : fa R c n 0 i st = if st = 0 then -6 else nI n := rfl
theorem fa_s (R : Nat) (c : Nat → Nat) (n m i st : Nat) : fa R c n (m + 1) i st = if nx R st (c i) (c (i - 1)) = 5 then nI i else fa R c n m (i + 1) (nx R st (c i) (c (i - 1))) := rfl
theorem gl_spec {c : Nat} (hc : c ≤ 126) : f_X2_isGuestLetter (nI c) = some (if isG c then 1 else 0) := by
  unfold f_X2_isGuestLetter isG
  simp (disch := omega) only [s_lit, p_lt, p_le]
  by_cases h1 : 65 ≤ c <;> by_cases h2 : c ≤ 72 <;> simp [h1, h2] <;> (first | (rw [if_neg (by omega)]; try rw [if_neg (by omega)]; try rw [if_pos (by omega)]) | (rw [if_pos (by omega)])) <;> rfl
theorem rl_spec {c R : Nat} (hc : c ≤ 126) (hR : R ≤ 6) : f_X2_isRoomLetter (nI c) (nI R) = some (if isL R c then 1 else 0) := by
  unfold f_X2_isRoomLetter isL
  simp (disch := omega) only [s_lit, nI_add, p_lt, p_le]
  by_cases h1 : 97 ≤ c
  · rw [if_neg (by omega)]
    by_cases h2 : c < 97 + R
    · rw [if_neg (by omega)]; simp [h1, h2]
    · rw [if_pos (by omega)]; simp [h2]
  · rw [if_pos (by omega)]; simp [h1]
theorem b10 {α : Type} (b : Bool) (x y : α) : (if (if b then (1 : Int32) else 0) = 0 then x else y) = if b then y else x := by cases b <;> rfl
theorem follow_spec {pd : PS} {R n st i : Nat} {c : Nat → Nat} (hR : R ≤ 6) (hn : n ≤ 60) (hu : P_used pd = nI n) (hs : ∀ j, j < n → P_signs pd j = nI (c j) ∧ 33 ≤ c j ∧ c j ≤ 126) (hi : i < n) (hst : st < 5) (h0 : st = 1 → 1 ≤ i) : f_X2_follow pd (nI st) (nI i) (nI R) = some (nI (nx R st (c i) (c (i - 1)))) := by
  obtain ⟨e, c1, c2⟩ := hs i hi
  unfold f_X2_follow f_X2_followStart f_X2_followGuest X2_followGuest_J38
  simp only [chk_nI (show i < 60 by omega) (by decide), nI_clamp (show i < 2 ^ 31 by omega), e, gl_spec c2, rl_spec c2 hR, Option.bind_some]
  rcases (show st = 0 ∨ st = 1 ∨ st = 2 ∨ st = 3 ∨ st = 4 by omega) with rfl | rfl | rfl | rfl | rfl
  · rw [nx0, if_pos (show nI 0 = (0 : Int32) from rfl)]
    simp only [b10]
    simp (disch := omega) only [s_lit, p_eq]
    by_cases q1 : c i = 46
    · rw [if_pos q1, if_pos q1]; rfl
    · rw [if_neg q1, if_neg q1]
      cases isG (c i) <;> cases isL R (c i) <;> rfl
  · have hi1 := h0 rfl
    obtain ⟨e', c1', c2'⟩ := hs (i - 1) (by omega)
    have es : f_X2_sign pd (nI i - 1) = some (nI (c (i - 1))) := by
      have e1 : (nI i - 1 : Int32) = nI (i - 1) := pk_sub (b := 1) (by omega)
      unfold f_X2_sign
      rw [e1, if_neg (nI_pos (by omega)), hu, if_neg (nI_ge (by omega) (by omega)), chk_nI (by omega) (by decide), nI_clamp (by omega), e']
    rw [if_neg (show ¬ nI 1 = (0 : Int32) by decide), if_pos (show nI 1 = (1 : Int32) from rfl), es, Option.bind_some, nx1]
    simp only [b10]
    simp (disch := omega) only [s_lit, p_eq, p_le]
    cases isG (c i)
    · simp only [Bool.false_eq_true, if_false]
      by_cases q1 : c i = 95
      · rw [if_pos q1, if_pos q1]; rfl
      · rw [if_neg q1, if_neg q1]
        by_cases q2 : c i = 94
        · rw [if_pos q2, if_pos q2]; rfl
        · rw [if_neg q2, if_neg q2]
          cases isL R (c i) <;> rfl
    · simp only [if_true]
      by_cases q1 : c (i - 1) < c i
      · rw [if_neg (by omega), if_pos q1]; rfl
      · rw [if_pos (by omega), if_neg q1]; rfl
  · rw [if_neg (show ¬ nI 2 = (0 : Int32) by decide), if_neg (show ¬ nI 2 = (1 : Int32) by decide), if_pos (show nI 2 = (2 : Int32) from rfl), nx2]
    simp (disch := omega) only [s_lit, p_lt]
    by_cases q1 : c i < 49
    · rw [if_pos q1, if_neg (by omega)]
    · rw [if_neg q1]
      by_cases q2 : 57 < c i
      · rw [if_pos q2, if_neg (by omega)]
      · rw [if_neg q2, if_pos (by omega)]
  · rw [if_neg (show ¬ nI 3 = (0 : Int32) by decide), if_neg (show ¬ nI 3 = (1 : Int32) by decide), if_neg (show ¬ nI 3 = (2 : Int32) by decide), if_pos (show nI 3 = (3 : Int32) from rfl), nx3]
    simp only [b10]
    cases isL R (c i) <;> rfl
  · rw [if_neg (show ¬ nI 4 = (0 : Int32) by decide), if_neg (show ¬ nI 4 = (1 : Int32) by decide), if_neg (show ¬ nI 4 = (2 : Int32) by decide), if_neg (show ¬ nI 4 = (3 : Int32) by decide), nx4]
    simp (disch := omega) only [s_lit, p_lt]
    by_cases q1 : c i < 48
    · rw [if_pos q1, if_neg (by omega)]
    · rw [if_neg q1]
      by_cases q2 : 51 < c i
      · rw [if_pos q2, if_neg (by omega)]
      · rw [if_neg q2, if_pos (by omega)]
theorem nx_lt (R st c p : Nat) : nx R st c p ≤ 5 := by
  unfold nx
  repeat' split
  all_goals decide
theorem nx_1 {R st c p : Nat} (h : nx R st c p = 1) : st = 0 := by
  unfold nx at h
  repeat' split at h
  all_goals first | assumption | (simp at h)
theorem flaw_spec {pd : PS} {R n : Nat} {c : Nat → Nat} (hR : R ≤ 6) (hn : n ≤ 60) (hu : P_used pd = nI n) (hs : ∀ j, j < n → P_signs pd j = nI (c j) ∧ 33 ≤ c j ∧ c j ≤ 126) : f_X2_flaw pd (nI R) = some (fa R c n n 0 0) := by
  obtain ⟨N, hN, hFU⟩ := FU_ex
  unfold f_X2_flaw
  rw [hFU]
  refine it_rule (bot := fun _ _ _ _ => none) n (fun i (st : Nat) => st < 5 ∧ (st = 1 → 1 ≤ i) ∧ fa R c n (n - i) i st = fa R c n n 0 0) (fun k i st => k pd (nI R) (nI st) (nI i) = some (fa R c n n 0 0)) ?_ ?_ N 0 0 (by omega) (by omega) ⟨by decide, fun h => absurd h (by decide), rfl⟩
  · intro k st ⟨h1, h2, h3⟩
    unfold X2_flaw_B4
    rw [hu, if_pos (Int32.le_refl _), ← h3, Nat.sub_self, fa_0]
    simp (disch := omega) only [s_lit, p_eq]
    by_cases q : st = 0
    · rw [if_pos q, if_pos q]
    · rw [if_neg q, if_neg q]
  · intro k i st hi ⟨h1, h2, h3⟩ hk
    unfold X2_flaw_B4
    rw [hu, if_neg (nI_ge hi (by omega)), follow_spec hR hn hu hs hi h1 h2, Option.bind_some, nI_1]
    have hl := nx_lt R st (c i) (c (i - 1))
    rw [show n - i = (n - (i + 1)) + 1 by omega, fa_s] at h3
    by_cases q : nx R st (c i) (c (i - 1)) = 5
    · rw [if_pos q] at h3
      rw [if_pos (show nI (nx R st (c i) (c (i - 1))) = (5 : Int32) by rw [q]; rfl), h3]
    · rw [if_neg q] at h3
      rw [if_neg (show ¬ nI (nx R st (c i) (c (i - 1))) = (5 : Int32) from fun h => q ((nI_eq (by omega) (b := 5) (by decide)).mp h))]
      exact hk _ ⟨by omega, fun _ => by omega, h3⟩
theorem inb {c a b : Nat} (hc : c ≤ 200) (ha : a ≤ 200) (hb : b ≤ 200) : f_X9_in (nI c) (nI a) (nI b) = some (if a ≤ c ∧ c ≤ b then 1 else 0) := by
  unfold f_X9_in
  simp (disch := omega) only [p_lt]
  by_cases h1 : c < a
  · rw [if_pos h1, if_neg (by omega)]
  · rw [if_neg h1]
    by_cases h2 : b < c
    · rw [if_pos h2, if_neg (by omega)]
    · rw [if_neg h2, if_pos (by omega)]
theorem rfault_step {z : MS} {R n st i : Nat} {c : Nat → Nat} {k : MS → Int32 → Int32 → Option Int32} (hR1 : 1 ≤ R) (hR : R ≤ 6) (hn : n ≤ 60) (hr : M_rooms z = nI R) (hu : M_signs z = nI n) (hs : ∀ j, j < n → M_pad z j = nI (c j) ∧ 33 ≤ c j ∧ c j ≤ 126) (hi : i < n) (hst : st < 5) (h0 : st = 1 → 1 ≤ i) : X9_faultOf_B4 k z (nI st) (nI i) = if nx R st (c i) (c (i - 1)) = 5 then some (nI i) else k z (nI (nx R st (c i) (c (i - 1)))) (nI (i + 1)) := by
  obtain ⟨e, c1, c2⟩ := hs i hi
  have eG : f_X9_in (nI (c i)) 65 72 = some (if isG (c i) then 1 else 0) := by
    rw [show (65 : Int32) = nI 65 from rfl, show (72 : Int32) = nI 72 from rfl, inb (by omega) (by decide) (by decide)]
    unfold isG
    by_cases q1 : 65 ≤ c i <;> by_cases q2 : c i ≤ 72 <;> simp [q1, q2]
  have eL : f_X9_in (nI (c i)) 97 ((97 + nI R) - 1) = some (if isL R (c i) then 1 else 0) := by
    rw [show (97 : Int32) = nI 97 from rfl, nI_add, show nI (97 + R) - (1 : Int32) = nI (97 + R - 1) from pk_sub (b := 1) (by omega), inb (by omega) (by decide) (by omega)]
    unfold isL
    by_cases q1 : 97 ≤ c i <;> by_cases q2 : c i < 97 + R
    · rw [if_pos (by omega)]; simp [q1, q2]
    · rw [if_neg (by omega)]; simp [q2]
    · rw [if_neg (by omega)]; simp [q1]
    · rw [if_neg (by omega)]; simp [q1]
  unfold X9_faultOf_B4
  rw [hu, if_neg (nI_ge hi (by omega)), chk_nI (by omega) (by decide), nI_clamp (by omega), e, hr, eG, eL, Option.bind_some, Option.bind_some]
  rcases (show st = 0 ∨ st = 1 ∨ st = 2 ∨ st = 3 ∨ st = 4 by omega) with rfl | rfl | rfl | rfl | rfl
  · rw [nx0, if_pos (show nI 0 = (0 : Int32) from rfl)]
    unfold X9_faultOf_J66 X9_faultOf_J71 X9_faultOf_J92 X9_faultOf_J202
    simp only [b10]
    simp (disch := omega) only [s_lit, p_eq, nI_add]
    by_cases q1 : c i = 46
    · have eg : isG (c i) = false := by rw [q1]; rfl
      have el : isL R (c i) = false := by rw [q1]; rfl
      rw [eg, el]; simp [q1]
    · cases eg : isG (c i) <;> cases el : isL R (c i) <;> simp [q1]
  · have hi1 := h0 rfl
    obtain ⟨e', c1', c2'⟩ := hs (i - 1) (by omega)
    have e1 : (nI i - 1 : Int32) = nI (i - 1) := pk_sub (b := 1) (by omega)
    rw [nx1, if_neg (show ¬ nI 1 = (0 : Int32) by decide), if_pos (show nI 1 = (1 : Int32) from rfl), e1, chk_nI (by omega) (by decide), nI_clamp (by omega), e']
    unfold X9_faultOf_J118 X9_faultOf_J135 X9_faultOf_J140 X9_faultOf_J152 X9_faultOf_J202
    simp only [b10]
    simp (disch := omega) only [s_lit, p_eq, p_lt, nI_add]
    cases eg : isG (c i)
    · by_cases q1 : c i = 95
      · simp [q1]
      · by_cases q2 : c i = 94
        · simp [q2]
        · cases el : isL R (c i) <;> simp [q1, q2]
    · have h1 : ¬ c i = 95 := fun q => by rw [q] at eg; exact absurd eg (by decide)
      have h2 : ¬ c i = 94 := fun q => by rw [q] at eg; exact absurd eg (by decide)
      have h3 : isL R (c i) = false := by
        unfold isG at eg; unfold isL
        simp only [Bool.and_eq_true, decide_eq_true_eq] at eg
        rw [show decide (97 ≤ c i) = false from decide_eq_false (by omega)]; rfl
      rw [h3]
      by_cases q1 : c (i - 1) < c i
      · simp [q1]
      · simp [q1, h1, h2]
  · rw [nx2, if_neg (show ¬ nI 2 = (0 : Int32) by decide), if_neg (show ¬ nI 2 = (1 : Int32) by decide), if_pos (show nI 2 = (2 : Int32) from rfl), show (49 : Int32) = nI 49 from rfl, show (57 : Int32) = nI 57 from rfl, inb (by omega) (by decide) (by decide), Option.bind_some]
    unfold X9_faultOf_J202
    rw [nI_1]
    by_cases q : 49 ≤ c i ∧ c i ≤ 57
    · rw [if_pos q, if_neg (by decide), if_pos q, if_neg (by decide)]; rfl
    · rw [if_neg q, if_pos rfl, if_neg q, if_pos rfl]
  · rw [nx3, if_neg (show ¬ nI 3 = (0 : Int32) by decide), if_neg (show ¬ nI 3 = (1 : Int32) by decide), if_neg (show ¬ nI 3 = (2 : Int32) by decide), if_pos (show nI 3 = (3 : Int32) from rfl)]
    unfold X9_faultOf_J202
    rw [nI_1, b10]
    cases isL R (c i) <;> rfl
  · rw [nx4, if_neg (show ¬ nI 4 = (0 : Int32) by decide), if_neg (show ¬ nI 4 = (1 : Int32) by decide), if_neg (show ¬ nI 4 = (2 : Int32) by decide), if_neg (show ¬ nI 4 = (3 : Int32) by decide), show (48 : Int32) = nI 48 from rfl, show (51 : Int32) = nI 51 from rfl, inb (by omega) (by decide) (by decide), Option.bind_some]
    unfold X9_faultOf_J202
    rw [nI_1]
    by_cases q : 48 ≤ c i ∧ c i ≤ 51
    · rw [if_pos q, if_neg (by decide), if_pos q, if_neg (by decide)]; rfl
    · rw [if_neg q, if_pos rfl, if_neg q, if_pos rfl]
theorem faultOf_spec {z : MS} {R n : Nat} {c : Nat → Nat} (hR1 : 1 ≤ R) (hR : R ≤ 6) (hn : n ≤ 60) (hr : M_rooms z = nI R) (hu : M_signs z = nI n) (hs : ∀ j, j < n → M_pad z j = nI (c j) ∧ 33 ≤ c j ∧ c j ≤ 126) : f_X9_faultOf z = some (fa R c n n 0 0) := by
  obtain ⟨N, hN, hFU⟩ := FU_ex
  unfold f_X9_faultOf
  rw [hFU]
  refine it_rule (bot := fun _ _ _ => none) n (fun i (st : Nat) => st < 5 ∧ (st = 1 → 1 ≤ i) ∧ fa R c n (n - i) i st = fa R c n n 0 0) (fun k i st => k z (nI st) (nI i) = some (fa R c n n 0 0)) ?_ ?_ N 0 0 (by omega) (by omega) ⟨by decide, fun h => absurd h (by decide), rfl⟩
  · intro k st ⟨h1, h2, h3⟩
    unfold X9_faultOf_B4
    rw [hu, if_pos (Int32.le_refl _), ← h3, Nat.sub_self, fa_0]
    simp (disch := omega) only [s_lit, p_eq]
    by_cases q : st = 0
    · rw [if_pos q, if_pos q]
    · rw [if_neg q, if_neg q]
  · intro k i st hi ⟨h1, h2, h3⟩ hk
    rw [rfault_step hR1 hR hn hr hu hs hi h1 h2]
    have hl := nx_lt R st (c i) (c (i - 1))
    rw [show n - i = (n - (i + 1)) + 1 by omega, fa_s] at h3
    by_cases q : nx R st (c i) (c (i - 1)) = 5
    · rw [if_pos q] at h3
      rw [if_pos q, h3]
    · rw [if_neg q] at h3
      rw [if_neg q]
      exact hk _ ⟨by omega, fun _ => by omega, h3⟩
/-- both pads, as plain numbers -/
theorem PadR.nat {pd : PS} {sn : Int32} {f : Nat → Int32} (h : PadR pd sn f) : ∃ (n : Nat) (c : Nat → Nat), n ≤ 60 ∧ P_used pd = nI n ∧ sn = nI n ∧ (∀ j, j < n → P_signs pd j = nI (c j) ∧ 33 ≤ c j ∧ c j ≤ 126) ∧ ∀ j, j < n → f j = nI (c j) ∧ 33 ≤ c j ∧ c j ≤ 126 := by
  obtain ⟨n, hn, e1, e2, e3⟩ := h
  have ex : ∀ j, ∃ c : Nat, j < n → 33 ≤ c ∧ c ≤ 126 ∧ f j = nI c := fun j => by
    by_cases q : j < n
    · obtain ⟨-, c, h⟩ := e3 j q; exact ⟨c, fun _ => h⟩
    · exact ⟨0, fun h => absurd h q⟩
  refine ⟨n, fun j => Classical.choose (ex j), hn, e1, e2, fun j hj => ?_, fun j hj => ?_⟩
  · obtain ⟨a1, a2, a3⟩ := Classical.choose_spec (ex j) hj
    exact ⟨(e3 j hj).1.trans a3, a1, a2⟩
  · obtain ⟨a1, a2, a3⟩ := Classical.choose_spec (ex j) hj
    exact ⟨a3, a1, a2⟩
theorem sim_fault : Sim_fault Rel := by
  intro S z h
  obtain ⟨⟨a, hI, hH, hM⟩, hp, h3⟩ := id h
  have hH : Hc (K_now S) a := hH
  have hM : Mc (mcore z) a := hM
  have hp : PadR (K_pad S) (M_signs z) (M_pad z) := hp
  obtain ⟨n, c, hn, u1, u2, s1, s2⟩ := PadR.nat hp
  have g1 : f_X8_fault (K_now S) (K_pad S) = some (fa (a_R a) c n n 0 0) := by
    unfold f_X8_fault
    rw [hH.1, flaw_spec hI.1.2.1 hn u1 s1, Option.bind_some]
  have g2 : f_X9_fault z = some (fa (a_R a) c n n 0 0) := by
    unfold f_X9_fault
    rw [faultOf_spec (by have := hI.1.1; omega) hI.1.2.1 hn hM.1 u2 s2, Option.bind_some]
  exact ⟨_, _, g1, g2, rfl, h⟩
