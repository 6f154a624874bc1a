/-! keys of what goes round: the reference's two numbers -/
theorem nL_add (a b : Nat) : nL a + nL b = nL (a + b) := (Int64.ofNat_add a b).symm
theorem nL_mul (a b : Nat) : nL a * nL b = nL (a * b) := (Int64.ofNat_mul a b).symm
set_option maxRecDepth 100000 in
theorem l128_dec : ∀ n : Fin 128, (nI n.val).toInt64 = nL n.val := by decide +kernel
theorem l128 {n : Nat} (h : n < 128) : (nI n).toInt64 = nL n := l128_dec ⟨n, h⟩
def d1A (b : AS) (g : Nat) : Nat := if a_is b g = true then 4 * a_pl b g + a_bs b g else 0
def d2A (b : AS) (g : Nat) : Nat := if a_is b g = true ∧ a_bs b g = 1 then 9 * (a_mt b g).toNat + a_lf b g else if a_is b g = true ∧ a_bs b g = 3 then (a_mt b g).toNat else 0
def n1A (b : AS) : Nat → Nat
  | 0 => 0
  | i + 1 => n1A b i * 32 + d1A b i
def n2A (b : AS) : Nat → Nat
  | 0 => 0
  | i + 1 => n2A b i * 80 + d2A b i
theorem sst {z z' : MS} {f : Nat → Int64} (h : z' = M_set_states z f) : mkeep z' = mkeep z ∧ msc z' = msc z ∧ M_states z' = f := by subst h; exact ⟨rfl, rfl, rfl⟩
theorem note_spec {w : MS} {b : AS} (hI : Inv b) (hM : Mc (mnow w) b) {m : Nat} (hm : m < 100) : ∃ w', f_X9_note w (nI m) = some w' ∧ mkeep w' = mkeep w ∧ msc w' = msc w ∧ M_states w' = vp_updL (vp_updL (M_states w) (2 * m) (nL (n1A b 8))) (2 * m + 1) (nL (n2A b 8)) := by
  obtain ⟨N, hN, hFU⟩ := FU_ex
  have hT := hI.1.2.2.1
  have hR6 := hI.1.2.1
  have et : M_there w = nI (a_T b) := hM.2.1
  unfold f_X9_note
  rw [hFU]
  refine it_rule (bot := fun _ _ _ _ _ => none) 8 (fun i (s : Int64 × Int64) => s = (nL (n1A b i), nL (n2A b i))) (fun k i s => ∃ w', k w (nI m) s.1 s.2 (nI i) = some w' ∧ mkeep w' = mkeep w ∧ msc w' = msc w ∧ M_states w' = vp_updL (vp_updL (M_states w) (2 * m) (nL (n1A b 8))) (2 * m + 1) (nL (n2A b 8))) ?_ ?_ N 0 (0, 0) (by omega) (by omega) rfl
  · intro k s hs
    obtain ⟨y1, e1⟩ : ∃ x, x = M_set_states w (vp_updL (M_states w) (2 * m) (nL (n1A b 8))) := ⟨_, rfl⟩
    obtain ⟨a1, b1, c1⟩ := sst e1
    obtain ⟨y2, e2⟩ : ∃ x, x = M_set_states y1 (vp_updL (M_states y1) (2 * m + 1) (nL (n2A b 8))) := ⟨_, rfl⟩
    obtain ⟨a2, b2, c2⟩ := sst e2
    refine ⟨y2, ?_, a2.trans a1, b2.trans b1, by rw [c2, c1]⟩
    rw [hs]
    show X9_note_B8 k w (nI m) (nL (n1A b 8)) (nL (n2A b 8)) (nI 8) = _
    unfold X9_note_B8
    rw [if_pos (by decide), show (2 : Int32) * nI m = nI (2 * m) from pk_mul 2 m, nI_1, chk_nI (by omega) (by decide), nI_clamp (by omega), nI_clamp (by omega), ltA_eq, ← e1, chk_nI (by omega) (by decide), ltA_eq, ← e2]
  · intro k i s hi hs hk
    have hk' := hk (nL (n1A b (i + 1)), nL (n2A b (i + 1))) rfl
    have hk' : ∃ w', k w (nI m) (nL (n1A b i * 32 + d1A b i)) (nL (n2A b i * 80 + d2A b i)) (nI (i + 1)) = some w' ∧ mkeep w' = mkeep w ∧ msc w' = msc w ∧ M_states w' = vp_updL (vp_updL (M_states w) (2 * m) (nL (n1A b 8))) (2 * m + 1) (nL (n2A b 8)) := hk'
    have hb := bs_lt hI hi
    have hp := pl_lt hI hi
    have hl := lf_lt hI hi
    rw [hs]
    show ∃ w', X9_note_B8 k w (nI m) (nL (n1A b i)) (nL (n2A b i)) (nI i) = some w' ∧ _
    unfold X9_note_B8 X9_note_J57 X9_note_J80 X9_note_J81 X9_note_J145 X9_note_J146
    rw [if_neg (show ¬ (8 : Int32) ≤ nI i from nlit (by decide) hi), et, has_b hT hi, Option.bind_some, nI_1, show (32 : Int64) = nL 32 from rfl, show (80 : Int64) = nL 80 from rfl, nL_mul, nL_mul]
    cases e : (a_T b).testBit i
    · have e' : a_is b i = false := e
      have d1 : d1A b i = 0 := by unfold d1A; rw [if_neg (by rw [e']; decide)]
      have d2 : d2A b i = 0 := by unfold d2A; rw [if_neg (fun h => by rw [e'] at h; cases h.1), if_neg (fun h => by rw [e'] at h; cases h.1)]
      rw [d1, d2] at hk'
      simp only [Bool.false_eq_true, if_false, if_true]
      rw [show ((0 : Int32)).toInt64 = nL 0 from rfl, nL_add, nL_add]
      exact hk'
    · have e' : a_is b i = true := e
      obtain ⟨p1, p2, p3, p4⟩ := gt_now hM hi e'
      have d1 : d1A b i = 4 * a_pl b i + a_bs b i := by unfold d1A; rw [if_pos e']
      rw [d1] at hk'
      simp only [if_true]
      rw [if_neg (show ¬ (1 : Int32) = 0 by decide), chk_nI hi (by decide), chk_nI hi (by decide), if_neg (show ¬ (1 : Int32) = 0 by decide)]
      simp only [chk_nI hi (show 8 < 2 ^ 31 by decide)]
      rw [nI_clamp (show i < 2 ^ 31 by omega), p1, p2, p3]
      have e4 : nI (a_pl b i) * (4 : Int32) + nI (a_bs b i) = nI (4 * a_pl b i + a_bs b i) := by rw [show (4 : Int32) = nI 4 from rfl, pk_mul, nI_add, Nat.mul_comm]
      rw [e4, l128 (by omega), nL_add]
      by_cases c1 : a_bs b i = 1
      · obtain ⟨j, j1, -, j3, -⟩ := hI.2.2.2.2.2.2.2.1 i hi c1
        have d2 : d2A b i = 9 * j + a_lf b i := by unfold d2A; rw [if_pos ⟨e', c1⟩, j3]; rfl
        rw [d2] at hk'
        rw [if_pos (show nI (a_bs b i) = (1 : Int32) by rw [c1]; rfl), if_neg (show ¬ (1 : Int32) = 0 by decide), p4 (Or.inl c1), j3, oI_nat]
        have e5 : ((1 : Int32) + nI j * 9 + nI (a_lf b i)) - 1 = nI (9 * j + a_lf b i) := by
          rw [show (9 : Int32) = nI 9 from rfl, pk_mul, show (1 : Int32) = nI 1 from rfl, nI_add, nI_add]
          rw [show nI (1 + j * 9 + a_lf b i) - nI 1 = nI (1 + j * 9 + a_lf b i - 1) from pk_sub (b := 1) (by omega)]
          congr 1; omega
        rw [e5, l128 (by omega), nL_add]
        exact hk'
      · rw [if_neg (show ¬ nI (a_bs b i) = (1 : Int32) from fun h => c1 ((nI_eq (by omega) (b := 1) (by decide)).mp h)), if_neg (show ¬ (1 : Int32) = 0 by decide)]
        by_cases c3 : a_bs b i = 3
        · obtain ⟨-, q, q1, -, q3, -⟩ := hI.2.2.2.2.2.2.2.2.1 i hi c3
          have d2 : d2A b i = q := by unfold d2A; rw [if_neg (fun h => c1 h.2), if_pos ⟨e', c3⟩, q3]; rfl
          rw [d2] at hk'
          rw [if_pos (show nI (a_bs b i) = (3 : Int32) by rw [c3]; rfl), p4 (Or.inr c3), q3, oI_nat, l128 (by omega), nL_add]
          exact hk'
        · have d2 : d2A b i = 0 := by unfold d2A; rw [if_neg (fun h => c1 h.2), if_neg (fun h => c3 h.2)]
          rw [d2] at hk'
          rw [if_neg (show ¬ nI (a_bs b i) = (3 : Int32) from fun h => c3 ((nI_eq (by omega) (b := 3) (by decide)).mp h)), show ((0 : Int32)).toInt64 = nL 0 from rfl, nL_add]
          exact hk'
