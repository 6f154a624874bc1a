/-! the reference's ways -/
theorem mnow_of {w w' : MS} (h : mkeep w' = mkeep w) (h2 : msc w' = msc w) : mnow w' = mnow w := by
  show ((mkeep w').1.1, (msc w').2.2.2.2.1, (mkeep w').1.2.2.1, (mkeep w').1.2.2.2.1, (mkeep w').1.2.2.2.2.1, (mkeep w').1.2.2.2.2.2.1, (mkeep w').1.2.2.2.2.2.2.1, (msc w').1, (msc w').2.1, (msc w').2.2.1, (msc w').2.2.2.1, (mkeep w').1.2.2.2.2.2.2.2.2.2.2.2.1, (mkeep w').1.2.2.2.2.2.2.2.2.2.2.2.2) = mnow w
  rw [h, h2]; rfl
theorem sc_dear {z z' : MS} {f : Nat → Int32} (h : z' = M_set_dear z f) : mkeep z' = mkeep z ∧ msc z' = msc z ∧ M_dear z' = f := by subst h; exact ⟨kp_dear z f, rfl, rfl⟩
/-- the reference's table of ways, filled up to n -/
def De (b : AS) (g : Nat) (z w : MS) (n : Nat) : Prop := mkeep w = mkeep z ∧ msc w = msc z ∧ ∀ j, j < n → M_dear w j = nI (dA b g (j / 6) (j % 6))
section RE
variable {b : AS} {g : Nat} {G : Nat → Nat} {z : MS}
theorem De.now {w : MS} {n : Nat} (h : De b g z w n) (hM : Mc (mnow z) b) : Mc (mnow w) b := by rw [mnow_of h.1 h.2.1]; exact hM
theorem De.at {w : MS} {n k r : Nat} (h : De b g z w n) (hr : r < 6) (hn : 6 * k + r < n) : M_dear w (6 * k + r) = nI (dA b g k r) := by
  rw [h.2.2 _ hn, show (6 * k + r) / 6 = k by omega, show (6 * k + r) % 6 = r by omega]
theorem De.put {w w' : MS} {k r : Nat} {x : Int32} (h : De b g z w (6 * k + r)) (hr : r < 6) (hx : x = nI (dA b g k r)) (e : w' = M_set_dear w (upd (M_dear w) (6 * k + r) x)) : De b g z w' (6 * k + r + 1) := by
  obtain ⟨e1, e2, e3⟩ := sc_dear e
  refine ⟨e1.trans h.1, e2.trans h.2.1, fun j hj => ?_⟩
  rw [e3]
  by_cases c : j = 6 * k + r
  · rw [c, pk_us, hx, show (6 * k + r) / 6 = k by omega, show (6 * k + r) % 6 = r by omega]
  · rw [pk_un c]; exact h.2.2 j (by omega)
theorem De.W {w : MS} {n : Nat} (h : De b g z w n) (hM : Mc (mnow z) b) {r q : Nat} (hr : r < 6) (hq : q < 6) : M_width w (6 * r + q) = nI (a_wd b r q) := (h.now hM).2.2.2.2.1 r q hr hq
theorem mn_b (b : AS) (g : Nat) (k r n : Nat) : mnA b (dA b g k) r n ≤ 1000000 := mn_le b _ r n
theorem ix66 (k i : Nat) : (((6 : Int32) * nI (k + 1)) - (6 : Int32)) + nI i = nI (6 * k + i) := by
  rw [show (6 : Int32) = nI 6 from rfl, pk_mul, pk_sub (by omega), nI_add, show 6 * (k + 1) - 6 + i = 6 * k + i by omega]
/-- one cell of the table -/
theorem rcell (hI : Inv b) (hM : Mc (mnow z) b) {w : MS} {k r : Nat} (hk : k < 5) (hr : r < 6) (hD : De b g z w (6 * (k + 1) + r)) (k60 : MS → Int32 → Int32 → Int32 → Option (Int32 × MS)) (k70 : MS → Int32 → Int32 → Int32 → Int32 → Option (Int32 × MS)) (x1 x3 : Int32) (P : Int32 × MS → Prop) (hk7 : ∀ w', De b g z w' (6 * (k + 1) + r + 1) → ∃ v, k70 w' x1 x3 (nI (k + 1)) (nI (r + 1)) = some v ∧ P v) : ∃ v, it (X9_excuses_B84 k60 k70) (fun _ _ _ _ _ _ _ => none) FU w x1 x3 (nI (k + 1)) (nI r) 1000000 0 = some v ∧ P v := by
  obtain ⟨N, hN, hFU⟩ := FU_ex
  rw [hFU]
  refine it_rule (bot := fun _ _ _ _ _ _ _ => none) 6 (fun _ (_ : Unit) => True) (fun kk i _ => ∃ v, kk w x1 x3 (nI (k + 1)) (nI r) (nI (mnA b (dA b g k) r i)) (nI i) = some v ∧ P v) ?_ ?_ N 0 () (by omega) (by omega) trivial
  · intro kk _ _
    unfold X9_excuses_B84
    rw [if_pos (by decide), ix6', chk_nI (show 6 * (k + 1) + r < 36 by omega) (by decide), ltA_eq, nI_clamp (by omega), nI_1]
    obtain ⟨y, ey⟩ : ∃ y, y = M_set_dear w (upd (M_dear w) (6 * (k + 1) + r) (nI (mnA b (dA b g k) r 6))) := ⟨_, rfl⟩
    rw [← ey]
    exact hk7 y (hD.put hr rfl ey)
  · intro kk i _ hi _ hkk
    have hkk := hkk () trivial
    have hw := (hI.2.2.1 r i hr hi).1
    have b1 := mn_b b g k r i
    have b2 := dA_le b g k i
    have b3 := in_8 b i
    have fin : ∀ v : Nat, v < 2 ^ 31 → v = (if 0 < a_wd b r i then a_in b i + dA b g k i else 1000000) → ∃ u, X9_excuses_J137 k60 k70 kk w x1 x3 (nI (k + 1)) (nI r) (nI (mnA b (dA b g k) r i)) (nI i) (nI v) = some u ∧ P u := by
      intro v hv ev
      have em : mnA b (dA b g k) r (i + 1) = if mnA b (dA b g k) r i ≤ v then mnA b (dA b g k) r i else v := by rw [ev]; rfl
      rw [em] at hkk
      unfold X9_excuses_J137 X9_excuses_J153
      rw [nI_1]
      by_cases c : mnA b (dA b g k) r i ≤ v
      · rw [if_pos c] at hkk
        rw [if_pos (nI_le c hv)]; exact hkk
      · rw [if_neg c] at hkk
        rw [if_neg (nI_ge (by omega) (by omega))]; exact hkk
    unfold X9_excuses_B84
    rw [if_neg (show ¬ (6 : Int32) ≤ nI i from nlit (by decide) hi), ix6', chk_nI (show 6 * r + i < 36 by omega) (by decide), nI_clamp (show 6 * r + i < 2 ^ 31 by omega), hD.W hM hr hi]
    by_cases e : 0 < a_wd b r i
    · rw [if_neg (show ¬ nI (a_wd b r i) ≤ (0 : Int32) from nI_nle e (by omega)), cin_all hI (hD.now hM) hi, Option.bind_some, ix66, chk_nI (show 6 * k + i < 36 by omega) (by decide), nI_clamp (show 6 * k + i < 2 ^ 31 by omega), hD.at hi (by omega), nI_add]
      exact fin _ (by omega) (by rw [if_pos e])
    · rw [if_pos (show nI (a_wd b r i) ≤ (0 : Int32) from nI_le (b := 0) (by omega) (by decide))]
      exact fin 1000000 (by decide) (by rw [if_neg e])
/-- the table -/
theorem rtable (hI : Inv b) (hM : Mc (mnow z) b) {gu : Nat} (hgu : gu < 8) (hth : a_is b gu = true) (hg : g < 2 ^ 31) (x3 : Int32) (P : Int32 × MS → Prop) (hk : ∀ w, De b g z w 36 → ∃ v, it X9_excuses_B202 (fun _ _ _ _ _ => none) FU w x3 (nI (a_pl b gu)) 0 1 = some v ∧ P v) : ∃ v, it X9_excuses_B25 (fun _ _ _ _ _ => none) FU z (nI gu) (nI g) x3 0 = some v ∧ P v := by
  obtain ⟨N, hN, hFU⟩ := FU_ex
  · have l1 : ∀ w1, De b g z w1 6 → ∃ v, it X9_excuses_B60 (fun _ _ _ _ => none) FU w1 (nI gu) x3 1 = some v ∧ P v := by
      intro w1 hw1
      rw [hFU]
      refine it_rule (bot := fun _ _ _ _ => none) 5 (fun i (s : MS) => De b g z s (6 * (i + 1))) (fun kk i s => ∃ v, kk s (nI gu) x3 (nI (i + 1)) = some v ∧ P v) ?_ ?_ N 0 w1 (by omega) (by omega) hw1
      · intro kk s hs
        have ha : M_at s gu = nI (a_pl b gu) := ((hs.now hM).2.2.2.2.2.1 gu hgu hth).1
        unfold X9_excuses_B60
        rw [if_pos (by decide), chk_nI hgu (by decide), nI_clamp (by omega), ha]
        exact hk s hs
      · intro kk i s hi hs hkk
        unfold X9_excuses_B60
        rw [if_neg (show ¬ (6 : Int32) ≤ nI (i + 1) from nlit (b := 6) (by decide) (by omega)), hFU]
        refine it_rule (bot := fun _ _ _ _ _ => none) 6 (fun r (s : MS) => De b g z s (6 * (i + 1) + r)) (fun k7 r s => ∃ v, k7 s (nI gu) x3 (nI (i + 1)) (nI r) = some v ∧ P v) ?_ ?_ N 0 s (by omega) (by omega) hs
        · intro k7 s hs
          unfold X9_excuses_B70
          rw [if_pos (by decide), nI_1]
          exact hkk s hs
        · intro k7 r s hr hs hk7
          unfold X9_excuses_B70
          rw [if_neg (show ¬ (6 : Int32) ≤ nI r from nlit (by decide) hr)]
          exact rcell hI hM hi hr hs kk k7 (nI gu) x3 P (fun w' hw' => hk7 w' hw')
    rw [hFU]
    refine it_rule (bot := fun _ _ _ _ _ => none) 6 (fun i (s : MS) => De b g z s i) (fun kk i s => ∃ v, kk s (nI gu) (nI g) x3 (nI i) = some v ∧ P v) ?_ ?_ N 0 z (by omega) (by omega) ⟨rfl, rfl, fun j hj => absurd hj (Nat.not_lt_zero _)⟩
    · intro kk s hs
      unfold X9_excuses_B25
      rw [if_pos (by decide)]
      exact l1 s hs
    · intro kk i s hi hs hkk
      have go : ∀ x : Int32, x = nI (dA b g 0 i) → ∃ v, X9_excuses_J50 kk s (nI gu) (nI g) x3 (nI i) x (nI i) = some v ∧ P v := by
        intro x hx
        unfold X9_excuses_J50
        rw [chk_nI (show i < 36 by omega) (by decide), ltA_eq, nI_clamp (by omega), nI_1]
        obtain ⟨y, ey⟩ : ∃ y, y = M_set_dear s (upd (M_dear s) i x) := ⟨_, rfl⟩
        rw [← ey]
        refine hkk y ?_
        have h0 : 6 * 0 + i = i := by omega
        have := De.put (k := 0) (r := i) (w := s) (w' := y) (x := x) (by rw [h0]; exact hs) hi hx (by rw [h0]; exact ey)
        rw [h0] at this; exact this
      unfold X9_excuses_B25
      rw [if_neg (show ¬ (6 : Int32) ≤ nI i from nlit (by decide) hi)]
      by_cases c : i = g
      · rw [if_pos (by rw [c])]
        exact go 0 (by rw [show dA b g 0 i = 0 from if_pos c]; rfl)
      · rw [if_neg (fun q => c ((nI_eq (by omega) hg).mp q))]
        exact go 1000000 (by rw [show dA b g 0 i = 1000000 from if_neg c]; rfl)
end RE
