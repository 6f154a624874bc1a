/-- likes times things, of the first i sorts -/
def pt (f : Nat → Int32) (a : AS) (r : Nat) : Nat → Int32
  | 0 => 0
  | i + 1 => pt f a r i + f i * nI (a_th a r i)
/-- how many others are in a room -/
def oth (a : AS) (g r : Nat) : Nat := cnt (fun j => (a_is a j && a_pl a j == r) && !(j == g)) 8
/-- the DRAW of a room to a guest who likes so -/
def dr (f : Nat → Int32) (a : AS) (g r : Nat) : Int32 := pt f a r 4 + f 4 * nI (oth a g r)
def lkf (a : AS) (g : Nat) : Nat → Int32 := fun k => Int32.ofInt (a_lk a g k)
section DS
variable {a : AS} {h : HS} {z : MS}
theorem things_spec (hH : Hc h a) {g r : Nat} (hg : g < 8) (hr : r < 6) : f_X1_pullOfThings h (nI g) (nI r) = some (pt (lkf a g) a r 4) := by
  obtain ⟨N, hN, hFU⟩ := FU_ex
  unfold f_X1_pullOfThings
  rw [hFU]
  refine it_rule (bot := fun _ _ _ _ _ => none) 4 (fun i (x : Int32) => x = pt (lkf a g) a r i) (fun k i x => k h (nI g) (nI r) x (nI i) = some (pt (lkf a g) a r 4)) ?_ ?_ N 0 0 (by omega) (by omega) rfl
  · intro k x hx
    unfold X1_pullOfThings_B5
    rw [if_pos (by decide), hx]
  · intro k i x hi hx hk
    have e1 := hH.2.2.2.2.2.2.1 g i hg (by omega)
    have e2 := (hH.2.2.2.1 r hr).1 i hi
    unfold X1_pullOfThings_B5
    rw [if_neg (show ¬ (4 : Int32) ≤ nI i from nlit (by decide) hi), ix5, ix6, chk_nI (by omega) (by decide), chk_nI (by omega) (by decide), nI_clamp (by omega), nI_clamp (by omega), e1, e2, nI_1]
    exact hk _ (by rw [hx]; rfl)
theorem pull_spec (hI : Inv a) (hH : Hc h a) {g r : Nat} (hg : g < 8) (hr : r < 6) : f_X1_pull h (nI g) (nI r) = some (dr (lkf a g) a g r) := by
  have e1 := hH.2.2.2.2.2.2.1 g 4 hg (by omega)
  unfold f_X1_pull
  rw [things_spec hH hg hr, Option.bind_some, show (4 : Int32) = nI 4 from rfl, ix5, chk_nI (by omega) (by decide), others_spec hI hH hg (by omega), Option.bind_some, nI_clamp (by omega), e1]
  rfl
theorem drawOf_spec (hI : Inv a) (hM : Mc (mnow z) a) {g r : Nat} (hg : g < 8) (hi : a_is a g = true) (hr : r < 6) (x3 x4 : Int32) : f_X9_drawOf z (nI g) (nI r) x3 x4 = some (dr (fun k => if x3 = nI k then x4 else lkf a g k) a g r) := by
  obtain ⟨N, hN, hFU⟩ := FU_ex
  have hl : ∀ k, k < 5 → M_likes z (5 * g + k) = lkf a g k := (hM.2.2.2.2.2.1 g hg hi).2.2.2.2
  have hth : ∀ s, s < 4 → M_thingsNow z (4 * r + s) = nI (a_th a r s) := (hM.2.2.2.1 r hr).1
  have hc : f_X9_countIn z (nI r) (nI g) = some (nI (oth a g r)) := by
    rw [countIn_spec hI hM (by omega) (nI g)]
    unfold oth
    rw [cnt_congr (q := fun j => (a_is a j && a_pl a j == r) && !(j == g)) (fun j hj => by
      have : (decide (nI j = nI g)) = (j == g) := by
        rw [Bool.eq_iff_iff, decide_eq_true_eq, nI_eq (by omega) (by omega)]; simp
      rw [this])]
  have J : f_X9_drawOf z (nI g) (nI r) x3 x4 = X9_drawOf_J20 z (nI g) (nI r) x3 x4 ((fun k => if x3 = nI k then x4 else lkf a g k) 4) := by
    unfold f_X9_drawOf
    by_cases c : x3 = 4
    · rw [if_pos c]
      show _ = X9_drawOf_J20 z (nI g) (nI r) x3 x4 (if x3 = nI 4 then x4 else lkf a g 4)
      rw [if_pos (show x3 = nI 4 from c)]
    · rw [if_neg c, show (4 : Int32) = nI 4 from rfl, ix5', chk_nI (by omega) (by decide), nI_clamp (by omega), hl 4 (by decide)]
      show _ = X9_drawOf_J20 z (nI g) (nI r) x3 x4 (if x3 = nI 4 then x4 else lkf a g 4)
      rw [if_neg (show ¬ x3 = nI 4 from c)]
  rw [J]
  generalize hf : (fun k => if x3 = nI k then x4 else lkf a g k) = f
  unfold X9_drawOf_J20
  rw [hc, Option.bind_some, hFU]
  refine it_rule (bot := fun _ _ _ _ _ _ _ => none) 4 (fun i (x : Int32) => x = f 4 * nI (oth a g r) + pt f a r i) (fun k i x => k z (nI g) (nI r) x3 x4 x (nI i) = some (dr f a g r)) ?_ ?_ N 0 (f 4 * nI (oth a g r)) (by omega) (by omega) (by show _ = _ + 0; rw [Int32.add_zero])
  · intro k x hx
    unfold X9_drawOf_B32 dr
    rw [if_pos (by decide), hx, Int32.add_comm]
  · intro k i x hi hx hk
    have e : x + f i * nI (a_th a r i) = f 4 * nI (oth a g r) + pt f a r (i + 1) := by
      rw [hx]; show _ = _ + (pt f a r i + f i * nI (a_th a r i)); rw [Int32.add_assoc]
    have hfi : f i = if x3 = nI i then x4 else lkf a g i := by rw [← hf]
    unfold X9_drawOf_B32 X9_drawOf_J62
    rw [if_neg (show ¬ (4 : Int32) ≤ nI i from nlit (by decide) hi), ix4', ix5', chk_nI (by omega) (by decide), chk_nI (by omega) (by decide), chk_nI (by omega) (by decide), nI_clamp (by omega), nI_clamp (by omega), hth i hi, hl i (by omega), nI_1]
    by_cases c : x3 = nI i
    · rw [if_pos c]
      rw [if_pos c] at hfi
      rw [hfi] at e
      exact hk _ e
    · rw [if_neg c]
      rw [if_neg c] at hfi
      rw [← hfi]
      exact hk _ e
theorem none_lk (a : AS) (g : Nat) {r : Nat} : dr (fun k => if (-6 : Int32) = nI k then 0 else lkf a g k) a g r = dr (lkf a g) a g r := by
  have e : ∀ k, k < 5 → (if (-6 : Int32) = nI k then (0 : Int32) else lkf a g k) = lkf a g k := by
    intro k hk
    rw [if_neg]
    intro q
    have : ¬ nI k < 0 := nI_pos (by omega)
    rw [← q] at this
    exact this (by decide)
  unfold dr pt pt pt pt pt
  simp only []
  rw [e 0 (by decide), e 1 (by decide), e 2 (by decide), e 3 (by decide), e 4 (by decide)]
end DS
theorem sim_draw : Sim_draw Rel := by
  intro S z x1 x2 h
  obtain ⟨⟨a, hI, hH, hM⟩, h3⟩ := id h
  have hH : Hc (K_now S) a := hH
  have hM : Mc (mcore z) a := hM
  rcases th_cases hI hH hM x1 with ⟨g, hg, rfl, hg1, t1, t2⟩ | ⟨t1, t2⟩
  · rcases rm_cases hI hH hM x2 with ⟨r, hr, rfl, u1, u2⟩ | ⟨-, u1, u2⟩
    · obtain ⟨w, hw, hA, -⟩ := asNow_spec z
      have hr6 : r < 6 := by have := hI.1.2.1; omega
      refine ⟨dr (lkf a g) a g r + 1000, (dr (lkf a g) a g r + 1000, w), ?_, ?_, rfl, h.to rfl hA.1⟩
      · unfold f_X8_draw; rw [t1, Option.bind_some, if_neg (by decide), u1, Option.bind_some, if_neg (by decide), pull_spec hI hH hg hr6, Option.bind_some]
      · unfold f_X9_draw; rw [t2, Option.bind_some, if_neg (by decide), u2, Option.bind_some, if_neg (by decide), hw, Option.bind_some, drawOf_spec hI (asNow_Mc hM hA) hg hg1 hr6, Option.bind_some, none_lk]
    · refine ⟨-1, (-1, z), ?_, ?_, rfl, h⟩
      · unfold f_X8_draw; rw [t1, Option.bind_some, if_neg (by decide), u1, Option.bind_some, if_pos rfl]
      · unfold f_X9_draw; rw [t2, Option.bind_some, if_neg (by decide), u2, Option.bind_some, if_pos rfl]
  · refine ⟨-1, (-1, z), ?_, ?_, rfl, h⟩
    · unfold f_X8_draw; rw [t1, Option.bind_some, if_pos rfl]
    · unfold f_X9_draw; rw [t2, Option.bind_some, if_pos rfl]
/-- the best of the first i rooms, and its draw -/
def bst (d : Nat → Int32) (p : Nat) : Nat → Int32 × Int32
  | 0 => (nI p, d p)
  | i + 1 => if d i ≤ (bst d p i).2 then bst d p i else (nI i, d i)
theorem sim_best : Sim_best Rel := by
  intro S z x1 h
  obtain ⟨⟨a, hI, hH, hM⟩, h3⟩ := id h
  have hH : Hc (K_now S) a := hH
  have hM : Mc (mcore z) a := hM
  have hR6 := hI.1.2.1
  obtain ⟨N, hN, hFU⟩ := FU_ex
  rcases th_cases hI hH hM x1 with ⟨g, hg, rfl, hg1, t1, t2⟩ | ⟨t1, t2⟩
  · obtain ⟨w, hw, hA, -⟩ := asNow_spec z
    have hMw := asNow_Mc hM hA
    have hpl := (hI.2.2.2.2.2.1 g hg hg1).1
    have e1 : H_place (K_now S) g = nI (a_pl a g) := (hH.2.2.2.2.2.1 g hg).1
    have e2 : M_at w g = nI (a_pl a g) := (hMw.2.2.2.2.2.1 g hg hg1).1
    have er : M_rooms w = nI (a_R a) := hMw.1
    refine ⟨(bst (dr (lkf a g) a g) (a_pl a g) (a_R a)).1, ((bst (dr (lkf a g) a g) (a_pl a g) (a_R a)).1, w), ?_, ?_, rfl, h.to rfl hA.1⟩
    · unfold f_X8_best
      rw [t1, Option.bind_some, if_neg (by decide), chk_nI hg (by decide), nI_clamp (by omega), e1, pull_spec hI hH hg (by omega), Option.bind_some, hFU]
      refine it_rule (bot := fun _ _ _ _ _ => none) (a_R a) (fun i (x : Int32 × Int32) => x = bst (dr (lkf a g) a g) (a_pl a g) i) (fun k i x => k (K_now S) (nI g) x.1 x.2 (nI i) = some (bst (dr (lkf a g) a g) (a_pl a g) (a_R a)).1) ?_ ?_ N 0 (nI (a_pl a g), dr (lkf a g) a g (a_pl a g)) (by omega) (by omega) rfl
      · intro k x hx
        unfold X8_best_B36
        rw [hH.1, if_pos (nI_le (Nat.le_refl _) (by omega)), hx]
      · intro k i x hi hx hk
        unfold X8_best_B36 X8_best_J72
        rw [hH.1, if_neg (nI_ge hi (by omega)), pull_spec hI hH hg (by omega), Option.bind_some, nI_1]
        by_cases c : dr (lkf a g) a g i ≤ x.2
        · rw [if_pos c]
          refine hk x ?_
          rw [hx] at c ⊢
          show _ = if _ then _ else _
          rw [if_pos c]
        · rw [if_neg c]
          refine hk (nI i, dr (lkf a g) a g i) ?_
          rw [hx] at c
          show _ = if _ then _ else _
          rw [if_neg c]
    · unfold f_X9_best
      rw [t2, Option.bind_some, if_neg (by decide), hw, Option.bind_some, chk_nI hg (by decide), nI_clamp (by omega), e2, drawOf_spec hI hMw hg hg1 (by omega), Option.bind_some, none_lk, hFU]
      refine it_rule (bot := fun _ _ _ _ _ => none) (a_R a) (fun i (x : Int32 × Int32) => x = bst (dr (lkf a g) a g) (a_pl a g) i) (fun k i x => k w (nI g) x.1 x.2 (nI i) = some ((bst (dr (lkf a g) a g) (a_pl a g) (a_R a)).1, w)) ?_ ?_ N 0 (nI (a_pl a g), dr (lkf a g) a g (a_pl a g)) (by omega) (by omega) rfl
      · intro k x hx
        unfold X9_best_B34
        rw [er, if_pos (nI_le (Nat.le_refl _) (by omega)), hx]
      · intro k i x hi hx hk
        unfold X9_best_B34 X9_best_J67
        rw [er, if_neg (nI_ge hi (by omega)), drawOf_spec hI hMw hg hg1 (by omega), Option.bind_some, none_lk, nI_1]
        by_cases c : dr (lkf a g) a g i ≤ x.2
        · rw [if_pos c]
          refine hk x ?_
          rw [hx] at c ⊢
          show _ = if _ then _ else _
          rw [if_pos c]
        · rw [if_neg c]
          refine hk (nI i, dr (lkf a g) a g i) ?_
          rw [hx] at c
          show _ = if _ then _ else _
          rw [if_neg c]
  · refine ⟨-1, (-1, z), ?_, ?_, rfl, h⟩
    · unfold f_X8_best; rw [t1, Option.bind_some, if_pos rfl]
    · unfold f_X9_best; rw [t2, Option.bind_some, if_pos rfl]
