/-! tastes -/
def lkS (a : AS) (g s : Nat) (v : Int) : AS := a_setLk a (fun j k => if j = g ∧ k = s then v else a_lk a j k)
theorem lkS_lk (a : AS) (g s : Nat) (v : Int) (j k : Nat) : a_lk (lkS a g s v) j k = if j = g ∧ k = s then v else a_lk a j k := rfl
theorem lkS_th (a : AS) (g s : Nat) (v : Int) : a_th (lkS a g s v) = a_th a := rfl
theorem lkS_k (a : AS) (g s : Nat) (v : Int) : a_k (lkS a g s v) = a_k a := rfl
theorem Inv_lkS {a : AS} (hI : Inv a) {g s : Nat} (hi : a_is a g = true) {v : Int} (h1 : -3 ≤ v) (h2 : v ≤ 3) : Inv (lkS a g s v) := by
  obtain ⟨i1, i2, i3, i4, i5, i6, i7, i8, i9, i10, i11⟩ := id hI
  refine ⟨i1, i2, i3, i4, ?_, ?_, i7, i8, i9, i10, i11⟩
  · intro j hj e
    have e : a_is a j = false := e
    obtain ⟨q1, q2, q3⟩ := i5 j hj e
    refine ⟨q1, q2, fun k hk => ?_⟩
    rw [lkS_lk, if_neg (fun h => by rw [h.1, hi] at e; cases e)]; exact q3 k hk
  · intro j hj e
    obtain ⟨q1, q2, q3⟩ := i6 j hj e
    refine ⟨q1, q2, fun k hk => ?_⟩
    rw [lkS_lk]
    split
    · exact ⟨h1, h2⟩
    · exact q3 k hk
theorem Hc_lkS {h : HS} {a : AS} {g s : Nat} {v0 v : Int} {x : Int32} (hg : g < 8) (hs : s < 5) (hH : Hc h (lkS a g s v0)) (hx : x = Int32.ofInt v) : Hc (H_set_likes h (upd (H_likes h) (g * 5 + s) x)) (lkS a g s v) := by
  obtain ⟨b1, b2, b3, b4, b5, b6, b7, b8⟩ := hH
  refine ⟨b1, b2, b3, b4, b5, b6, fun j k hj hk => ?_, b8⟩
  show upd (H_likes h) (g * 5 + s) x (j * 5 + k) = _
  rw [lkS_lk]
  by_cases c : j = g ∧ k = s
  · rw [if_pos c, c.1, c.2, pk_us, hx]
  · rw [if_neg c, pk_un (by omega)]
    have := b7 j k hj hk
    rw [lkS_lk, if_neg c] at this
    exact this
theorem Hc_lkS0 {h : HS} {a : AS} {g s : Nat} (hH : Hc h a) : Hc h (lkS a g s (a_lk a g s)) := by
  obtain ⟨b1, b2, b3, b4, b5, b6, b7, b8⟩ := hH
  refine ⟨b1, b2, b3, b4, b5, b6, fun j k hj hk => ?_, b8⟩
  rw [lkS_lk]
  by_cases c : j = g ∧ k = s
  · rw [if_pos c, ← c.1, ← c.2]; exact b7 j k hj hk
  · rw [if_neg c]; exact b7 j k hj hk
/-- the sights fit a room -/
def shB (a : AS) (g t : Nat) : Bool := (List.range (a_k a)).all (fun k => !(a_sg a k == g) || a_sr a k == t)
theorem csh_spec {h : HS} {a : AS} (hI : Inv a) (hH : Hc h a) {g t : Nat} (hg : g < 8) (ht : t < 1000) : f_X1_sightsHold h (nI g) (nI t) = some (if shB a g t then 1 else 0) := by
  obtain ⟨N, hN, hFU⟩ := FU_ex
  have h6 := hI.1.2.2.2
  have hR6 := hI.1.2.1
  unfold f_X1_sightsHold
  rw [hFU]
  refine it_rule (bot := fun _ _ _ _ => none) (a_k a) (fun i (_ : Unit) => (List.range i).all (fun k => !(a_sg a k == g) || a_sr a k == t) = true) (fun k i _ => k h (nI g) (nI t) (nI i) = some (if shB a g t then 1 else 0)) ?_ ?_ N 0 () (by omega) (by omega) rfl
  · intro k _ hs
    have hs : shB a g t = true := hs
    unfold X1_sightsHold_B2
    rw [hH.2.2.1, if_pos (Int32.le_refl _), hs]; rfl
  · intro k i _ hi hs hk
    obtain ⟨e1, e2⟩ := hH.2.2.2.2.2.2.2 i hi
    obtain ⟨l1, l2⟩ := hI.2.2.2.2.2.2.2.2.2.2 i hi
    have es : ((List.range (i + 1)).all fun k => !(a_sg a k == g) || a_sr a k == t) = (!(a_sg a i == g) || a_sr a i == t) := by rw [List.range_succ, List.all_append, hs]; simp
    have hk' := hk ()
    rw [es] at hk'
    unfold X1_sightsHold_B2 X1_sightsHold_J32
    rw [hH.2.2.1, if_neg (nI_ge hi (by omega)), chk_nI (show i < 6 by omega) (by decide), chk_nI (show i < 6 by omega) (by decide), nI_clamp (by omega), e1, e2, nI_1]
    by_cases c1 : a_sg a i = g
    · rw [if_pos (by rw [c1])]
      by_cases c2 : a_sr a i = t
      · rw [if_pos (by rw [c2])]; exact hk' (by simp [c2])
      · rw [if_neg (fun h => c2 ((nI_eq (by omega) (by omega)).mp h))]
        have : shB a g t = false := by
          unfold shB
          rw [List.all_eq_false]
          exact ⟨i, List.mem_range.mpr hi, by simp [c1, c2]⟩
        rw [this]; rfl
    · rw [if_neg (fun h => c1 ((nI_eq (by omega) (by omega)).mp h))]; exact hk' (by simp [c1])
set_option maxRecDepth 100000 in
theorem b3_dec : ∀ i : Fin 9, nI i.val - (3 : Int32) = Int32.ofInt ((i.val : Int) - 3) ∧ (nI i.val - (3 : Int32)) + 3 = nI i.val ∧ (nI i.val - (3 : Int32)) + 1 = nI (i.val + 1) - 3 ∧ ((4 : Int32) ≤ nI i.val - 3 ↔ 7 ≤ i.val) := by decide +kernel
theorem b3 {i : Nat} (hi : i < 9) : nI i - (3 : Int32) = Int32.ofInt ((i : Int) - 3) ∧ (nI i - (3 : Int32)) + 3 = nI i ∧ (nI i - (3 : Int32)) + 1 = nI (i + 1) - 3 ∧ ((4 : Int32) ≤ nI i - 3 ↔ 7 ≤ i) := b3_dec ⟨i, hi⟩
/-- where one would go, liking so -/
def tgA (a : AS) (g s i : Nat) : Nat := toA (lkS a g s ((i : Int) - 3)) (fun _ _ => 0) lo0 g
theorem tgA_lt {a : AS} (hI : Inv a) {g s i : Nat} (hg : g < 8) (hi : a_is a g = true) : tgA a g s i < 6 := by
  have hpl := (hI.2.2.2.2.2.1 g hg hi).1
  have hR6 := hI.1.2.1
  unfold tgA
  by_cases c : toA (lkS a g s ((i : Int) - 3)) (fun _ _ => 0) lo0 g = a_pl (lkS a g s ((i : Int) - 3)) g
  · rw [c]; show a_pl a g < 6; omega
  · have := (toA_ok c).1
    have this : toA (lkS a g s ((i : Int) - 3)) (fun _ _ => 0) lo0 g < a_R a := this
    omega
theorem pt_congr {f f' : Nat → Int32} {a : AS} {r : Nat} : ∀ i, (∀ k, k < i → f k = f' k) → pt f a r i = pt f' a r i
  | 0, _ => rfl
  | i + 1, h => by show pt f a r i + f i * _ = pt f' a r i + f' i * _; rw [pt_congr i (fun k hk => h k (by omega)), h i (by omega)]
theorem tg_goal {w : MS} {a : AS} (hI : Inv a) (hM : Mx w a (fun _ _ => 0) lo0) {g s i : Nat} (hg : g < 8) (hi : a_is a g = true) (hs : s < 5) (hi7 : i < 9) : f_X9_goal w (nI g) (nI s) (nI i - 3) = some (nI (tgA a g s i)) := by
  rw [goal_spec hI (Lo0 a) (fun _ _ _ _ => by decide) hM hg hi]
  unfold tgA toA
  have e : ∀ r, dr (fun k => if nI s = nI k then nI i - 3 else lkf a g k) a g r = dr (lkf (lkS a g s ((i : Int) - 3)) g) (lkS a g s ((i : Int) - 3)) g r := by
    intro r
    have q : ∀ k, k < 5 → (if nI s = nI k then nI i - 3 else lkf a g k) = lkf (lkS a g s ((i : Int) - 3)) g k := by
      intro k hk
      show _ = Int32.ofInt (a_lk (lkS a g s ((i : Int) - 3)) g k)
      rw [lkS_lk]
      by_cases c : k = s
      · rw [if_pos (by rw [c]), if_pos ⟨rfl, c⟩]; exact (b3 hi7).1
      · rw [if_neg (fun h => c ((nI_eq (by omega) (by omega)).mp h).symm), if_neg (fun h => c h.2)]; rfl
    unfold dr
    rw [pt_congr 4 (fun k hk => q k (by omega)), show ((fun k => if nI s = nI k then nI i - 3 else lkf a g k) 4) = lkf (lkS a g s ((i : Int) - 3)) g 4 from q 4 (by decide)]
    rw [pt_th (lkS_th a g s ((i : Int) - 3)).symm]
    rfl
  rw [gA_congr e]
  rfl
theorem ctastes_spec {h : HS} {a : AS} (hI : Inv a) (hH : Hc h a) {g s : Nat} (hg : g < 8) (hi : a_is a g = true) (hs : s < 5) {d : DS} (hD : Hc (D_house d) a) : ∃ d', it X8_tastes_B41 (fun _ _ _ _ _ _ => none) FU h d (nI g) (nI s) 0 0 = some (nI (msk (fun i => shB a g (tgA a g s i)) 7), d') := by
  obtain ⟨N, hN, hFU⟩ := FU_ex
  rw [hFU]
  refine it_rule (bot := fun _ _ _ _ _ _ => none) 7 (fun _ (t : DS) => ∃ v0, Hc (D_house t) (lkS a g s v0)) (fun k i t => ∃ d', k h t (nI g) (nI s) (nI (msk (fun i => shB a g (tgA a g s i)) i)) (nI i) = some (nI (msk (fun i => shB a g (tgA a g s i)) 7), d')) ?_ ?_ N 0 d (by omega) (by omega) ⟨_, Hc_lkS0 hD⟩
  · intro k t _
    exact ⟨t, by unfold X8_tastes_B41; rw [if_pos (by decide)]⟩
  · intro k i t hi7 ⟨v0, ht⟩ hk
    have h1 := Hc_lkS hg hs ht (b3 (i := i) (by omega)).1
    have hIv : Inv (lkS a g s ((i : Int) - 3)) := Inv_lkS hI hi (by omega) (by omega)
    obtain ⟨d1, r1, r2⟩ := ready_spec (d := D_set_house t (H_set_likes (D_house t) (upd (H_likes (D_house t)) (g * 5 + s) (nI i - 3)))) hIv h1
    have htg : f_X0_target d1 (nI g) = some (nI (tgA a g s i)) := target_spec hIv (Lo0 _) (fun _ _ _ _ => by decide) r2 hg hi
    have hk' := hk d1 ⟨_, r2.1⟩
    unfold X8_tastes_B41 X8_tastes_J101
    rw [if_neg (show ¬ (6 : Int32) < nI i from nI_nlt (a := 6) (by omega) (by omega)), ix5, chk_nI (by omega) (by decide), nI_clamp (by omega), ltA_eq, r1, Option.bind_some, htg, Option.bind_some, csh_spec hI hH hg (by have := tgA_lt hI (s := s) (i := i) hg hi; omega), Option.bind_some, nI_1, b10, or_bit (by omega) (msk_lt _ i)]
    have em : msk (fun i => shB a g (tgA a g s i)) (i + 1) = msk (fun i => shB a g (tgA a g s i)) i + (if shB a g (tgA a g s i) then 2 ^ i else 0) := rfl
    rw [em] at hk'
    cases e : shB a g (tgA a g s i)
    · rw [e] at hk'; exact hk'
    · rw [e] at hk'; exact hk'
theorem rtin_spec {k36 : MS → Int32 → Int32 → Int32 → Int32 → Option (Int32 × MS)} {w : MS} {a : AS} (hI : Inv a) (hM : Mx w a (fun _ _ => 0) lo0) {g s i : Nat} (hg : g < 8) (hi : a_is a g = true) (hs : s < 5) (hi7 : i < 7) (x : Int32) : it (X9_tastes_B48 k36) (fun _ _ _ _ _ _ _ => none) FU w (nI g) (nI s) x (nI i - 3) 1 0 = k36 w (nI g) (nI s) (if shB a g (tgA a g s i) then x ||| ((1 : Int32) <<< (nI i &&& 31)) else x) (nI (i + 1) - 3) := by
  obtain ⟨N, hN, hFU⟩ := FU_ex
  have h6 := hI.1.2.2.2
  have hR6 := hI.1.2.1
  have hk6 : M_sights w = nI (a_k a) := hM.1.2.2.1
  have hsi : ∀ k, k < a_k a → M_sight w (2 * k) = nI (a_sg a k) ∧ M_sight w (2 * k + 1) = nI (a_sr a k) := hM.1.2.2.2.2.2.2
  have ht6 := tgA_lt hI (s := s) (i := i) hg hi
  obtain ⟨-, e3, e4, -⟩ := b3 (i := i) (by omega)
  rw [hFU]
  refine it_rule (bot := fun _ _ _ _ _ _ _ => none) (a_k a) (fun j (v : Bool) => v = (List.range j).all (fun k => !(a_sg a k == g) || a_sr a k == tgA a g s i)) (fun k j v => k w (nI g) (nI s) x (nI i - 3) (if v then 1 else 0) (nI j) = k36 w (nI g) (nI s) (if shB a g (tgA a g s i) then x ||| ((1 : Int32) <<< (nI i &&& 31)) else x) (nI (i + 1) - 3)) ?_ ?_ N 0 true (by omega) (by omega) rfl
  · intro k v hv
    have hv : v = shB a g (tgA a g s i) := hv
    unfold X9_tastes_B48 X9_tastes_J126
    rw [hk6, if_pos (Int32.le_refl _), b10, hv, e3, e4]
    cases shB a g (tgA a g s i)
    · show k36 w (nI g) (nI s) (x ||| 0) (nI (i + 1) - 3) = _
      rw [Int32.or_zero]; rfl
    · rfl
  · intro k j v hj hv hk
    obtain ⟨s1, s2⟩ := hsi j hj
    obtain ⟨l1, l2⟩ := hI.2.2.2.2.2.2.2.2.2.2 j hj
    have es : ((List.range (j + 1)).all fun k => !(a_sg a k == g) || a_sr a k == tgA a g s i) = (v && (!(a_sg a j == g) || a_sr a j == tgA a g s i)) := by rw [List.range_succ, List.all_append, ← hv]; simp
    have hk' := hk _ rfl
    rw [es] at hk'
    unfold X9_tastes_B48 X9_tastes_J101 X9_tastes_J97 X9_tastes_J102
    rw [hk6, if_neg (nI_ge hj (by omega)), show (2 : Int32) * nI j = nI (2 * j) from pk_mul 2 j, nI_1, nI_1, b10]
    cases v
    · exact hk'
    · simp only [if_true, Bool.true_and] at hk' ⊢
      rw [chk_nI (by omega) (by decide), nI_clamp (by omega), s1, tg_goal hI hM hg hi hs (by omega), Option.bind_some, chk_nI (by omega) (by decide), nI_clamp (by omega), s2]
      by_cases c1 : a_sg a j = g
      · rw [if_pos (by rw [c1])]
        by_cases c2 : a_sr a j = tgA a g s i
        · rw [if_pos (by rw [c2])]
          rw [show (!(a_sg a j == g) || a_sr a j == tgA a g s i) = true by simp [c2]] at hk'
          exact hk'
        · rw [if_neg (fun h => c2 ((nI_eq (by omega) (by omega)).mp h).symm)]
          rw [show (!(a_sg a j == g) || a_sr a j == tgA a g s i) = false by simp [c1, c2]] at hk'
          exact hk'
      · rw [if_neg (fun h => c1 ((nI_eq (by omega) (by omega)).mp h))]
        rw [show (!(a_sg a j == g) || a_sr a j == tgA a g s i) = true by simp [c1]] at hk'
        exact hk'
theorem rtastes_spec {w : MS} {a : AS} (hI : Inv a) (hM : Mx w a (fun _ _ => 0) lo0) {g s : Nat} (hg : g < 8) (hi : a_is a g = true) (hs : s < 5) : it X9_tastes_B36 (fun _ _ _ _ _ => none) FU w (nI g) (nI s) 0 (-3) = some (nI (msk (fun i => shB a g (tgA a g s i)) 7), w) := by
  obtain ⟨N, hN, hFU⟩ := FU_ex
  rw [hFU]
  suffices G : it X9_tastes_B36 (fun _ _ _ _ _ => none) N w (nI g) (nI s) (nI (msk (fun i => shB a g (tgA a g s i)) 0)) (nI 0 - 3) = some (nI (msk (fun i => shB a g (tgA a g s i)) 7), w) from G
  refine it_rule (bot := fun _ _ _ _ _ => none) 7 (fun _ (_ : Unit) => True) (fun k i _ => k w (nI g) (nI s) (nI (msk (fun i => shB a g (tgA a g s i)) i)) (nI i - 3) = some (nI (msk (fun i => shB a g (tgA a g s i)) 7), w)) ?_ ?_ N 0 () (by omega) (by omega) trivial
  · intro k _ _
    unfold X9_tastes_B36
    rw [if_pos ((b3 (i := 7) (by decide)).2.2.2.mpr (by decide))]
  · intro k i _ hi7 _ hk
    have hk' := hk () trivial
    unfold X9_tastes_B36
    rw [if_neg (fun h => by have := (b3 (i := i) (by omega)).2.2.2.mp h; omega), rtin_spec hI hM hg hi hs hi7, or_bit (by omega) (msk_lt _ i)]
    have em : msk (fun i => shB a g (tgA a g s i)) (i + 1) = msk (fun i => shB a g (tgA a g s i)) i + (if shB a g (tgA a g s i) then 2 ^ i else 0) := rfl
    rw [em] at hk'
    cases e : shB a g (tgA a g s i)
    · rw [e] at hk'; exact hk'
    · rw [e] at hk'; exact hk'
theorem sim_tastes : Sim_tastes Rel := by
  intro S z x1 x2 h
  obtain ⟨⟨a, hI, hH, hM⟩, h3⟩ := id h
  have hH : Hc (K_now S) a := hH
  have hM : Mc (mcore z) a := hM
  rcases th_cases hI hH hM x1 with ⟨g, hg, rfl, hg1, t1, t2⟩ | ⟨t1, t2⟩
  · rcases num_cases x2 (n := 5) (by decide) with ⟨s, hs, rfl⟩ | hx
    · obtain ⟨w, e1, e2, e3⟩ := asNow_Mx hM
      obtain ⟨w', s1, s2, s3⟩ := Mx_shut e3
      obtain ⟨d', b1, b2⟩ := begin_spec (d := K_drift S) hI hH
      obtain ⟨d2, c1⟩ := ctastes_spec hI hH hg hg1 hs b2.1
      refine ⟨(nI (msk (fun i => shB a g (tgA a g s i)) 7), d2), (nI (msk (fun i => shB a g (tgA a g s i)) 7), w'), ?_, ?_, rfl, h.to rfl (s2.trans e2)⟩
      · unfold f_X8_tastes
        rw [t1, Option.bind_some, if_neg (show ¬ (1 : Int32) = 0 by decide), if_neg (nI_pos (by omega)), if_pos (show nI s < (5 : Int32) from nI_lt hs (by decide)), b1, Option.bind_some]
        exact c1
      · unfold f_X9_tastes
        rw [t2, Option.bind_some, if_neg (show ¬ (1 : Int32) = 0 by decide), show f_X9_in (nI s) 0 4 = some 1 from in_nI (n := 5) hs (by decide), Option.bind_some, if_neg (show ¬ (1 : Int32) = 0 by decide), e1, Option.bind_some, s1, Option.bind_some]
        exact rtastes_spec hI s3 hg hg1 hs
    · refine ⟨(-2, K_drift S), (-2, z), ?_, ?_, rfl, h⟩
      · unfold f_X8_tastes
        rw [t1, Option.bind_some, if_neg (show ¬ (1 : Int32) = 0 by decide)]
        by_cases c : x2 < 0
        · rw [if_pos c]
        · rw [if_neg c, if_neg (show ¬ x2 < (5 : Int32) from Int32.not_lt.mpr (hx.resolve_left c))]
      · unfold f_X9_tastes
        rw [t2, Option.bind_some, if_neg (show ¬ (1 : Int32) = 0 by decide), show f_X9_in x2 0 4 = some 0 from in_no (n := 5) (by decide) (by decide) hx, Option.bind_some, if_pos rfl]
  · refine ⟨(-1, K_drift S), (-1, z), ?_, ?_, rfl, h⟩
    · unfold f_X8_tastes; rw [t1, Option.bind_some, if_pos rfl]
    · unfold f_X9_tastes; rw [t2, Option.bind_some, if_pos rfl]
