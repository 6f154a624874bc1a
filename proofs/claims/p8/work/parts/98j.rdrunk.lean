/-! the reference's walk -/
theorem sc_chances {z z' : MS} {f : Nat → Int64} (h : z' = M_set_chances z f) : mkeep z' = mkeep z ∧ M_chances z' = f ∧ M_then z' = M_then z := by subst h; exact ⟨kp_chances z f, rfl, rfl⟩
theorem sc_then {z z' : MS} {f : Nat → Int64} (h : z' = M_set_then z f) : mkeep z' = mkeep z ∧ M_chances z' = M_chances z ∧ M_then z' = f := by subst h; exact ⟨kp_then z f, rfl, rfl⟩
/-- the reference's rows of chances -/
def Dk (w z : MS) (ch th : Nat → Nat) : Prop := mkeep w = mkeep z ∧ (∀ r, r < 6 → M_chances w r = nL (ch r)) ∧ (∀ r, r < 6 → M_then w r = nL (th r))
theorem kp_R {w z : MS} {b : AS} (h : mkeep w = mkeep z) (hM : Mc (mcore z) b) : M_rooms w = nI (a_R b) := (congrArg (fun m => m.1.1) h : M_rooms w = M_rooms z).trans hM.1
theorem kp_W {w z : MS} {b : AS} (h : mkeep w = mkeep z) (hM : Mc (mcore z) b) {r q : Nat} (hr : r < 6) (hq : q < 6) : M_width w (6 * r + q) = nI (a_wd b r q) := (congrFun (congrArg (fun m => m.1.2.2.2.2.1) h : M_width w = M_width z) (6 * r + q)).trans (hM.2.2.2.2.1 r q hr hq)
theorem kp_P {w z : MS} {b : AS} (h : mkeep w = mkeep z) (hM : Mc (mcore z) b) {g : Nat} (hg : g < 8) (ht : a_is b g = true) : M_place w g = nI (a_pl b g) := (congrFun (congrArg (fun m => m.1.2.2.2.2.2.2.2.1) h : M_place w = M_place z) g).trans (hM.2.2.2.2.2.1 g hg ht).1
section RW
variable {b : AS} {z : MS}
theorem rspread (hI : Inv b) (hM : Mc (mcore z) b) {q c : Nat} (hq : q < a_R b) (hc : c ≤ 10) {w : MS} {ch th : Nat → Nat} (hD : Dk w z ch th) (k100 : MS → Int32 → Int32 → Int32 → Int32 → Int64 → Int32 → Option (Int64 × MS)) (k134 : MS → Int32 → Int32 → Int32 → Int32 → Int64 → Int32 → Int32 → Option (Int64 × MS)) (x2 x4 x5 : Int32) (x6 : Int64) (x8 : Int32) (P : Int64 × MS → Prop) (hk : ∀ w', Dk w' z ch (fun r => th r + cbA b c ch q r) → ∃ v, k134 w' x2 (nI c) x4 x5 x6 x8 (nI (q + 1)) = some v ∧ P v) : ∃ v, it (X9_drunk_B149 k100 k134) (fun _ _ _ _ _ _ _ _ _ _ => none) FU w x2 (nI c) x4 x5 x6 x8 (nI q) 0 0 = some v ∧ P v := by
  have hR := hI.1.2.1
  have hq6 : q < 6 := by omega
  have hdz := dz_le b q (a_R b)
  obtain ⟨N, hN, hFU⟩ := FU_ex
  obtain ⟨D, eD⟩ : ∃ D, D = dzA b q (a_R b) := ⟨_, rfl⟩
  -- what the doors give
  have lp : ∀ w1, Dk w1 z ch (fun r => th r + cbI b c ch q 0 r) → ∃ v, it (X9_drunk_B227 k100 k134) (fun _ _ _ _ _ _ _ _ _ _ => none) FU w1 x2 (nI c) x4 x5 x6 x8 (nI q) (nI D) 0 = some v ∧ P v := by
    intro w1 hw1
    rw [hFU]
    refine it_rule (bot := fun _ _ _ _ _ _ _ _ _ _ => none) (a_R b) (fun i (s : MS) => Dk s z ch (fun r => th r + cbI b c ch q i r)) (fun k i s => ∃ v, k s x2 (nI c) x4 x5 x6 x8 (nI q) (nI D) (nI i) = some v ∧ P v) ?_ ?_ N 0 w1 (by omega) (by omega) hw1
    · intro k s hs
      unfold X9_drunk_B227
      rw [kp_R hs.1 hM, if_pos (Int32.le_refl _), nI_1]
      exact hk s hs
    · intro k i s hi hs hkk
      have hi6 : i < 6 := by omega
      have hw := (hI.2.2.1 q i hq6 hi6).1
      have hs2 : ∀ r, r < 6 → M_then s r = nL (th r + cbI b c ch q i r) := hs.2.2
      unfold X9_drunk_B227 X9_drunk_J283
      rw [kp_R hs.1 hM, if_neg (nI_ge hi (by omega)), chk_nI hi6 (by decide), ix6', chk_nI (show 6 * q + i < 36 by omega) (by decide), nI_clamp (show 6 * q + i < 2 ^ 31 by omega), kp_W hs.1 hM hq6 hi6, nI_clamp (show i < 2 ^ 31 by omega), nI_clamp (show q < 2 ^ 31 by omega), hs.2.1 q hq6, hs2 i hi6]
      by_cases e : 0 < a_wd b q i
      · have dn : dzA b q (a_R b) ≠ 0 := fun g => dz_no _ g i hi e
        rw [if_neg (show ¬ nI (a_wd b q i) ≤ (0 : Int32) from nI_nle e (by omega)), chk_nI hq6 (by decide), nz_ok (nI_ne0 (by omega) (by omega) : ¬ nI D = 0), chk_nI hi6 (by decide), ltA_eq, nI_1, r60 (show D < 7 by omega) hc (show D ≠ 0 by omega)]
        obtain ⟨y, ey⟩ : ∃ y, y = M_set_then s (vp_updL (M_then s) i (nL (th i + cbI b c ch q i i) + nL (ch q) * nL (60 * (10 - c) / D))) := ⟨_, rfl⟩
        obtain ⟨s1, s2, s3⟩ := sc_then ey
        rw [← ey]
        refine hkk y ⟨s1.trans hs.1, fun r hr => by rw [s2]; exact hs.2.1 r hr, fun r hr => ?_⟩
        show M_then y r = nL (th r + cbI b c ch q (i + 1) r)
        rw [s3]
        by_cases f : r = i
        · subst f
          rw [pk_uLs, cb_yes e, nL_mul, nL_add, Nat.add_assoc]
          unfold thr
          rw [← eD]
        · rw [pk_uLn f, hs2 r hr, cb_one f]
      · rw [if_pos (show nI (a_wd b q i) ≤ (0 : Int32) from nI_le (b := 0) (by omega) (by decide)), chk_nI hi6 (by decide), ltA_eq, nI_1]
        obtain ⟨y, ey⟩ : ∃ y, y = M_set_then s (vp_updL (M_then s) i (nL (th i + cbI b c ch q i i) + 0)) := ⟨_, rfl⟩
        obtain ⟨s1, s2, s3⟩ := sc_then ey
        rw [← ey]
        refine hkk y ⟨s1.trans hs.1, fun r hr => by rw [s2]; exact hs.2.1 r hr, fun r hr => ?_⟩
        show M_then y r = nL (th r + cbI b c ch q (i + 1) r)
        rw [s3]
        by_cases f : r = i
        · subst f
          rw [pk_uLs, cb_no e, show (0 : Int64) = nL 0 from rfl, nL_add, Nat.add_zero]
        · rw [pk_uLn f, hs2 r hr, cb_one f]
  rw [hFU]
  refine it_rule (bot := fun _ _ _ _ _ _ _ _ _ _ => none) (a_R b) (fun i (_ : Unit) => True) (fun k i _ => ∃ v, k w x2 (nI c) x4 x5 x6 x8 (nI q) (nI (dzA b q i)) (nI i) = some v ∧ P v) ?_ ?_ N 0 () (by omega) (by omega) trivial
  · intro k _ _
    have fin : ∀ (s0 : Int32), s0.toInt64 = nL (sty b c q) → ∃ v, X9_drunk_J220 k100 k134 w x2 (nI c) x4 x5 x6 x8 (nI q) (nI D) s0 (nL (ch q)) (nL (th q)) (nI q) = some v ∧ P v := by
      intro s0 h0
      unfold X9_drunk_J220
      rw [chk_nI hq6 (by decide), ltA_eq, nI_clamp (show q < 2 ^ 31 by omega), h0]
      obtain ⟨y, ey⟩ : ∃ y, y = M_set_then w (vp_updL (M_then w) q (nL (th q) + nL (ch q) * nL (sty b c q))) := ⟨_, rfl⟩
      obtain ⟨s1, s2, s3⟩ := sc_then ey
      rw [← ey]
      refine lp y ⟨s1.trans hD.1, fun r hr => by rw [s2]; exact hD.2.1 r hr, fun r hr => ?_⟩
      show M_then y r = nL (th r + cbI b c ch q 0 r)
      rw [s3]
      by_cases f : r = q
      · subst f
        rw [pk_uLs, cb_0q, nL_mul, nL_add]
      · rw [pk_uLn f, hD.2.2 r hr, cb_0n f]; rfl
    unfold X9_drunk_B149
    rw [kp_R hD.1 hM, if_pos (Int32.le_refl _), chk_nI hq6 (by decide), chk_nI hq6 (by decide), nI_clamp (show q < 2 ^ 31 by omega), hD.2.1 q hq6, hD.2.2 q hq6, ← eD]
    by_cases d : D = 0
    · rw [if_pos (show nI D = 0 by rw [d]; rfl)]
      refine fin 600 ?_
      unfold sty
      rw [if_pos (eD ▸ d)]; rfl
    · rw [if_neg (show ¬ nI D = 0 from fun g => d ((nI_eq (by omega) (b := 0) (by decide)).mp g))]
      refine fin _ ?_
      unfold sty
      rw [if_neg (eD ▸ d)]
      exact m60 hc
  · intro k i _ hi _ hkk
    have hi6 : i < 6 := by omega
    have hw := (hI.2.2.1 q i hq6 hi6).1
    have hkk := hkk () trivial
    have hkk : ∃ v, k w x2 (nI c) x4 x5 x6 x8 (nI q) (nI (dzA b q i + (if 0 < a_wd b q i then 1 else 0))) (nI (i + 1)) = some v ∧ P v := hkk
    unfold X9_drunk_B149 X9_drunk_J181
    rw [kp_R hD.1 hM, if_neg (nI_ge hi (by omega)), ix6', chk_nI (show 6 * q + i < 36 by omega) (by decide), nI_clamp (show 6 * q + i < 2 ^ 31 by omega), kp_W hD.1 hM hq6 hi6, nI_1]
    by_cases e : 0 < a_wd b q i
    · rw [if_pos e] at hkk
      rw [if_neg (show ¬ nI (a_wd b q i) ≤ (0 : Int32) from nI_nle e (by omega)), nI_1]
      exact hkk
    · rw [if_neg e] at hkk
      rw [if_pos (show nI (a_wd b q i) ≤ (0 : Int32) from nI_le (b := 0) (by omega) (by decide)), show nI (dzA b q i) + 0 = nI (dzA b q i + 0) from nI_add _ 0]
      exact hkk
/-- one minute -/
theorem rmin (hI : Inv b) (hM : Mc (mcore z) b) {c : Nat} (hc : c ≤ 10) {w : MS} {ch th : Nat → Nat} (hD : Dk w z ch th) (k100 : MS → Int32 → Int32 → Int32 → Int32 → Int64 → Int32 → Option (Int64 × MS)) (x2 x4 x5 : Int32) (x6 : Int64) (x8 : Int32) (P : Int64 × MS → Prop) (hk : ∀ w' th', Dk w' z (nxA b c ch (a_R b)) th' → ∃ v, k100 w' x2 (nI c) x4 x5 (x6 * 600) (x8 + 1) = some v ∧ P v) : ∃ v, it (X9_drunk_B110 k100) (fun _ _ _ _ _ _ _ _ => none) FU w x2 (nI c) x4 x5 x6 x8 0 = some v ∧ P v := by
  have hR := hI.1.2.1
  obtain ⟨N, hN, hFU⟩ := FU_ex
  -- the last loop: then becomes chances
  have l3 : ∀ w1, Dk w1 z ch (nxA b c ch (a_R b)) → ∃ v, it (X9_drunk_B300 k100) (fun _ _ _ _ _ _ _ _ => none) FU w1 x2 (nI c) x4 x5 x6 x8 0 = some v ∧ P v := by
    intro w1 hw1
    rw [hFU]
    refine it_rule (bot := fun _ _ _ _ _ _ _ _ => none) 6 (fun i (s : MS) => mkeep s = mkeep z ∧ (∀ r, r < i → M_chances s r = nL (nxA b c ch (a_R b) r)) ∧ ∀ r, r < 6 → M_then s r = nL (nxA b c ch (a_R b) r)) (fun k i s => ∃ v, k s x2 (nI c) x4 x5 x6 x8 (nI i) = some v ∧ P v) ?_ ?_ N 0 w1 (by omega) (by omega) ⟨hw1.1, fun r hr => absurd hr (Nat.not_lt_zero _), hw1.2.2⟩
    · intro k s hs
      unfold X9_drunk_B300
      rw [if_pos (by decide)]
      exact hk s _ hs
    · intro k i s hi hs hkk
      unfold X9_drunk_B300
      rw [if_neg (show ¬ (6 : Int32) ≤ nI i from nlit (by decide) hi), chk_nI hi (by decide), chk_nI hi (by decide), ltA_eq, nI_clamp (by omega), hs.2.2 i hi, nI_1]
      obtain ⟨y, ey⟩ : ∃ y, y = M_set_chances s (vp_updL (M_chances s) i (nL (nxA b c ch (a_R b) i))) := ⟨_, rfl⟩
      obtain ⟨s1, s2, s3⟩ := sc_chances ey
      rw [← ey]
      refine hkk y ⟨s1.trans hs.1, fun r hr => ?_, fun r hr => by rw [s3]; exact hs.2.2 r hr⟩
      rw [s2]
      by_cases f : r = i
      · rw [f, pk_uLs]
      · rw [pk_uLn f]; exact hs.2.1 r (by omega)
  have l2 : ∀ w1, Dk w1 z ch (nxA b c ch 0) → ∃ v, it (X9_drunk_B134 k100) (fun _ _ _ _ _ _ _ _ => none) FU w1 x2 (nI c) x4 x5 x6 x8 0 = some v ∧ P v := by
    intro w1 hw1
    rw [hFU]
    refine it_rule (bot := fun _ _ _ _ _ _ _ _ => none) (a_R b) (fun i (s : MS) => Dk s z ch (nxA b c ch i)) (fun k i s => ∃ v, k s x2 (nI c) x4 x5 x6 x8 (nI i) = some v ∧ P v) ?_ ?_ N 0 w1 (by omega) (by omega) hw1
    · intro k s hs
      unfold X9_drunk_B134
      rw [kp_R hs.1 hM, if_pos (Int32.le_refl _)]
      exact l3 s hs
    · intro k i s hi hs hkk
      unfold X9_drunk_B134
      rw [kp_R hs.1 hM, if_neg (nI_ge hi (by omega))]
      exact rspread hI hM hi hc hs k100 k x2 x4 x5 x6 x8 P (fun w' hw' => hkk w' hw')
  rw [hFU]
  refine it_rule (bot := fun _ _ _ _ _ _ _ _ => none) 6 (fun i (s : MS) => mkeep s = mkeep z ∧ (∀ r, r < 6 → M_chances s r = nL (ch r)) ∧ ∀ r, r < i → M_then s r = nL 0) (fun k i s => ∃ v, k s x2 (nI c) x4 x5 x6 x8 (nI i) = some v ∧ P v) ?_ ?_ N 0 w (by omega) (by omega) ⟨hD.1, hD.2.1, fun r hr => absurd hr (Nat.not_lt_zero _)⟩
  · intro k s hs
    unfold X9_drunk_B110
    rw [if_pos (by decide)]
    exact l2 s hs
  · intro k i s hi hs hkk
    unfold X9_drunk_B110
    rw [if_neg (show ¬ (6 : Int32) ≤ nI i from nlit (by decide) hi), chk_nI hi (by decide), ltA_eq, nI_clamp (by omega), nI_1]
    obtain ⟨y, ey⟩ : ∃ y, y = M_set_then s (vp_updL (M_then s) i 0) := ⟨_, rfl⟩
    obtain ⟨s1, s2, s3⟩ := sc_then ey
    rw [← ey]
    refine hkk y ⟨s1.trans hs.1, fun r hr => by rw [s2]; exact hs.2.1 r hr, fun r hr => ?_⟩
    rw [s3]
    by_cases f : r = i
    · rw [f, pk_uLs]; rfl
    · rw [pk_uLn f]; exact hs.2.2 r (by omega)
/-- all minutes, and the end -/
theorem rwalk (hI : Inv b) (hM : Mc (mcore z) b) {g c m r : Nat} (hg : g < 8) (hth : a_is b g = true) (hc : c ≤ 10) (hm : m ≤ 6) (hr : r < 6) (x5 : Int32) (P : Int64 × MS → Prop) (hk : ∀ w, mkeep w = mkeep z → M_chances w r = nL (chA b g c m r) → ∃ v, it X9_drunk_B353 (fun _ _ _ _ _ _ => none) FU w (nI r) x5 (nL (600 ^ m)) (nL (chA b g c m r)) (nL (600 ^ m)) = some v ∧ P v) : ∃ v, it X9_drunk_B58 (fun _ _ _ _ _ _ _ => none) FU z (nI g) (nI r) (nI c) (nI m) x5 0 = some v ∧ P v := by
  have hR := hI.1.2.1
  have hp := (hI.2.2.2.2.2.1 g hg hth).1
  obtain ⟨N, hN, hFU⟩ := FU_ex
  have l1 : ∀ w1 th, Dk w1 z (chA b g c 0) th → ∃ v, it X9_drunk_B100 (fun _ _ _ _ _ _ _ => none) FU w1 (nI r) (nI c) (nI m) x5 1 0 = some v ∧ P v := by
    intro w1 th hw1
    rw [hFU]
    refine it_rule (bot := fun _ _ _ _ _ _ _ => none) m (fun i (s : MS) => ∃ th, Dk s z (chA b g c i) th) (fun k i s => ∃ v, k s (nI r) (nI c) (nI m) x5 (nL (600 ^ i)) (nI i) = some v ∧ P v) ?_ ?_ N 0 w1 (by omega) (by omega) ⟨th, hw1⟩
    · intro k s ⟨th, hs⟩
      unfold X9_drunk_B100
      rw [if_pos (Int32.le_refl _), chk_nI hr (by decide), nI_clamp (by omega), hs.2.1 r hr]
      exact hk s hs.1 (hs.2.1 r hr)
    · intro k i s hi ⟨th, hs⟩ hkk
      unfold X9_drunk_B100
      rw [if_neg (nI_ge hi (by omega))]
      refine rmin hI hM hc hs k (nI r) (nI m) x5 (nL (600 ^ i)) (nI i) P (fun w' th' hw' => ?_)
      rw [nI_1, show (600 : Int64) = nL 600 from rfl, nL_mul, ← Nat.pow_succ]
      exact hkk w' ⟨th', hw'⟩
  rw [hFU]
  refine it_rule (bot := fun _ _ _ _ _ _ _ => none) 6 (fun i (s : MS) => mkeep s = mkeep z ∧ ∀ r, r < i → M_chances s r = nL (chA b g c 0 r)) (fun k i s => ∃ v, k s (nI g) (nI r) (nI c) (nI m) x5 (nI i) = some v ∧ P v) ?_ ?_ N 0 z (by omega) (by omega) ⟨rfl, fun r hr => absurd hr (Nat.not_lt_zero _)⟩
  · intro k s hs
    unfold X9_drunk_B58
    rw [if_pos (by decide)]
    obtain ⟨th, hth2⟩ : ∃ th : Nat → Nat, ∀ r, M_then s r = nL (th r) := ⟨fun r => (M_then s r).toUInt64.toNat, fun r => by
      unfold nL
      apply Int64.toBitVec_inj.mp
      show (M_then s r).toBitVec = BitVec.ofNat 64 ((M_then s r).toBitVec.toNat)
      rw [BitVec.ofNat_toNat, BitVec.setWidth_eq]⟩
    exact l1 s th ⟨hs.1, hs.2, fun r _ => hth2 r⟩
  · intro k i s hi hs hkk
    have go : ∀ x : Int64, x = nL (chA b g c 0 i) → ∃ v, X9_drunk_J87 k s (nI g) (nI r) (nI c) (nI m) x5 (nI i) x (nI i) = some v ∧ P v := by
      intro x hx
      unfold X9_drunk_J87
      rw [chk_nI hi (by decide), ltA_eq, nI_clamp (by omega), nI_1]
      obtain ⟨y, ey⟩ : ∃ y, y = M_set_chances s (vp_updL (M_chances s) i x) := ⟨_, rfl⟩
      obtain ⟨s1, s2, s3⟩ := sc_chances ey
      rw [← ey]
      refine hkk y ⟨s1.trans hs.1, fun r hr => ?_⟩
      rw [s2]
      by_cases f : r = i
      · rw [f, pk_uLs, hx]
      · rw [pk_uLn f]; exact hs.2 r (by omega)
    unfold X9_drunk_B58
    rw [if_neg (show ¬ (6 : Int32) ≤ nI i from nlit (by decide) hi), chk_nI hg (by decide), nI_clamp (show g < 2 ^ 31 by omega), kp_P hs.1 hM hg hth]
    by_cases f : i = a_pl b g
    · rw [if_pos (by rw [f])]
      refine go 1 ?_
      show _ = nL (if i = a_pl b g then 1 else 0)
      rw [if_pos f]; rfl
    · rw [if_neg (fun e => f ((nI_eq (by omega) (by omega)).mp e))]
      refine go 0 ?_
      show _ = nL (if i = a_pl b g then 1 else 0)
      rw [if_neg f]; rfl
end RW
theorem pw600 {m : Nat} (h : m ≤ 6) : 0 < 600 ^ m ∧ 600 ^ m < 2 ^ 63 := by
  rcases (show m = 0 ∨ m = 1 ∨ m = 2 ∨ m = 3 ∨ m = 4 ∨ m = 5 ∨ m = 6 by omega) with rfl | rfl | rfl | rfl | rfl | rfl | rfl <;> decide
theorem sim_drunk : Sim_drunk Rel := by
  intro S z x1 x2 x3 x4 x5 h
  obtain ⟨⟨a, hI, hH, hM⟩, h3⟩ := id h
  have hH : Hc (K_now S) a := hH
  have hM : Mc (mcore z) a := hM
  have hR := hI.1.2.1
  have out : ∀ v : Int64, f_X8_drunk (K_now S) (K_stagger S) x1 x2 x3 x4 x5 = some (v, K_stagger S) → f_X9_drunk z x1 x2 x3 x4 x5 = some (v, z) → ∃ q w, f_X8_drunk (K_now S) (K_stagger S) x1 x2 x3 x4 x5 = some q ∧ f_X9_drunk z x1 x2 x3 x4 x5 = some w ∧ q.1 = w.1 ∧ Rel (K_set_stagger S q.2) w.2 := fun v e1 e2 => ⟨_, _, e1, e2, rfl, h.to rfl rfl⟩
  have n10 : ¬ (1 : Int32) = 0 := by decide
  rcases th_cases hI hH hM x1 with ⟨g, hg, rfl, hth, t1, t2⟩ | ⟨t1, t2⟩
  · rcases rm_cases hI hH hM x2 with ⟨r, hr, rfl, r1, r2⟩ | ⟨-, r1, r2⟩
    · by_cases b1 : x3 < 0
      · exact out (-1000000000000000002) (by unfold f_X8_drunk; rw [t1, Option.bind_some, if_neg n10, r1, Option.bind_some, if_neg n10, if_pos b1]) (by unfold f_X9_drunk; rw [t2, Option.bind_some, if_neg n10, r2, Option.bind_some, if_neg n10, in_0 (Or.inl b1), Option.bind_some, if_pos rfl])
      · by_cases b2 : (10 : Int32) < x3
        · exact out (-1000000000000000002) (by unfold f_X8_drunk; rw [t1, Option.bind_some, if_neg n10, r1, Option.bind_some, if_neg n10, if_neg b1, if_pos b2]) (by unfold f_X9_drunk; rw [t2, Option.bind_some, if_neg n10, r2, Option.bind_some, if_neg n10, in_0 (Or.inr b2), Option.bind_some, if_pos rfl])
        · by_cases b3 : x4 < 0
          · exact out (-1000000000000000002) (by unfold f_X8_drunk; rw [t1, Option.bind_some, if_neg n10, r1, Option.bind_some, if_neg n10, if_neg b1, if_neg b2, if_pos b3]) (by unfold f_X9_drunk; rw [t2, Option.bind_some, if_neg n10, r2, Option.bind_some, if_neg n10, in_1 b1 b2, Option.bind_some, if_neg n10, in_0 (Or.inl b3), Option.bind_some, if_pos rfl])
          · by_cases b4 : (6 : Int32) < x4
            · exact out (-1000000000000000002) (by unfold f_X8_drunk; rw [t1, Option.bind_some, if_neg n10, r1, Option.bind_some, if_neg n10, if_neg b1, if_neg b2, if_neg b3, if_pos b4]) (by unfold f_X9_drunk; rw [t2, Option.bind_some, if_neg n10, r2, Option.bind_some, if_neg n10, in_1 b1 b2, Option.bind_some, if_neg n10, in_0 (Or.inr b4), Option.bind_some, if_pos rfl])
            · by_cases b5 : x5 < 0
              · exact out (-1000000000000000002) (by unfold f_X8_drunk; rw [t1, Option.bind_some, if_neg n10, r1, Option.bind_some, if_neg n10, if_neg b1, if_neg b2, if_neg b3, if_neg b4, if_pos b5]) (by unfold f_X9_drunk; rw [t2, Option.bind_some, if_neg n10, r2, Option.bind_some, if_neg n10, in_1 b1 b2, Option.bind_some, if_neg n10, in_1 b3 b4, Option.bind_some, if_neg n10, in_0 (Or.inl b5), Option.bind_some, if_pos rfl])
              · by_cases b6 : x5 ≤ 1
                · obtain ⟨c, hc', rfl⟩ := nI_of b1
                  have hc : c ≤ 10 := (nI_leI hc' (b := 10) (by decide)).mp (Int32.not_lt.mp b2)
                  obtain ⟨m, hm', rfl⟩ := nI_of b3
                  have hm : m ≤ 6 := (nI_leI hm' (b := 6) (by decide)).mp (Int32.not_lt.mp b4)
                  obtain ⟨p0, p1⟩ := pw600 hm
                  have hr6 : r < 6 := by omega
                  obtain ⟨sg, c1, c2, c3⟩ := cwalk hI hH hg hth hc hm (K_stagger S)
                  obtain ⟨⟨v, w⟩, d1, d2, d3⟩ := rwalk hI hM hg hth hc hm hr6 x5 (fun v => (if x5 = 0 then f_X6_upper sg (nI r) else f_X6_lower sg (nI r)) = some v.1 ∧ mkeep v.2 = mkeep z) (fun w k1 k2 => by
                    obtain ⟨v, e1, e2⟩ := ends_alike hr6 (ch_le hI hc m hr6) p0 p1 c2 (c3 r hr6) k2 x5
                    exact ⟨_, e2, e1, k1⟩)
                  refine ⟨(v, sg), (v, w), ?_, ?_, rfl, h.to rfl d3⟩
                  · unfold f_X8_drunk
                    rw [t1, Option.bind_some, if_neg n10, r1, Option.bind_some, if_neg n10, if_neg b1, if_neg b2, if_neg b3, if_neg b4, if_neg b5, if_pos b6, c1, Option.bind_some]
                    by_cases e : x5 = 0
                    · rw [if_pos e] at d2
                      rw [if_pos e, d2, Option.bind_some]
                    · rw [if_neg e] at d2
                      rw [if_neg e, d2, Option.bind_some]
                  · unfold f_X9_drunk
                    rw [t2, Option.bind_some, if_neg n10, r2, Option.bind_some, if_neg n10, in_1 b1 b2, Option.bind_some, if_neg n10, in_1 b3 b4, Option.bind_some, if_neg n10, in_1 b5 (Int32.not_lt.mpr b6), Option.bind_some, if_neg n10]
                    exact d1
                · exact out (-1000000000000000002) (by unfold f_X8_drunk; rw [t1, Option.bind_some, if_neg n10, r1, Option.bind_some, if_neg n10, if_neg b1, if_neg b2, if_neg b3, if_neg b4, if_neg b5, if_neg b6]) (by unfold f_X9_drunk; rw [t2, Option.bind_some, if_neg n10, r2, Option.bind_some, if_neg n10, in_1 b1 b2, Option.bind_some, if_neg n10, in_1 b3 b4, Option.bind_some, if_neg n10, in_0 (Or.inr (Int32.not_le.mp b6)), Option.bind_some, if_pos rfl])
    · exact out (-1000000000000000001) (by unfold f_X8_drunk; rw [t1, Option.bind_some, if_neg n10, r1, Option.bind_some, if_pos rfl]) (by unfold f_X9_drunk; rw [t2, Option.bind_some, if_neg n10, r2, Option.bind_some, if_pos rfl])
  · exact out (-1000000000000000001) (by unfold f_X8_drunk; rw [t1, Option.bind_some, if_pos rfl]) (by unfold f_X9_drunk; rw [t2, Option.bind_some, if_pos rfl])
