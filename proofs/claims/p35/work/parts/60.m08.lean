/-! 98i.walk -/
section
/-! the class' walk, the reference's, drunk -/
set_option maxRecDepth 100000 in
theorem d60_dec : ∀ d : Fin 7, d.val ≠ 0 → ((60 : Int32) / nI d.val).toInt64 = nL (60 / d.val) := by decide +kernel
set_option maxRecDepth 100000 in
theorem s10_dec : ∀ c : Fin 11, ((10 : Int32) - nI c.val).toInt64 = nL (10 - c.val) := by decide +kernel
set_option maxRecDepth 100000 in
theorem m60_dec : ∀ c : Fin 11, ((60 : Int32) * nI c.val).toInt64 = nL (60 * c.val) := by decide +kernel
set_option maxRecDepth 100000 in
theorem r60_dec : ∀ d : Fin 7, ∀ c : Fin 11, d.val ≠ 0 → (((60 : Int32) * ((10 : Int32) - nI c.val)) / nI d.val).toInt64 = nL (60 * (10 - c.val) / d.val) := by decide +kernel
theorem d60 {d : Nat} (h : d < 7) (h0 : d ≠ 0) : ((60 : Int32) / nI d).toInt64 = nL (60 / d) := d60_dec ⟨d, h⟩ h0
theorem s10 {c : Nat} (h : c ≤ 10) : ((10 : Int32) - nI c).toInt64 = nL (10 - c) := s10_dec ⟨c, by omega⟩
theorem m60 {c : Nat} (h : c ≤ 10) : ((60 : Int32) * nI c).toInt64 = nL (60 * c) := m60_dec ⟨c, by omega⟩
theorem r60 {d c : Nat} (h : d < 7) (hc : c ≤ 10) (h0 : d ≠ 0) : (((60 : Int32) * ((10 : Int32) - nI c)) / nI d).toInt64 = nL (60 * (10 - c) / d) := r60_dec ⟨d, h⟩ ⟨c, by omega⟩ h0
theorem dv60 {d c : Nat} (h : d < 7) (hc : c ≤ 10) (h0 : d ≠ 0) : (60 / d) * (10 - c) = 60 * (10 - c) / d := dv_dec ⟨d, h⟩ ⟨c, by omega⟩ h0
theorem cb_one {b : AS} {c : Nat} {ch : Nat → Nat} {q i r : Nat} (h : r ≠ i) : cbI b c ch q (i + 1) r = cbI b c ch q i r := by
  unfold cbI
  by_cases d : r < i ∧ 0 < a_wd b q r
  · rw [if_pos d, if_pos (show r < i + 1 ∧ 0 < a_wd b q r from ⟨by omega, d.2⟩)]
  · rw [if_neg d, if_neg (show ¬ (r < i + 1 ∧ 0 < a_wd b q r) from fun e => d ⟨by omega, e.2⟩)]
theorem cb_no {b : AS} {c : Nat} {ch : Nat → Nat} {q i : Nat} (h : ¬ 0 < a_wd b q i) : cbI b c ch q (i + 1) i = cbI b c ch q i i := by
  unfold cbI
  rw [if_neg (show ¬ (i < i ∧ 0 < a_wd b q i) from fun e => h e.2), if_neg (show ¬ (i < i + 1 ∧ 0 < a_wd b q i) from fun e => h e.2)]
theorem cb_yes {b : AS} {c : Nat} {ch : Nat → Nat} {q i : Nat} (h : 0 < a_wd b q i) : cbI b c ch q (i + 1) i = cbI b c ch q i i + ch q * thr b c q := by
  unfold cbI
  rw [if_neg (show ¬ (i < i ∧ 0 < a_wd b q i) from fun e => absurd e.1 (Nat.lt_irrefl _)), if_pos (show i < i + 1 ∧ 0 < a_wd b q i from ⟨by omega, h⟩), Nat.add_zero]
theorem cb_0q {b : AS} {c : Nat} {ch : Nat → Nat} {q : Nat} : cbI b c ch q 0 q = ch q * sty b c q := by
  unfold cbI
  rw [if_pos rfl, if_neg (fun e => absurd e.1 (Nat.not_lt_zero _))]; rfl
theorem cb_0n {b : AS} {c : Nat} {ch : Nat → Nat} {q r : Nat} (h : r ≠ q) : cbI b c ch q 0 r = 0 := by
  unfold cbI
  rw [if_neg h, if_neg (fun e => absurd e.1 (Nat.not_lt_zero _))]
theorem cb_d0 {b : AS} {c : Nat} {ch : Nat → Nat} {q : Nat} (hd : dzA b q (a_R b) = 0) : ∀ i, i ≤ a_R b → ∀ r, cbI b c ch q i r = cbI b c ch q 0 r
  | 0, _, r => rfl
  | i + 1, h, r => by
    by_cases e : r = i
    · subst e
      rw [cb_no (dz_no _ hd r (by omega)), cb_d0 hd r (by omega)]
    · rw [cb_one e, cb_d0 hd i (by omega)]
section CW
variable {b : AS} {h : HS}
theorem cspread (hI : Inv b) (hH : Hc h b) {q c : Nat} (hq : q < a_R b) (hc : c ≤ 10) {sg : SS} {ch nx : Nat → Nat} (h1 : ∀ r, r < 6 → S_chance sg r = nL (ch r)) (h2 : ∀ r, r < 6 → S_next sg r = nL (nx r)) : ∃ sg', f_X6_spread sg h (nI q) (nI c) = some sg' ∧ S_whole sg' = S_whole sg ∧ S_chance sg' = S_chance sg ∧ ∀ r, r < 6 → S_next sg' r = nL (nx r + cbA b c ch q r) := by
  have hR := hI.1.2.1
  have hq6 : q < 6 := by omega
  have hdz := dz_le b q (a_R b)
  by_cases d : dzA b q (a_R b) = 0
  · refine ⟨S_set_next sg (vp_updL (S_next sg) q (S_next sg q + S_chance sg q * 60 * 10)), cdoors hI hH hq6 ?_, rfl, rfl, ?_⟩
    · rw [if_pos (show nI (dzA b q (a_R b)) = 0 by rw [d]; rfl), chk_nI hq6 (by decide), chk_nI hq6 (by decide), chk_nI hq6 (by decide), ltA_eq, nI_clamp (by omega)]
    · intro r hr
      show vp_updL (S_next sg) q (S_next sg q + S_chance sg q * 60 * 10) r = _
      unfold cbA
      rw [cb_d0 d _ (Nat.le_refl _)]
      by_cases e : r = q
      · subst e
        rw [pk_uLs, h1 r hr, h2 r hr, cb_0q, show (60 : Int64) = nL 60 from rfl, show (10 : Int64) = nL 10 from rfl, nL_mul, nL_mul, nL_add, Nat.mul_assoc]
        unfold sty
        rw [if_pos d]
      · rw [pk_uLn e, h2 r hr, cb_0n e]; rfl
  · obtain ⟨N, hN, hFU⟩ := FU_ex
    obtain ⟨D, hD⟩ : ∃ D, D = dzA b q (a_R b) := ⟨_, rfl⟩
    have hD0 : D ≠ 0 := by rw [hD]; exact d
    have hD7 : D < 7 := by omega
    have hs : sty b c q = 60 * c := by unfold sty; rw [if_neg d]
    have lp : ∃ sg', it X6_spread_B95 (fun _ _ _ _ _ _ => none) FU (S_set_next sg (vp_updL (S_next sg) q (S_next sg q + S_chance sg q * 60 * (nI c).toInt64))) h (nI q) (nI c) (nI D) 0 = some sg' ∧ S_whole sg' = S_whole sg ∧ S_chance sg' = S_chance sg ∧ ∀ r, r < 6 → S_next sg' r = nL (nx r + cbA b c ch q r) := by
      rw [hFU]
      refine it_rule (bot := fun _ _ _ _ _ _ => none) (a_R b) (fun i (s : SS) => S_whole s = S_whole sg ∧ S_chance s = S_chance sg ∧ ∀ r, r < 6 → S_next s r = nL (nx r + cbI b c ch q i r)) (fun k i s => ∃ sg', k s h (nI q) (nI c) (nI D) (nI i) = some sg' ∧ S_whole sg' = S_whole sg ∧ S_chance sg' = S_chance sg ∧ ∀ r, r < 6 → S_next sg' r = nL (nx r + cbA b c ch q r)) ?_ ?_ N 0 _ (by omega) (by omega) ⟨rfl, rfl, ?_⟩
      · intro k s hs
        refine ⟨s, ?_, hs⟩
        unfold X6_spread_B95
        rw [hH.1, if_pos (Int32.le_refl _)]
      · intro k i s hi ⟨i1, i2, i3⟩ hk
        have hw := (hI.2.2.1 q i hq6 (by omega)).1
        unfold X6_spread_B95 X6_spread_J143
        rw [hH.1, if_neg (nI_ge hi (by omega)), width_spec hH hq6 (by omega), Option.bind_some, nI_1]
        by_cases e : 0 < a_wd b q i
        · rw [if_neg (show ¬ nI (a_wd b q i) ≤ (0 : Int32) from nI_nle e (by omega)), chk_nI (show i < 6 by omega) (by decide), chk_nI hq6 (by decide), nz_ok (nI_ne0 (by omega) (by omega) : ¬ nI D = 0), chk_nI (show i < 6 by omega) (by decide), ltA_eq, nI_clamp (show i < 2 ^ 31 by omega), nI_clamp (show q < 2 ^ 31 by omega), i2, h1 q hq6, i3 i (by omega), d60 hD7 hD0, s10 hc]
          refine hk _ ⟨i1, i2, fun r hr => ?_⟩
          show vp_updL (S_next s) i _ r = _
          by_cases f : r = i
          · subst f
            rw [pk_uLs, cb_yes e, nL_mul, nL_mul, nL_add, Nat.mul_assoc, dv60 hD7 hc hD0, Nat.add_assoc]
            unfold thr
            rw [← hD]
          · rw [pk_uLn f, i3 r hr, cb_one f]
        · rw [if_pos (show nI (a_wd b q i) ≤ (0 : Int32) from nI_le (b := 0) (by omega) (by decide))]
          refine hk s ⟨i1, i2, fun r hr => ?_⟩
          by_cases f : r = i
          · subst f
            rw [i3 r hr, cb_no e]
          · rw [i3 r hr, cb_one f]
      · intro r hr
        show vp_updL (S_next sg) q _ r = _
        by_cases f : r = q
        · subst f
          rw [pk_uLs, h1 r hr, h2 r hr, cb_0q, hs, l128 (show c < 128 by omega), show (60 : Int64) = nL 60 from rfl, nL_mul, nL_mul, nL_add, Nat.mul_assoc]
        · rw [pk_uLn f, h2 r hr, cb_0n f]; rfl
    obtain ⟨sg', l1, l2⟩ := lp
    refine ⟨sg', cdoors hI hH hq6 ?_, l2⟩
    rw [← hD, if_neg (nI_ne0 (by omega) (by omega) : ¬ nI D = 0), chk_nI hq6 (by decide), chk_nI hq6 (by decide), chk_nI hq6 (by decide), ltA_eq, nI_clamp (show q < 2 ^ 31 by omega)]
    exact l1
theorem cspreads (hI : Inv b) (hH : Hc h b) {c : Nat} (hc : c ≤ 10) {sg : SS} {ch : Nat → Nat} (h1 : ∀ r, r < 6 → S_chance sg r = nL (ch r)) (h2 : ∀ r, r < 6 → S_next sg r = nL 0) (k28 : SS → HS → Int32 → Int32 → Int32 → Option (SS)) (x4 x5 : Int32) (P : SS → Prop) (hk : ∀ sg', S_whole sg' = S_whole sg * 600 → (∀ r, r < 6 → S_chance sg' r = nL (nxA b c ch (a_R b) r)) → ∃ v, k28 sg' h (nI c) x4 (x5 + 1) = some v ∧ P v) : ∃ v, it (X6_walk_B46 k28) (fun _ _ _ _ _ _ => none) FU sg h (nI c) x4 x5 0 = some v ∧ P v := by
  obtain ⟨N, hN, hFU⟩ := FU_ex
  have hR := hI.1.2.1
  rw [hFU]
  refine it_rule (bot := fun _ _ _ _ _ _ => none) (a_R b) (fun i (s : SS) => S_whole s = S_whole sg ∧ S_chance s = S_chance sg ∧ ∀ r, r < 6 → S_next s r = nL (nxA b c ch i r)) (fun k i s => ∃ v, k s h (nI c) x4 x5 (nI i) = some v ∧ P v) ?_ ?_ N 0 _ (by omega) (by omega) ⟨rfl, rfl, h2⟩
  · intro k s ⟨i1, i2, i3⟩
    unfold X6_walk_B46
    rw [hH.1, if_pos (Int32.le_refl _), i1]
    exact hk _ rfl i3
  · intro k i s hi ⟨i1, i2, i3⟩ hkk
    obtain ⟨s', e1, e2, e3, e4⟩ := cspread hI hH hi hc (sg := s) (ch := ch) (nx := nxA b c ch i) (fun r hr => by rw [i2]; exact h1 r hr) i3
    unfold X6_walk_B46
    rw [hH.1, if_neg (nI_ge hi (by omega)), e1, Option.bind_some, nI_1]
    exact hkk s' ⟨e2.trans i1, e3.trans i2, e4⟩
theorem cwalk (hI : Inv b) (hH : Hc h b) {g c m : Nat} (hg : g < 8) (hth : a_is b g = true) (hc : c ≤ 10) (hm : m ≤ 6) (sg : SS) : ∃ sg', f_X6_walk sg h (nI g) (nI c) (nI m) = some sg' ∧ S_whole sg' = nL (600 ^ m) ∧ ∀ r, r < 6 → S_chance sg' r = nL (chA b g c m r) := by
  obtain ⟨N, hN, hFU⟩ := FU_ex
  have hR := hI.1.2.1
  have hp := (hI.2.2.2.2.2.1 g hg hth).1
  have ep : H_place h g = nI (a_pl b g) := (hH.2.2.2.2.2.1 g hg).1
  unfold f_X6_walk
  rw [ltA_eq, chk_nI hg (by decide), nI_clamp (show g < 2 ^ 31 by omega), ep, chk_nI (show a_pl b g < 6 by omega) (by decide), ltA_eq, nI_clamp (show a_pl b g < 2 ^ 31 by omega)]
  rw [hFU]
  refine it_rule (bot := fun _ _ _ _ _ => none) m (fun i (s : SS) => S_whole s = nL (600 ^ i) ∧ ∀ r, r < 6 → S_chance s r = nL (chA b g c i r)) (fun k i s => ∃ v, k s h (nI c) (nI m) (nI i) = some v ∧ S_whole v = nL (600 ^ m) ∧ ∀ r, r < 6 → S_chance v r = nL (chA b g c m r)) ?_ ?_ N 0 _ (by omega) (by omega) ⟨rfl, ?_⟩
  · intro k s hs
    refine ⟨s, ?_, hs⟩
    unfold X6_walk_B28
    rw [if_pos (Int32.le_refl _)]
  · intro k i s hi ⟨i1, i2⟩ hkk
    unfold X6_walk_B28
    rw [if_neg (nI_ge hi (by omega)), ltA_eq]
    refine cspreads hI hH hc (sg := S_set_next s (fillA 6 0 (S_next s))) (ch := chA b g c i) i2 (fun r hr => ?_) k (nI m) (nI i) (fun v => S_whole v = nL (600 ^ m) ∧ ∀ r, r < 6 → S_chance v r = nL (chA b g c m r)) ?_
    · show fillA 6 0 (S_next s) r = _
      unfold fillA
      rw [if_pos hr]; rfl
    · intro sg' e1 e2
      rw [nI_1]
      refine hkk sg' ⟨?_, e2⟩
      rw [e1]
      show S_whole s * 600 = _
      rw [i1, show (600 : Int64) = nL 600 from rfl, nL_mul, Nat.pow_succ]
  · intro r hr
    show vp_updL (fillA 6 0 (S_chance sg)) (a_pl b g) 1 r = nL (if r = a_pl b g then 1 else 0)
    by_cases f : r = a_pl b g
    · rw [if_pos f, f, pk_uLs]; rfl
    · rw [if_neg f, pk_uLn f]
      unfold fillA
      rw [if_pos hr]; rfl
end CW
end
/-! 98j.rdrunk -/
section
/-! the reference's walk -/
theorem sc_chances {z z' : MS} {f : Nat → Int64} (h : z' = M_set_chances z f) : mkeep z' = mkeep z ∧ M_chances z' = f ∧ M_then z' = M_then z := by subst h; exact ⟨kp_chances z f, rfl, rfl⟩
theorem sc_then {z z' : MS} {f : Nat → Int64} (h : z' = M_set_then z f) : mkeep z' = mkeep z ∧ M_chances z' = M_chances z ∧ M_then z' = f := by subst h; exact ⟨kp_then z f, rfl, rfl⟩
/-- the reference's rows of chances -/
def Dk (w z : MS) (ch th : Nat → Nat) : Prop := mkeep w = mkeep z ∧ (∀ r, r < 6 → M_chances w r = nL (ch r)) ∧ (∀ r, r < 6 → M_then w r = nL (th r))
theorem kp_R {w z : MS} {b : AS} (h : mkeep w = mkeep z) (hM : Mc (mcore z) b) : M_rooms w = nI (a_R b) := (congrArg (fun m => m.1.1) h : M_rooms w = M_rooms z).trans hM.1
theorem kp_W {w z : MS} {b : AS} (h : mkeep w = mkeep z) (hM : Mc (mcore z) b) {r q : Nat} (hr : r < 6) (hq : q < 6) : M_width w (6 * r + q) = nI (a_wd b r q) := (congrFun (congrArg (fun m => m.1.2.2.2.2.1) h : M_width w = M_width z) (6 * r + q)).trans (hM.2.2.2.2.1 r q hr hq)
theorem kp_P {w z : MS} {b : AS} (h : mkeep w = mkeep z) (hM : Mc (mcore z) b) {g : Nat} (hg : g < 8) (ht : a_is b g = true) : M_place w g = nI (a_pl b g) := (congrFun (congrArg (fun m => m.1.2.2.2.2.2.2.2.1) h : M_place w = M_place z) g).trans (hM.2.2.2.2.2.1 g hg ht).1
section RW
variable {b : AS} {z : MS}
theorem rspread (hI : Inv b) (hM : Mc (mcore z) b) {q c : Nat} (hq : q < a_R b) (hc : c ≤ 10) {w : MS} {ch th : Nat → Nat} (hD : Dk w z ch th) (k100 : MS → Int32 → Int32 → Int32 → Int32 → Int64 → Int32 → Option (Int64 × MS)) (k134 : MS → Int32 → Int32 → Int32 → Int32 → Int64 → Int32 → Int32 → Option (Int64 × MS)) (x2 x4 x5 : Int32) (x6 : Int64) (x8 : Int32) (P : Int64 × MS → Prop) (hk : ∀ w', Dk w' z ch (fun r => th r + cbA b c ch q r) → ∃ v, k134 w' x2 (nI c) x4 x5 x6 x8 (nI (q + 1)) = some v ∧ P v) : ∃ v, it (X9_drunk_B149 k100 k134) (fun _ _ _ _ _ _ _ _ _ _ => none) FU w x2 (nI c) x4 x5 x6 x8 (nI q) 0 0 = some v ∧ P v := by
  have hR := hI.1.2.1
  have hq6 : q < 6 := by omega
  have hdz := dz_le b q (a_R b)
  obtain ⟨N, hN, hFU⟩ := FU_ex
  obtain ⟨D, eD⟩ : ∃ D, D = dzA b q (a_R b) := ⟨_, rfl⟩
  -- what the doors give
  have lp : ∀ w1, Dk w1 z ch (fun r => th r + cbI b c ch q 0 r) → ∃ v, it (X9_drunk_B227 k100 k134) (fun _ _ _ _ _ _ _ _ _ _ => none) FU w1 x2 (nI c) x4 x5 x6 x8 (nI q) (nI D) 0 = some v ∧ P v := by
    intro w1 hw1
    rw [hFU]
    refine it_rule (bot := fun _ _ _ _ _ _ _ _ _ _ => none) (a_R b) (fun i (s : MS) => Dk s z ch (fun r => th r + cbI b c ch q i r)) (fun k i s => ∃ v, k s x2 (nI c) x4 x5 x6 x8 (nI q) (nI D) (nI i) = some v ∧ P v) ?_ ?_ N 0 w1 (by omega) (by omega) hw1
    · intro k s hs
      unfold X9_drunk_B227
      rw [kp_R hs.1 hM, if_pos (Int32.le_refl _), nI_1]
      exact hk s hs
    · intro k i s hi hs hkk
      have hi6 : i < 6 := by omega
      have hw := (hI.2.2.1 q i hq6 hi6).1
      have hs2 : ∀ r, r < 6 → M_then s r = nL (th r + cbI b c ch q i r) := hs.2.2
      unfold X9_drunk_B227 X9_drunk_J283
      rw [kp_R hs.1 hM, if_neg (nI_ge hi (by omega)), chk_nI hi6 (by decide), ix6', chk_nI (show 6 * q + i < 36 by omega) (by decide), nI_clamp (show 6 * q + i < 2 ^ 31 by omega), kp_W hs.1 hM hq6 hi6, nI_clamp (show i < 2 ^ 31 by omega), nI_clamp (show q < 2 ^ 31 by omega), hs.2.1 q hq6, hs2 i hi6]
      by_cases e : 0 < a_wd b q i
      · have dn : dzA b q (a_R b) ≠ 0 := fun g => dz_no _ g i hi e
        rw [if_neg (show ¬ nI (a_wd b q i) ≤ (0 : Int32) from nI_nle e (by omega)), chk_nI hq6 (by decide), nz_ok (nI_ne0 (by omega) (by omega) : ¬ nI D = 0), chk_nI hi6 (by decide), ltA_eq, nI_1, r60 (show D < 7 by omega) hc (show D ≠ 0 by omega)]
        obtain ⟨y, ey⟩ : ∃ y, y = M_set_then s (vp_updL (M_then s) i (nL (th i + cbI b c ch q i i) + nL (ch q) * nL (60 * (10 - c) / D))) := ⟨_, rfl⟩
        obtain ⟨s1, s2, s3⟩ := sc_then ey
        rw [← ey]
        refine hkk y ⟨s1.trans hs.1, fun r hr => by rw [s2]; exact hs.2.1 r hr, fun r hr => ?_⟩
        show M_then y r = nL (th r + cbI b c ch q (i + 1) r)
        rw [s3]
        by_cases f : r = i
        · subst f
          rw [pk_uLs, cb_yes e, nL_mul, nL_add, Nat.add_assoc]
          unfold thr
          rw [← eD]
        · rw [pk_uLn f, hs2 r hr, cb_one f]
      · rw [if_pos (show nI (a_wd b q i) ≤ (0 : Int32) from nI_le (b := 0) (by omega) (by decide)), chk_nI hi6 (by decide), ltA_eq, nI_1]
        obtain ⟨y, ey⟩ : ∃ y, y = M_set_then s (vp_updL (M_then s) i (nL (th i + cbI b c ch q i i) + 0)) := ⟨_, rfl⟩
        obtain ⟨s1, s2, s3⟩ := sc_then ey
        rw [← ey]
        refine hkk y ⟨s1.trans hs.1, fun r hr => by rw [s2]; exact hs.2.1 r hr, fun r hr => ?_⟩
        show M_then y r = nL (th r + cbI b c ch q (i + 1) r)
        rw [s3]
        by_cases f : r = i
        · subst f
          rw [pk_uLs, cb_no e, show (0 : Int64) = nL 0 from rfl, nL_add, Nat.add_zero]
        · rw [pk_uLn f, hs2 r hr, cb_one f]
  rw [hFU]
  refine it_rule (bot := fun _ _ _ _ _ _ _ _ _ _ => none) (a_R b) (fun i (_ : Unit) => True) (fun k i _ => ∃ v, k w x2 (nI c) x4 x5 x6 x8 (nI q) (nI (dzA b q i)) (nI i) = some v ∧ P v) ?_ ?_ N 0 () (by omega) (by omega) trivial
  · intro k _ _
    have fin : ∀ (s0 : Int32), s0.toInt64 = nL (sty b c q) → ∃ v, X9_drunk_J220 k100 k134 w x2 (nI c) x4 x5 x6 x8 (nI q) (nI D) s0 (nL (ch q)) (nL (th q)) (nI q) = some v ∧ P v := by
      intro s0 h0
      unfold X9_drunk_J220
      rw [chk_nI hq6 (by decide), ltA_eq, nI_clamp (show q < 2 ^ 31 by omega), h0]
      obtain ⟨y, ey⟩ : ∃ y, y = M_set_then w (vp_updL (M_then w) q (nL (th q) + nL (ch q) * nL (sty b c q))) := ⟨_, rfl⟩
      obtain ⟨s1, s2, s3⟩ := sc_then ey
      rw [← ey]
      refine lp y ⟨s1.trans hD.1, fun r hr => by rw [s2]; exact hD.2.1 r hr, fun r hr => ?_⟩
      show M_then y r = nL (th r + cbI b c ch q 0 r)
      rw [s3]
      by_cases f : r = q
      · subst f
        rw [pk_uLs, cb_0q, nL_mul, nL_add]
      · rw [pk_uLn f, hD.2.2 r hr, cb_0n f]; rfl
    unfold X9_drunk_B149
    rw [kp_R hD.1 hM, if_pos (Int32.le_refl _), chk_nI hq6 (by decide), chk_nI hq6 (by decide), nI_clamp (show q < 2 ^ 31 by omega), hD.2.1 q hq6, hD.2.2 q hq6, ← eD]
    by_cases d : D = 0
    · rw [if_pos (show nI D = 0 by rw [d]; rfl)]
      refine fin 600 ?_
      unfold sty
      rw [if_pos (eD ▸ d)]; rfl
    · rw [if_neg (show ¬ nI D = 0 from fun g => d ((nI_eq (by omega) (b := 0) (by decide)).mp g))]
      refine fin _ ?_
      unfold sty
      rw [if_neg (eD ▸ d)]
      exact m60 hc
  · intro k i _ hi _ hkk
    have hi6 : i < 6 := by omega
    have hw := (hI.2.2.1 q i hq6 hi6).1
    have hkk := hkk () trivial
    have hkk : ∃ v, k w x2 (nI c) x4 x5 x6 x8 (nI q) (nI (dzA b q i + (if 0 < a_wd b q i then 1 else 0))) (nI (i + 1)) = some v ∧ P v := hkk
    unfold X9_drunk_B149 X9_drunk_J181
    rw [kp_R hD.1 hM, if_neg (nI_ge hi (by omega)), ix6', chk_nI (show 6 * q + i < 36 by omega) (by decide), nI_clamp (show 6 * q + i < 2 ^ 31 by omega), kp_W hD.1 hM hq6 hi6, nI_1]
    by_cases e : 0 < a_wd b q i
    · rw [if_pos e] at hkk
      rw [if_neg (show ¬ nI (a_wd b q i) ≤ (0 : Int32) from nI_nle e (by omega)), nI_1]
      exact hkk
    · rw [if_neg e] at hkk
      rw [if_pos (show nI (a_wd b q i) ≤ (0 : Int32) from nI_le (b := 0) (by omega) (by decide)), show nI (dzA b q i) + 0 = nI (dzA b q i + 0) from nI_add _ 0]
      exact hkk
/-- one minute -/
theorem rmin (hI : Inv b) (hM : Mc (mcore z) b) {c : Nat} (hc : c ≤ 10) {w : MS} {ch th : Nat → Nat} (hD : Dk w z ch th) (k100 : MS → Int32 → Int32 → Int32 → Int32 → Int64 → Int32 → Option (Int64 × MS)) (x2 x4 x5 : Int32) (x6 : Int64) (x8 : Int32) (P : Int64 × MS → Prop) (hk : ∀ w' th', Dk w' z (nxA b c ch (a_R b)) th' → ∃ v, k100 w' x2 (nI c) x4 x5 (x6 * 600) (x8 + 1) = some v ∧ P v) : ∃ v, it (X9_drunk_B110 k100) (fun _ _ _ _ _ _ _ _ => none) FU w x2 (nI c) x4 x5 x6 x8 0 = some v ∧ P v := by
  have hR := hI.1.2.1
  obtain ⟨N, hN, hFU⟩ := FU_ex
  -- the last loop: then becomes chances
  have l3 : ∀ w1, Dk w1 z ch (nxA b c ch (a_R b)) → ∃ v, it (X9_drunk_B300 k100) (fun _ _ _ _ _ _ _ _ => none) FU w1 x2 (nI c) x4 x5 x6 x8 0 = some v ∧ P v := by
    intro w1 hw1
    rw [hFU]
    refine it_rule (bot := fun _ _ _ _ _ _ _ _ => none) 6 (fun i (s : MS) => mkeep s = mkeep z ∧ (∀ r, r < i → M_chances s r = nL (nxA b c ch (a_R b) r)) ∧ ∀ r, r < 6 → M_then s r = nL (nxA b c ch (a_R b) r)) (fun k i s => ∃ v, k s x2 (nI c) x4 x5 x6 x8 (nI i) = some v ∧ P v) ?_ ?_ N 0 w1 (by omega) (by omega) ⟨hw1.1, fun r hr => absurd hr (Nat.not_lt_zero _), hw1.2.2⟩
    · intro k s hs
      unfold X9_drunk_B300
      rw [if_pos (by decide)]
      exact hk s _ hs
    · intro k i s hi hs hkk
      unfold X9_drunk_B300
      rw [if_neg (show ¬ (6 : Int32) ≤ nI i from nlit (by decide) hi), chk_nI hi (by decide), chk_nI hi (by decide), ltA_eq, nI_clamp (by omega), hs.2.2 i hi, nI_1]
      obtain ⟨y, ey⟩ : ∃ y, y = M_set_chances s (vp_updL (M_chances s) i (nL (nxA b c ch (a_R b) i))) := ⟨_, rfl⟩
      obtain ⟨s1, s2, s3⟩ := sc_chances ey
      rw [← ey]
      refine hkk y ⟨s1.trans hs.1, fun r hr => ?_, fun r hr => by rw [s3]; exact hs.2.2 r hr⟩
      rw [s2]
      by_cases f : r = i
      · rw [f, pk_uLs]
      · rw [pk_uLn f]; exact hs.2.1 r (by omega)
  have l2 : ∀ w1, Dk w1 z ch (nxA b c ch 0) → ∃ v, it (X9_drunk_B134 k100) (fun _ _ _ _ _ _ _ _ => none) FU w1 x2 (nI c) x4 x5 x6 x8 0 = some v ∧ P v := by
    intro w1 hw1
    rw [hFU]
    refine it_rule (bot := fun _ _ _ _ _ _ _ _ => none) (a_R b) (fun i (s : MS) => Dk s z ch (nxA b c ch i)) (fun k i s => ∃ v, k s x2 (nI c) x4 x5 x6 x8 (nI i) = some v ∧ P v) ?_ ?_ N 0 w1 (by omega) (by omega) hw1
    · intro k s hs
      unfold X9_drunk_B134
      rw [kp_R hs.1 hM, if_pos (Int32.le_refl _)]
      exact l3 s hs
    · intro k i s hi hs hkk
      unfold X9_drunk_B134
      rw [kp_R hs.1 hM, if_neg (nI_ge hi (by omega))]
      exact rspread hI hM hi hc hs k100 k x2 x4 x5 x6 x8 P (fun w' hw' => hkk w' hw')
  rw [hFU]
  refine it_rule (bot := fun _ _ _ _ _ _ _ _ => none) 6 (fun i (s : MS) => mkeep s = mkeep z ∧ (∀ r, r < 6 → M_chances s r = nL (ch r)) ∧ ∀ r, r < i → M_then s r = nL 0) (fun k i s => ∃ v, k s x2 (nI c) x4 x5 x6 x8 (nI i) = some v ∧ P v) ?_ ?_ N 0 w (by omega) (by omega) ⟨hD.1, hD.2.1, fun r hr => absurd hr (Nat.not_lt_zero _)⟩
  · intro k s hs
    unfold X9_drunk_B110
    rw [if_pos (by decide)]
    exact l2 s hs
  · intro k i s hi hs hkk
    unfold X9_drunk_B110
    rw [if_neg (show ¬ (6 : Int32) ≤ nI i from nlit (by decide) hi), chk_nI hi (by decide), ltA_eq, nI_clamp (by omega), nI_1]
    obtain ⟨y, ey⟩ : ∃ y, y = M_set_then s (vp_updL (M_then s) i 0) := ⟨_, rfl⟩
    obtain ⟨s1, s2, s3⟩ := sc_then ey
    rw [← ey]
    refine hkk y ⟨s1.trans hs.1, fun r hr => by rw [s2]; exact hs.2.1 r hr, fun r hr => ?_⟩
    rw [s3]
    by_cases f : r = i
    · rw [f, pk_uLs]; rfl
    · rw [pk_uLn f]; exact hs.2.2 r (by omega)
/-- all minutes, and the end -/
theorem rwalk (hI : Inv b) (hM : Mc (mcore z) b) {g c m r : Nat} (hg : g < 8) (hth : a_is b g = true) (hc : c ≤ 10) (hm : m ≤ 6) (hr : r < 6) (x5 : Int32) (P : Int64 × MS → Prop) (hk : ∀ w, mkeep w = mkeep z → M_chances w r = nL (chA b g c m r) → ∃ v, it X9_drunk_B353 (fun _ _ _ _ _ _ => none) FU w (nI r) x5 (nL (600 ^ m)) (nL (chA b g c m r)) (nL (600 ^ m)) = some v ∧ P v) : ∃ v, it X9_drunk_B58 (fun _ _ _ _ _ _ _ => none) FU z (nI g) (nI r) (nI c) (nI m) x5 0 = some v ∧ P v := by
  have hR := hI.1.2.1
  have hp := (hI.2.2.2.2.2.1 g hg hth).1
  obtain ⟨N, hN, hFU⟩ := FU_ex
  have l1 : ∀ w1 th, Dk w1 z (chA b g c 0) th → ∃ v, it X9_drunk_B100 (fun _ _ _ _ _ _ _ => none) FU w1 (nI r) (nI c) (nI m) x5 1 0 = some v ∧ P v := by
    intro w1 th hw1
    rw [hFU]
    refine it_rule (bot := fun _ _ _ _ _ _ _ => none) m (fun i (s : MS) => ∃ th, Dk s z (chA b g c i) th) (fun k i s => ∃ v, k s (nI r) (nI c) (nI m) x5 (nL (600 ^ i)) (nI i) = some v ∧ P v) ?_ ?_ N 0 w1 (by omega) (by omega) ⟨th, hw1⟩
    · intro k s ⟨th, hs⟩
      unfold X9_drunk_B100
      rw [if_pos (Int32.le_refl _), chk_nI hr (by decide), nI_clamp (by omega), hs.2.1 r hr]
      exact hk s hs.1 (hs.2.1 r hr)
    · intro k i s hi ⟨th, hs⟩ hkk
      unfold X9_drunk_B100
      rw [if_neg (nI_ge hi (by omega))]
      refine rmin hI hM hc hs k (nI r) (nI m) x5 (nL (600 ^ i)) (nI i) P (fun w' th' hw' => ?_)
      rw [nI_1, show (600 : Int64) = nL 600 from rfl, nL_mul, ← Nat.pow_succ]
      exact hkk w' ⟨th', hw'⟩
  rw [hFU]
  refine it_rule (bot := fun _ _ _ _ _ _ _ => none) 6 (fun i (s : MS) => mkeep s = mkeep z ∧ ∀ r, r < i → M_chances s r = nL (chA b g c 0 r)) (fun k i s => ∃ v, k s (nI g) (nI r) (nI c) (nI m) x5 (nI i) = some v ∧ P v) ?_ ?_ N 0 z (by omega) (by omega) ⟨rfl, fun r hr => absurd hr (Nat.not_lt_zero _)⟩
  · intro k s hs
    unfold X9_drunk_B58
    rw [if_pos (by decide)]
    obtain ⟨th, hth2⟩ : ∃ th : Nat → Nat, ∀ r, M_then s r = nL (th r) := ⟨fun r => (M_then s r).toUInt64.toNat, fun r => by
      unfold nL
      apply Int64.toBitVec_inj.mp
      show (M_then s r).toBitVec = BitVec.ofNat 64 ((M_then s r).toBitVec.toNat)
      rw [BitVec.ofNat_toNat, BitVec.setWidth_eq]⟩
    exact l1 s th ⟨hs.1, hs.2, fun r _ => hth2 r⟩
  · intro k i s hi hs hkk
    have go : ∀ x : Int64, x = nL (chA b g c 0 i) → ∃ v, X9_drunk_J87 k s (nI g) (nI r) (nI c) (nI m) x5 (nI i) x (nI i) = some v ∧ P v := by
      intro x hx
      unfold X9_drunk_J87
      rw [chk_nI hi (by decide), ltA_eq, nI_clamp (by omega), nI_1]
      obtain ⟨y, ey⟩ : ∃ y, y = M_set_chances s (vp_updL (M_chances s) i x) := ⟨_, rfl⟩
      obtain ⟨s1, s2, s3⟩ := sc_chances ey
      rw [← ey]
      refine hkk y ⟨s1.trans hs.1, fun r hr => ?_⟩
      rw [s2]
      by_cases f : r = i
      · rw [f, pk_uLs, hx]
      · rw [pk_uLn f]; exact hs.2 r (by omega)
    unfold X9_drunk_B58
    rw [if_neg (show ¬ (6 : Int32) ≤ nI i from nlit (by decide) hi), chk_nI hg (by decide), nI_clamp (show g < 2 ^ 31 by omega), kp_P hs.1 hM hg hth]
    by_cases f : i = a_pl b g
    · rw [if_pos (by rw [f])]
      refine go 1 ?_
      show _ = nL (if i = a_pl b g then 1 else 0)
      rw [if_pos f]; rfl
    · rw [if_neg (fun e => f ((nI_eq (by omega) (by omega)).mp e))]
      refine go 0 ?_
      show _ = nL (if i = a_pl b g then 1 else 0)
      rw [if_neg f]; rfl
end RW
theorem pw600 {m : Nat} (h : m ≤ 6) : 0 < 600 ^ m ∧ 600 ^ m < 2 ^ 63 := by
  rcases (show m = 0 ∨ m = 1 ∨ m = 2 ∨ m = 3 ∨ m = 4 ∨ m = 5 ∨ m = 6 by omega) with rfl | rfl | rfl | rfl | rfl | rfl | rfl <;> decide
theorem sim_drunk : Sim_drunk Rel := by
  intro S z x1 x2 x3 x4 x5 h
  obtain ⟨⟨a, hI, hH, hM⟩, h3⟩ := id h
  have hH : Hc (K_now S) a := hH
  have hM : Mc (mcore z) a := hM
  have hR := hI.1.2.1
  have out : ∀ v : Int64, f_X8_drunk (K_now S) (K_stagger S) x1 x2 x3 x4 x5 = some (v, K_stagger S) → f_X9_drunk z x1 x2 x3 x4 x5 = some (v, z) → ∃ q w, f_X8_drunk (K_now S) (K_stagger S) x1 x2 x3 x4 x5 = some q ∧ f_X9_drunk z x1 x2 x3 x4 x5 = some w ∧ q.1 = w.1 ∧ Rel (K_set_stagger S q.2) w.2 := fun v e1 e2 => ⟨_, _, e1, e2, rfl, h.to rfl rfl⟩
  have n10 : ¬ (1 : Int32) = 0 := by decide
  rcases th_cases hI hH hM x1 with ⟨g, hg, rfl, hth, t1, t2⟩ | ⟨t1, t2⟩
  · rcases rm_cases hI hH hM x2 with ⟨r, hr, rfl, r1, r2⟩ | ⟨-, r1, r2⟩
    · by_cases b1 : x3 < 0
      · exact out (-1000000000000000002) (by unfold f_X8_drunk; rw [t1, Option.bind_some, if_neg n10, r1, Option.bind_some, if_neg n10, if_pos b1]) (by unfold f_X9_drunk; rw [t2, Option.bind_some, if_neg n10, r2, Option.bind_some, if_neg n10, in_0 (Or.inl b1), Option.bind_some, if_pos rfl])
      · by_cases b2 : (10 : Int32) < x3
        · exact out (-1000000000000000002) (by unfold f_X8_drunk; rw [t1, Option.bind_some, if_neg n10, r1, Option.bind_some, if_neg n10, if_neg b1, if_pos b2]) (by unfold f_X9_drunk; rw [t2, Option.bind_some, if_neg n10, r2, Option.bind_some, if_neg n10, in_0 (Or.inr b2), Option.bind_some, if_pos rfl])
        · by_cases b3 : x4 < 0
          · exact out (-1000000000000000002) (by unfold f_X8_drunk; rw [t1, Option.bind_some, if_neg n10, r1, Option.bind_some, if_neg n10, if_neg b1, if_neg b2, if_pos b3]) (by unfold f_X9_drunk; rw [t2, Option.bind_some, if_neg n10, r2, Option.bind_some, if_neg n10, in_1 b1 b2, Option.bind_some, if_neg n10, in_0 (Or.inl b3), Option.bind_some, if_pos rfl])
          · by_cases b4 : (6 : Int32) < x4
            · exact out (-1000000000000000002) (by unfold f_X8_drunk; rw [t1, Option.bind_some, if_neg n10, r1, Option.bind_some, if_neg n10, if_neg b1, if_neg b2, if_neg b3, if_pos b4]) (by unfold f_X9_drunk; rw [t2, Option.bind_some, if_neg n10, r2, Option.bind_some, if_neg n10, in_1 b1 b2, Option.bind_some, if_neg n10, in_0 (Or.inr b4), Option.bind_some, if_pos rfl])
            · by_cases b5 : x5 < 0
              · exact out (-1000000000000000002) (by unfold f_X8_drunk; rw [t1, Option.bind_some, if_neg n10, r1, Option.bind_some, if_neg n10, if_neg b1, if_neg b2, if_neg b3, if_neg b4, if_pos b5]) (by unfold f_X9_drunk; rw [t2, Option.bind_some, if_neg n10, r2, Option.bind_some, if_neg n10, in_1 b1 b2, Option.bind_some, if_neg n10, in_1 b3 b4, Option.bind_some, if_neg n10, in_0 (Or.inl b5), Option.bind_some, if_pos rfl])
              · by_cases b6 : x5 ≤ 1
                · obtain ⟨c, hc', rfl⟩ := nI_of b1
                  have hc : c ≤ 10 := (nI_leI hc' (b := 10) (by decide)).mp (Int32.not_lt.mp b2)
                  obtain ⟨m, hm', rfl⟩ := nI_of b3
                  have hm : m ≤ 6 := (nI_leI hm' (b := 6) (by decide)).mp (Int32.not_lt.mp b4)
                  obtain ⟨p0, p1⟩ := pw600 hm
                  have hr6 : r < 6 := by omega
                  obtain ⟨sg, c1, c2, c3⟩ := cwalk hI hH hg hth hc hm (K_stagger S)
                  obtain ⟨⟨v, w⟩, d1, d2, d3⟩ := rwalk hI hM hg hth hc hm hr6 x5 (fun v => (if x5 = 0 then f_X6_upper sg (nI r) else f_X6_lower sg (nI r)) = some v.1 ∧ mkeep v.2 = mkeep z) (fun w k1 k2 => by
                    obtain ⟨v, e1, e2⟩ := ends_alike hr6 (ch_le hI hc m hr6) p0 p1 c2 (c3 r hr6) k2 x5
                    exact ⟨_, e2, e1, k1⟩)
                  refine ⟨(v, sg), (v, w), ?_, ?_, rfl, h.to rfl d3⟩
                  · unfold f_X8_drunk
                    rw [t1, Option.bind_some, if_neg n10, r1, Option.bind_some, if_neg n10, if_neg b1, if_neg b2, if_neg b3, if_neg b4, if_neg b5, if_pos b6, c1, Option.bind_some]
                    by_cases e : x5 = 0
                    · rw [if_pos e] at d2
                      rw [if_pos e, d2, Option.bind_some]
                    · rw [if_neg e] at d2
                      rw [if_neg e, d2, Option.bind_some]
                  · unfold f_X9_drunk
                    rw [t2, Option.bind_some, if_neg n10, r2, Option.bind_some, if_neg n10, in_1 b1 b2, Option.bind_some, if_neg n10, in_1 b3 b4, Option.bind_some, if_neg n10, in_1 b5 (Int32.not_lt.mpr b6), Option.bind_some, if_neg n10]
                    exact d1
                · exact out (-1000000000000000002) (by unfold f_X8_drunk; rw [t1, Option.bind_some, if_neg n10, r1, Option.bind_some, if_neg n10, if_neg b1, if_neg b2, if_neg b3, if_neg b4, if_neg b5, if_neg b6]) (by unfold f_X9_drunk; rw [t2, Option.bind_some, if_neg n10, r2, Option.bind_some, if_neg n10, in_1 b1 b2, Option.bind_some, if_neg n10, in_1 b3 b4, Option.bind_some, if_neg n10, in_0 (Or.inr (Int32.not_le.mp b6)), Option.bind_some, if_pos rfl])
    · exact out (-1000000000000000001) (by unfold f_X8_drunk; rw [t1, Option.bind_some, if_neg n10, r1, Option.bind_some, if_pos rfl]) (by unfold f_X9_drunk; rw [t2, Option.bind_some, if_neg n10, r2, Option.bind_some, if_pos rfl])
  · exact out (-1000000000000000001) (by unfold f_X8_drunk; rw [t1, Option.bind_some, if_pos rfl]) (by unfold f_X9_drunk; rw [t2, Option.bind_some, if_pos rfl])
end
/-! 98k.ways -/
section
/-! the ways to a room, as plain numbers: dA k r, the least excuses on a way of just k doors; gA, excuses first, then doors -/
def mnA (b : AS) (f : Nat → Nat) (r : Nat) : Nat → Nat
  | 0 => 1000000
  | n + 1 => if mnA b f r n ≤ (if 0 < a_wd b r n then a_in b n + f n else 1000000) then mnA b f r n else (if 0 < a_wd b r n then a_in b n + f n else 1000000)
def dA (b : AS) (g : Nat) : Nat → Nat → Nat
  | 0 => fun r => if r = g then 0 else 1000000
  | k + 1 => fun r => mnA b (dA b g k) r 6
def tlA (b : AS) (q : Nat) : Nat := 100 * a_in b q + 1
theorem mn_le (b : AS) (f : Nat → Nat) (r : Nat) : ∀ n, mnA b f r n ≤ 1000000
  | 0 => Nat.le_refl _
  | n + 1 => by
    have := mn_le b f r n
    unfold mnA
    split <;> (first | omega | (split <;> omega))
theorem mn_door {b : AS} {f : Nat → Nat} {r q : Nat} (hw : 0 < a_wd b r q) : ∀ n, q < n → mnA b f r n ≤ a_in b q + f q
  | 0, h => absurd h (Nat.not_lt_zero _)
  | n + 1, h => by
    unfold mnA
    by_cases e : q = n
    · subst e
      rw [if_pos hw]
      split <;> omega
    · have := mn_door hw n (by omega) (f := f)
      split <;> (first | omega | (split <;> omega))
theorem mn_att {b : AS} {f : Nat → Nat} {r : Nat} : ∀ n, mnA b f r n < 1000000 → ∃ q, q < n ∧ 0 < a_wd b r q ∧ mnA b f r n = a_in b q + f q
  | 0, h => absurd h (Nat.lt_irrefl _)
  | n + 1, h => by
    unfold mnA at h ⊢
    by_cases c : mnA b f r n ≤ (if 0 < a_wd b r n then a_in b n + f n else 1000000)
    · rw [if_pos c] at h ⊢
      obtain ⟨q, h1, h2, h3⟩ := mn_att n h
      exact ⟨q, by omega, h2, h3⟩
    · rw [if_neg c] at h ⊢
      by_cases d : 0 < a_wd b r n
      · rw [if_pos d] at h ⊢
        exact ⟨n, by omega, d, rfl⟩
      · rw [if_neg d] at h; omega
theorem dA_le (b : AS) (g : Nat) : ∀ k r, dA b g k r ≤ 1000000
  | 0, r => by
    show (if r = g then 0 else 1000000) ≤ 1000000
    split <;> omega
  | k + 1, r => mn_le b _ r 6
theorem in_8 (b : AS) (q : Nat) : a_in b q ≤ 8 := by unfold a_in; rw [cn8_cnt]; exact cnt_le _ 8
theorem dA_small (b : AS) (g : Nat) : ∀ k r, dA b g k r < 1000000 → dA b g k r ≤ 8 * k
  | 0, r, h => by
    by_cases c : r = g
    · rw [show dA b g 0 r = 0 from if_pos c]; omega
    · rw [show dA b g 0 r = 1000000 from if_neg c] at h; omega
  | k + 1, r, h => by
    obtain ⟨q, h1, h2, h3⟩ := mn_att 6 (show mnA b (dA b g k) r 6 < 1000000 from h)
    have h3 : dA b g (k + 1) r = a_in b q + dA b g k q := h3
    have h4 := in_8 b q
    have h5 := dA_small b g k q (by omega)
    omega
/-- the least weight of all ways -/
def Gw (b : AS) (g : Nat) (G : Nat → Nat) : Prop := ∀ p, G p ≤ 1000000 ∧ (∀ k, dA b g k p < 1000000 → G p ≤ 100 * dA b g k p + k) ∧ (G p = 1000000 ∨ ∃ k, dA b g k p < 1000000 ∧ G p = 100 * dA b g k p + k)
theorem least_ex (P : Nat → Prop) : ∀ n, P n → ∃ m, P m ∧ ∀ j, P j → m ≤ j := by
  intro n
  induction n using Nat.strongRecOn with
  | ind n ih =>
    intro h
    by_cases c : ∃ j, j < n ∧ P j
    · obtain ⟨j, h1, h2⟩ := c
      exact ih j h1 h2
    · exact ⟨n, h, fun j hj => Nat.not_lt.mp (fun q => c ⟨j, q, hj⟩)⟩
theorem Gw_ex (b : AS) (g : Nat) : ∃ G, Gw b g G := by
  have h : ∀ p, ∃ m, (m ≤ 1000000 ∧ (∀ k, dA b g k p < 1000000 → m ≤ 100 * dA b g k p + k) ∧ (m = 1000000 ∨ ∃ k, dA b g k p < 1000000 ∧ m = 100 * dA b g k p + k)) := by
    intro p
    obtain ⟨m, h1, h2⟩ := least_ex (fun m => m = 1000000 ∨ ∃ k, dA b g k p < 1000000 ∧ m = 100 * dA b g k p + k) 1000000 (Or.inl rfl)
    exact ⟨m, h2 _ (Or.inl rfl), fun k hk => h2 _ (Or.inr ⟨k, hk, rfl⟩), h1⟩
  exact ⟨fun p => Classical.choose (h p), fun p => Classical.choose_spec (h p)⟩
section GW
variable {b : AS} {g : Nat} {G : Nat → Nat}
theorem G_door (hG : Gw b g G) {p q : Nat} (hq : q < 6) (hw : 0 < a_wd b p q) : G p ≤ tlA b q + G q := by
  obtain ⟨p1, p2, p3⟩ := hG p
  obtain ⟨q1, q2, q3⟩ := hG q
  unfold tlA
  rcases q3 with e | ⟨k, k1, k2⟩
  · omega
  · have h1 : dA b g (k + 1) p ≤ a_in b q + dA b g k q := mn_door hw 6 hq
    by_cases c : dA b g (k + 1) p < 1000000
    · have := p2 (k + 1) c
      omega
    · omega
theorem G_goal (hG : Gw b g G) : G g = 0 := by
  have h0 : dA b g 0 g = 0 := if_pos rfl
  have := (hG g).2.1 0 (by rw [h0]; decide)
  omega
theorem G_par (hG : Gw b g G) {p : Nat} (hp : p ≠ g) (h : G p < 1000000) : ∃ q, q < 6 ∧ 0 < a_wd b p q ∧ G p = tlA b q + G q := by
  obtain ⟨p1, p2, p3⟩ := hG p
  rcases p3 with e | ⟨k, k1, k2⟩
  · omega
  · cases k with
    | zero =>
      have h0 : dA b g 0 p = 1000000 := if_neg hp
      omega
    | succ k =>
      obtain ⟨q, h1, h2, h3⟩ := mn_att 6 (show mnA b (dA b g k) p 6 < 1000000 from k1)
      have h3 : dA b g (k + 1) p = a_in b q + dA b g k q := h3
      refine ⟨q, h1, h2, ?_⟩
      have h4 := G_door hG h1 h2
      have h5 := (hG q).2.1 k (by omega)
      unfold tlA at h4 ⊢
      omega
theorem wd_R (hI : Inv b) {p q : Nat} (hp : p < 6) (hq : q < 6) (hw : 0 < a_wd b p q) : p < a_R b ∧ q < a_R b := by
  have h1 := hI.2.2.1 p q hp hq
  have h2 := hI.2.2.1 q p hq hp
  constructor
  · by_cases c : p < a_R b
    · exact c
    · have := h1.2.2 (by omega); omega
  · by_cases c : q < a_R b
    · exact c
    · have := h2.2.2 (by omega)
      rw [← h1.2.1] at this; omega
/-- one who is counted more -/
theorem cnt_more {p q : Nat → Bool} {n j : Nat} (hj : j < n) (h : ∀ i, i < n → p i = true → q i = true) (h1 : p j = false) (h2 : q j = true) : cnt p n + 1 ≤ cnt q n := by
  rw [cnt_but q j n hj, if_pos h2]
  have := cnt_mono (p := p) (q := fun i => q i && !(i == j)) n (fun i hi hp => by
    have e : i ≠ j := fun e => by rw [e, h1] at hp; cases hp
    simp [h i hi hp, e])
  omega
theorem cnt_lt {p : Nat → Bool} {n j : Nat} (hj : j < n) (h1 : p j = false) : cnt p n + 1 ≤ n := by
  have := cnt_more (p := p) (q := fun _ => true) hj (fun _ _ _ => rfl) h1 rfl
  have h2 := cnt_le (fun _ => true) n
  omega
/-- the least weight is that of a way with fewer doors than rooms -/
theorem G_short (hI : Inv b) (hG : Gw b g G) (hg : g < a_R b) : ∀ n p, G p = n → p < a_R b → n < 1000000 → ∃ k, k ≤ cnt (fun r => decide (G r < n)) (a_R b) ∧ dA b g k p < 1000000 ∧ n = 100 * dA b g k p + k := by
  intro n
  induction n using Nat.strongRecOn with
  | ind n ih =>
    intro p e hp hn
    have hR := hI.1.2.1
    by_cases c : p = g
    · have h0 : dA b g 0 p = 0 := if_pos c
      refine ⟨0, Nat.zero_le _, by rw [h0]; decide, ?_⟩
      rw [h0, ← e, c, G_goal hG]
    · obtain ⟨q, h1, h2, h3⟩ := G_par hG c (by rw [e]; exact hn)
      have hqR := (wd_R hI (by omega) h1 h2).2
      have ht : 1 ≤ tlA b q := by unfold tlA; omega
      obtain ⟨k, k1, k2, k3⟩ := ih (G q) (by omega) q rfl hqR (by omega)
      have h4 : dA b g (k + 1) p ≤ a_in b q + dA b g k q := mn_door h2 6 h1
      have h5 : cnt (fun r => decide (G r < G q)) (a_R b) + 1 ≤ cnt (fun r => decide (G r < n)) (a_R b) := cnt_more hqR (fun i _ hi => by
        have := of_decide_eq_true hi
        exact decide_eq_true (by omega)) (decide_eq_false (Nat.lt_irrefl _)) (decide_eq_true (by omega))
      have h6 : tlA b q = 100 * a_in b q + 1 := rfl
      have h7 : dA b g (k + 1) p < 1000000 := by omega
      have h8 := (hG p).2.1 (k + 1) h7
      exact ⟨k + 1, by omega, h7, by omega⟩
theorem G_k (hI : Inv b) (hG : Gw b g G) (hg : g < a_R b) {p : Nat} (hp : p < a_R b) (h : G p < 1000000) : ∃ k, k < a_R b ∧ dA b g k p < 1000000 ∧ G p = 100 * dA b g k p + k := by
  obtain ⟨k, k1, k2, k3⟩ := G_short hI hG hg (G p) p rfl hp h
  have := cnt_lt (p := fun r => decide (G r < G p)) hp (decide_eq_false (Nat.lt_irrefl _))
  exact ⟨k, by omega, k2, k3⟩
/-- who follows: by the class' measure, and by the reference's -/
def flC (b : AS) (G : Nat → Nat) (p q : Nat) : Prop := 0 < a_wd b p q ∧ tlA b q + G q = G p
theorem fl_ref (hI : Inv b) (hG : Gw b g G) (hg : g < a_R b) {p q j : Nat} (hp : p < a_R b) (hq : q < 6) (hj : j + 1 < a_R b) (hd : dA b g (j + 1) p < 1000000) (hGp : G p = 100 * dA b g (j + 1) p + (j + 1)) : (0 < a_wd b p q ∧ a_in b q + dA b g j q = dA b g (j + 1) p) ↔ flC b G p q := by
  have hR := hI.1.2.1
  have h6 : tlA b q = 100 * a_in b q + 1 := rfl
  constructor
  · rintro ⟨h1, h2⟩
    refine ⟨h1, ?_⟩
    have h3 := G_door hG hq h1
    have h4 := (hG q).2.1 j (by omega)
    omega
  · rintro ⟨h1, h2⟩
    refine ⟨h1, ?_⟩
    have hqR := (wd_R hI (by omega) hq h1).2
    have hb := (hG p).1
    have hlt : G q < 1000000 := by omega
    obtain ⟨k, k1, k2, k3⟩ := G_k hI hG hg hqR hlt
    have : k = j := by omega
    subst this
    omega
theorem fl_next (hI : Inv b) (hG : Gw b g G) (hg : g < a_R b) {p q j : Nat} (hp : p < a_R b) (hq : q < 6) (hj : j + 1 < a_R b) (hd : dA b g (j + 1) p < 1000000) (hGp : G p = 100 * dA b g (j + 1) p + (j + 1)) (h : flC b G p q) : q < a_R b ∧ dA b g j q < 1000000 ∧ G q = 100 * dA b g j q + j := by
  have hR := hI.1.2.1
  have h6 : tlA b q = 100 * a_in b q + 1 := rfl
  obtain ⟨h1, h2⟩ := (fl_ref hI hG hg hp hq hj hd hGp).mpr h
  have h3 := h.2
  exact ⟨(wd_R hI (by omega) hq h1).2, by omega, by omega⟩
theorem fl_first (hI : Inv b) (hG : Gw b g G) {p : Nat} (hp : p < a_R b) (h0 : G p ≠ 0) (h : G p < 1000000) : ∃ q, q < a_R b ∧ flC b G p q ∧ ∀ j, j < q → ¬ flC b G p j := by
  have hR := hI.1.2.1
  obtain ⟨q, h1, h2, h3⟩ := G_par hG (fun e => h0 (by rw [e]; exact G_goal hG)) h
  obtain ⟨m, m1, m2⟩ := least_ex (fun q => q < a_R b ∧ flC b G p q) q ⟨(wd_R hI (by omega) h1 h2).2, h2, h3.symm⟩
  exact ⟨m, m1.1, m1.2, fun j hj hc => by have := m2 j ⟨by omega, hc⟩; omega⟩
/-- the way, room by room -/
theorem way_ex (hI : Inv b) (hG : Gw b g G) (hg : g < a_R b) {r k : Nat} (hr : r < a_R b) (hk : k < a_R b) (hd : dA b g k r < 1000000) (hGr : G r = 100 * dA b g k r + k) : ∃ P : Nat → Nat, P 0 = r ∧ (∀ n, n ≤ k → P n < a_R b ∧ dA b g (k - n) (P n) < 1000000 ∧ G (P n) = 100 * dA b g (k - n) (P n) + (k - n)) ∧ ∀ n, n < k → flC b G (P n) (P (n + 1)) ∧ ∀ j, j < P (n + 1) → ¬ flC b G (P n) j := by
  have hR := hI.1.2.1
  have hf : ∀ p, ∃ q, p < a_R b ∧ G p ≠ 0 ∧ G p < 1000000 → q < a_R b ∧ flC b G p q ∧ ∀ j, j < q → ¬ flC b G p j := by
    intro p
    by_cases c : p < a_R b ∧ G p ≠ 0 ∧ G p < 1000000
    · obtain ⟨q, hq⟩ := fl_first hI hG c.1 c.2.1 c.2.2
      exact ⟨q, fun _ => hq⟩
    · exact ⟨0, fun h => absurd h c⟩
  obtain ⟨F, hF⟩ : ∃ F : Nat → Nat, ∀ p, p < a_R b ∧ G p ≠ 0 ∧ G p < 1000000 → F p < a_R b ∧ flC b G p (F p) ∧ ∀ j, j < F p → ¬ flC b G p j := ⟨fun p => Classical.choose (hf p), fun p => Classical.choose_spec (hf p)⟩
  have st : ∀ n, n ≤ k → (fun n => Nat.rec (motive := fun _ => Nat) r (fun _ p => F p) n) n < a_R b ∧ dA b g (k - n) ((fun n => Nat.rec (motive := fun _ => Nat) r (fun _ p => F p) n) n) < 1000000 ∧ G ((fun n => Nat.rec (motive := fun _ => Nat) r (fun _ p => F p) n) n) = 100 * dA b g (k - n) ((fun n => Nat.rec (motive := fun _ => Nat) r (fun _ p => F p) n) n) + (k - n) := by
    intro n
    induction n with
    | zero => intro _; exact ⟨hr, hd, hGr⟩
    | succ n ih =>
      intro hn
      obtain ⟨i1, i2, i3⟩ := ih (by omega)
      generalize e : (fun n => Nat.rec (motive := fun _ => Nat) r (fun _ p => F p) n) n = p at i1 i2 i3
      have e' : (fun n => Nat.rec (motive := fun _ => Nat) r (fun _ p => F p) n) (n + 1) = F p := by rw [← e]
      rw [e']
      obtain ⟨j, hj⟩ : ∃ j, j = k - (n + 1) := ⟨_, rfl⟩
      rw [← hj]
      rw [show k - n = j + 1 by omega] at i2 i3
      have hlt : G p < 1000000 := by
        have h8 := dA_small b g _ _ i2
        omega
      obtain ⟨f1, f2, f3⟩ := hF p ⟨i1, by omega, hlt⟩
      exact fl_next hI hG hg i1 (by omega) (by omega) i2 i3 f2
  refine ⟨fun n => Nat.rec (motive := fun _ => Nat) r (fun _ p => F p) n, rfl, st, ?_⟩
  intro n hn
  obtain ⟨i1, i2, i3⟩ := st n (by omega)
  have hlt : G ((fun n => Nat.rec (motive := fun _ => Nat) r (fun _ p => F p) n) n) < 1000000 := by
    have h8 := dA_small b g _ _ i2
    omega
  exact ⟨(hF _ ⟨i1, by omega, hlt⟩).2.1, (hF _ ⟨i1, by omega, hlt⟩).2.2⟩
end GW
end
/-! 98l.cway -/
section
/-! the class' measure of ways -/
def Bd (b : AS) (g : Nat) (G : Nat → Nat) (t i : Nat) (f : Nat → Nat) : Prop := (∀ p, p < a_R b → G p ≤ f p ∧ f p ≤ 1000000) ∧ (∀ p, p < a_R b → ∀ k, k ≤ t → dA b g k p < 1000000 → f p ≤ 100 * dA b g k p + k) ∧ ∀ p, p < i → ∀ k, k ≤ t + 1 → dA b g k p < 1000000 → f p ≤ 100 * dA b g k p + k
def updN (f : Nat → Nat) (p v : Nat) : Nat → Nat := fun r => if r = p then v else f r
section CM
variable {b : AS} {h : HS} {g : Nat} {G : Nat → Nat}
theorem Bd_next (hI : Inv b) (hG : Gw b g G) {t i v : Nat} {f : Nat → Nat} (hi : i < a_R b) (hB : Bd b g G t i f) (v1 : v ≤ f i) (v2 : ∀ q, q < a_R b → 0 < a_wd b i q → v ≤ tlA b q + f q) (v3 : v = f i ∨ ∃ q, q < a_R b ∧ 0 < a_wd b i q ∧ v = tlA b q + f q) : Bd b g G t (i + 1) (updN f i v) := by
  obtain ⟨h1, h2, h3⟩ := hB
  have hR := hI.1.2.1
  refine ⟨fun p hp => ?_, fun p hp k hk hd => ?_, fun p hp k hk hd => ?_⟩
  · by_cases e : p = i
    · rw [show updN f i v p = v from if_pos e]
      subst e
      have := h1 p hp
      refine ⟨?_, by omega⟩
      rcases v3 with e | ⟨q, q1, q2, q3⟩
      · omega
      · have h4 := G_door hG (show q < 6 by omega) q2
        have h5 := (h1 q q1).1
        omega
    · rw [show updN f i v p = f p from if_neg e]; exact h1 p hp
  · by_cases e : p = i
    · rw [show updN f i v p = v from if_pos e]
      subst e
      have := h2 p hp k hk hd
      omega
    · rw [show updN f i v p = f p from if_neg e]; exact h2 p hp k hk hd
  · by_cases e : p = i
    · rw [show updN f i v p = v from if_pos e]
      subst e
      cases k with
      | zero =>
        have := h2 p hi 0 (Nat.zero_le _) hd
        omega
      | succ k =>
        obtain ⟨q, q1, q2, q3⟩ := mn_att 6 (show mnA b (dA b g k) p 6 < 1000000 from hd)
        have q3 : dA b g (k + 1) p = a_in b q + dA b g k q := q3
        have hq := (wd_R hI (by omega) q1 q2).2
        have h4 := v2 q hq q2
        have h5 := h2 q hq k (by omega) (by omega)
        have h6 : tlA b q = 100 * a_in b q + 1 := rfl
        omega
    · rw [show updN f i v p = f p from if_neg e]; exact h3 p (by omega) k hk hd
theorem tl_lt (b : AS) (q : Nat) : tlA b q ≤ 801 := by
  have := in_8 b q
  unfold tlA; omega
theorem cshorten (hI : Inv b) (hH : Hc h b) {p : Nat} (hp : p < a_R b) {ro : OS} {f : Nat → Nat} (hT : ∀ r, r < a_R b → O_toll ro r = nI (tlA b r)) (hF : ∀ r, r < a_R b → O_far ro r = nI (f r) ∧ f r ≤ 1000000) : ∃ ro' v, f_X5_shorten ro h (nI p) = some ro' ∧ O_toll ro' = O_toll ro ∧ O_far ro' p = nI v ∧ (∀ r, r ≠ p → O_far ro' r = O_far ro r) ∧ v ≤ f p ∧ (∀ q, q < a_R b → 0 < a_wd b p q → v ≤ tlA b q + f q) ∧ (v = f p ∨ ∃ q, q < a_R b ∧ 0 < a_wd b p q ∧ v = tlA b q + f q) := by
  obtain ⟨N, hN, hFU⟩ := FU_ex
  have hR := hI.1.2.1
  have hp6 : p < 6 := by omega
  unfold f_X5_shorten
  rw [hFU]
  refine it_rule (bot := fun _ _ _ _ => none) (a_R b) (fun i (s : OS × Nat) => O_toll s.1 = O_toll ro ∧ O_far s.1 p = nI s.2 ∧ (∀ r, r ≠ p → O_far s.1 r = O_far ro r) ∧ s.2 ≤ f p ∧ (∀ q, q < i → 0 < a_wd b p q → s.2 ≤ tlA b q + f q) ∧ (s.2 = f p ∨ ∃ q, q < a_R b ∧ 0 < a_wd b p q ∧ s.2 = tlA b q + f q)) (fun k i s => ∃ ro' v, k s.1 h (nI p) (nI i) = some ro' ∧ O_toll ro' = O_toll ro ∧ O_far ro' p = nI v ∧ (∀ r, r ≠ p → O_far ro' r = O_far ro r) ∧ v ≤ f p ∧ (∀ q, q < a_R b → 0 < a_wd b p q → v ≤ tlA b q + f q) ∧ (v = f p ∨ ∃ q, q < a_R b ∧ 0 < a_wd b p q ∧ v = tlA b q + f q)) ?_ ?_ N 0 (ro, f p) (by omega) (by omega) ⟨rfl, (hF p hp).1, fun _ _ => rfl, Nat.le_refl _, fun q hq => absurd hq (Nat.not_lt_zero _), Or.inl rfl⟩
  · rintro k ⟨s, v⟩ hs
    refine ⟨s, v, ?_, hs⟩
    show X5_shorten_B2 k s h (nI p) (nI (a_R b)) = _
    unfold X5_shorten_B2
    rw [hH.1, if_pos (Int32.le_refl _)]
  · rintro k i ⟨s, v⟩ hi ⟨i1, i2, i3, i4, i5, i6⟩ hk
    have i1 : O_toll s = O_toll ro := i1
    have i2 : O_far s p = nI v := i2
    have i3 : ∀ r, r ≠ p → O_far s r = O_far ro r := i3
    have i4 : v ≤ f p := i4
    have hi6 : i < 6 := by omega
    have hw := (hI.2.2.1 p i hp6 hi6).1
    show ∃ ro' v', X5_shorten_B2 k s h (nI p) (nI i) = some ro' ∧ _
    unfold X5_shorten_B2 X5_shorten_J47
    rw [hH.1, if_neg (nI_ge hi (by omega)), width_spec hH hp6 hi6, Option.bind_some, nI_1]
    by_cases e : 0 < a_wd b p i
    · have hip : i ≠ p := fun q => by rw [q, hI.2.2.2.1 p hp6] at e; omega
      have hb := (hF p hp).2
      have hb2 := (hF i hi).2
      have hb3 := tl_lt b i
      rw [if_neg (show ¬ nI (a_wd b p i) ≤ (0 : Int32) from nI_nle e (by omega)), chk_nI hp6 (by decide), chk_nI hi6 (by decide), chk_nI hi6 (by decide), chk_nI hp6 (by decide), ltA_eq, nI_clamp (show p < 2 ^ 31 by omega), nI_clamp (show i < 2 ^ 31 by omega), i1, hT i hi, i3 i hip, (hF i hi).1, i2, nI_add]
      by_cases c : tlA b i + f i < v
      · rw [if_pos (nI_lt c (by omega))]
        refine hk (O_set_far s (upd (O_far s) p (nI (tlA b i + f i))), tlA b i + f i) ⟨i1, pk_us, fun r hr => (pk_un hr).trans (i3 r hr), by show tlA b i + f i ≤ f p; omega, fun q hq hd => ?_, Or.inr ⟨i, hi, e, rfl⟩⟩
        show tlA b i + f i ≤ tlA b q + f q
        by_cases c2 : q = i
        · rw [c2]; exact Nat.le_refl _
        · have : v ≤ tlA b q + f q := i5 q (by omega) hd
          omega
      · rw [if_neg (nI_nlt (by omega) (by omega))]
        refine hk (O_set_far s (upd (O_far s) p (nI v)), v) ⟨i1, pk_us, fun r hr => (pk_un hr).trans (i3 r hr), i4, fun q hq hd => ?_, i6⟩
        show v ≤ tlA b q + f q
        by_cases c2 : q = i
        · rw [c2]; omega
        · exact i5 q (by omega) hd
    · rw [if_pos (show nI (a_wd b p i) ≤ (0 : Int32) from nI_le (b := 0) (by omega) (by decide))]
      refine hk (s, v) ⟨i1, i2, i3, i4, fun q hq hd => ?_, i6⟩
      by_cases c2 : q = i
      · rw [c2] at hd; exact absurd hd e
      · exact i5 q (by omega) hd
theorem cmeasure (hI : Inv b) (hH : Hc h b) (hG : Gw b g G) (hg : g < a_R b) (ro : OS) : ∃ ro', f_X5_measure ro h (nI g) = some ro' ∧ ∀ r, r < a_R b → O_toll ro' r = nI (tlA b r) ∧ O_far ro' r = nI (G r) := by
  obtain ⟨N, hN, hFU⟩ := FU_ex
  have hR := hI.1.2.1
  -- the turns
  have l2 : ∀ ro1 : OS, (∀ r, r < a_R b → O_toll ro1 r = nI (tlA b r) ∧ O_far ro1 r = nI (if r = g then 0 else 1000000)) → ∃ ro', it X5_measure_B51 (fun _ _ _ => none) FU ro1 h 0 = some ro' ∧ ∀ r, r < a_R b → O_toll ro' r = nI (tlA b r) ∧ O_far ro' r = nI (G r) := by
    intro ro1 h1
    rw [hFU]
    refine it_rule (bot := fun _ _ _ => none) (a_R b) (fun t (s : OS × (Nat → Nat)) => (∀ r, r < a_R b → O_toll s.1 r = nI (tlA b r) ∧ O_far s.1 r = nI (s.2 r)) ∧ Bd b g G t 0 s.2) (fun k t s => ∃ ro', k s.1 h (nI t) = some ro' ∧ ∀ r, r < a_R b → O_toll ro' r = nI (tlA b r) ∧ O_far ro' r = nI (G r)) ?_ ?_ N 0 (ro1, fun r => if r = g then 0 else 1000000) (by omega) (by omega) ⟨h1, ⟨fun p hp => ⟨?_, ?_⟩, fun p hp k hk hd => ?_, fun p hp => absurd hp (Nat.not_lt_zero _)⟩⟩
    · rintro k ⟨s, f⟩ ⟨i1, i2, i3, -⟩
      have i1 : ∀ r, r < a_R b → O_toll s r = nI (tlA b r) ∧ O_far s r = nI (f r) := i1
      have i2 : ∀ p, p < a_R b → G p ≤ f p ∧ f p ≤ 1000000 := i2
      have i3 : ∀ p, p < a_R b → ∀ k, k ≤ a_R b → dA b g k p < 1000000 → f p ≤ 100 * dA b g k p + k := i3
      refine ⟨s, ?_, fun r hr => ⟨(i1 r hr).1, ?_⟩⟩
      · show X5_measure_B51 k s h (nI (a_R b)) = _
        unfold X5_measure_B51
        rw [hH.1, if_pos (Int32.le_refl _)]
      · rw [(i1 r hr).2]
        congr 1
        have h2 := i2 r hr
        by_cases c : G r < 1000000
        · obtain ⟨k, k1, k2, k3⟩ := G_k hI hG hg hr c
          have := i3 r hr k (by omega) k2
          omega
        · omega
    · rintro k t ⟨s, f⟩ ht ⟨i1, i2⟩ hkk
      show ∃ ro', X5_measure_B51 k s h (nI t) = some ro' ∧ _
      unfold X5_measure_B51
      rw [hH.1, if_neg (nI_ge ht (by omega)), hFU]
      refine it_rule (bot := fun _ _ _ _ => none) (a_R b) (fun i (s : OS × (Nat → Nat)) => (∀ r, r < a_R b → O_toll s.1 r = nI (tlA b r) ∧ O_far s.1 r = nI (s.2 r)) ∧ Bd b g G t i s.2) (fun k2 i s => ∃ ro', k2 s.1 h (nI t) (nI i) = some ro' ∧ ∀ r, r < a_R b → O_toll ro' r = nI (tlA b r) ∧ O_far ro' r = nI (G r)) ?_ ?_ N 0 (s, f) (by omega) (by omega) ⟨i1, i2⟩
      · rintro k2 ⟨s, f⟩ ⟨j1, j2, j3, j4⟩
        show ∃ ro', X5_measure_B62 k k2 s h (nI t) (nI (a_R b)) = some ro' ∧ _
        unfold X5_measure_B62
        rw [hH.1, if_pos (Int32.le_refl _), nI_1]
        exact hkk (s, f) ⟨j1, j2, fun p hp k hk hd => j4 p hp k hk hd, fun p hp => absurd hp (Nat.not_lt_zero _)⟩
      · rintro k2 i ⟨s, f⟩ hi ⟨j1, j2⟩ hk2
        have j1 : ∀ r, r < a_R b → O_toll s r = nI (tlA b r) ∧ O_far s r = nI (f r) := j1
        have j2 : Bd b g G t i f := j2
        obtain ⟨s', v, e1, e2, e3, e4, e5, e6, e7⟩ := cshorten hI hH hi (ro := s) (f := f) (fun r hr => (j1 r hr).1) (fun r hr => ⟨(j1 r hr).2, (j2.1 r hr).2⟩)
        show ∃ ro', X5_measure_B62 k k2 s h (nI t) (nI i) = some ro' ∧ _
        unfold X5_measure_B62
        rw [hH.1, if_neg (nI_ge hi (by omega)), e1, Option.bind_some, nI_1]
        refine hk2 (s', updN f i v) ⟨fun r hr => ?_, Bd_next hI hG hi j2 e5 e6 e7⟩
        show O_toll s' r = _ ∧ O_far s' r = nI (updN f i v r)
        rw [e2]
        refine ⟨(j1 r hr).1, ?_⟩
        by_cases c : r = i
        · rw [show updN f i v r = v from if_pos c, c, e3]
        · rw [show updN f i v r = f r from if_neg c, e4 r c]; exact (j1 r hr).2
    · show G p ≤ (if p = g then 0 else 1000000)
      by_cases c : p = g
      · rw [if_pos c, c, G_goal hG]; exact Nat.le_refl _
      · rw [if_neg c]; exact (hG p).1
    · show (if p = g then 0 else 1000000) ≤ 1000000
      split <;> omega
    · show (if p = g then 0 else 1000000) ≤ _
      have hk0 : k = 0 := by omega
      subst hk0
      by_cases c : p = g
      · rw [if_pos c]; exact Nat.zero_le _
      · rw [show dA b g 0 p = 1000000 from if_neg c] at hd; omega
  unfold f_X5_measure
  rw [hFU]
  refine it_rule (bot := fun _ _ _ _ => none) (a_R b) (fun i (s : OS) => ∀ r, r < i → O_toll s r = nI (tlA b r) ∧ O_far s r = nI (if r = g then 0 else 1000000)) (fun k i s => ∃ ro', k s h (nI g) (nI i) = some ro' ∧ ∀ r, r < a_R b → O_toll ro' r = nI (tlA b r) ∧ O_far ro' r = nI (G r)) ?_ ?_ N 0 ro (by omega) (by omega) (fun r hr => absurd hr (Nat.not_lt_zero _))
  · intro k s hs
    unfold X5_measure_B2
    rw [hH.1, if_pos (Int32.le_refl _)]
    exact l2 s hs
  · intro k i s hi hs hk
    have go : ∀ (x : Int32), x = nI (if i = g then 0 else 1000000) → ∃ ro', X5_measure_J42 k (O_set_toll s (upd (O_toll s) i (nI (tlA b i)))) h (nI g) (nI i) x (nI i) = some ro' ∧ ∀ r, r < a_R b → O_toll ro' r = nI (tlA b r) ∧ O_far ro' r = nI (G r) := by
      intro x hx
      unfold X5_measure_J42
      rw [chk_nI (show i < 6 by omega) (by decide), ltA_eq, nI_clamp (show i < 2 ^ 31 by omega), nI_1]
      refine hk _ (fun r hr => ?_)
      show upd (O_toll s) i (nI (tlA b i)) r = _ ∧ upd (O_far s) i x r = _
      by_cases c : r = i
      · subst c
        exact ⟨pk_us, pk_us.trans hx⟩
      · exact ⟨(pk_un c).trans (hs r (by omega)).1, (pk_un c).trans (hs r (by omega)).2⟩
    unfold X5_measure_B2
    rw [hH.1, if_neg (nI_ge hi (by omega)), count_spec hI hH (show i < 2 ^ 31 by omega), Option.bind_some, chk_nI (show i < 6 by omega) (by decide), ltA_eq, nI_clamp (show i < 2 ^ 31 by omega), show (100 : Int32) * nI (a_in b i) + 1 = nI (tlA b i) by rw [show (100 : Int32) = nI 100 from rfl, pk_mul, nI_1]; rfl]
    by_cases c : i = g
    · rw [if_pos (by rw [c])]
      exact go 0 (by rw [if_pos c]; rfl)
    · rw [if_neg (fun q => c ((nI_eq (by omega) (by omega)).mp q))]
      exact go 1000000 (by rw [if_neg c]; rfl)
theorem cfollow (hI : Inv b) (hH : Hc h b) (hG : Gw b g G) {ro : OS} (hro : ∀ r, r < a_R b → O_toll ro r = nI (tlA b r) ∧ O_far ro r = nI (G r)) {p q : Nat} (hp : p < a_R b) (hq : q < a_R b) (h1 : flC b G p q) (h2 : ∀ j, j < q → ¬ flC b G p j) : f_X5_follower ro h (nI p) = some (nI q) := by
  obtain ⟨N, hN, hFU⟩ := FU_ex
  have hR := hI.1.2.1
  have hp6 : p < 6 := by omega
  unfold f_X5_follower
  rw [hFU]
  refine it_rule (bot := fun _ _ _ _ => none) q (fun _ (_ : Unit) => True) (fun k i _ => k ro h (nI p) (nI i) = some (nI q)) ?_ ?_ N 0 () (by omega) (by omega) trivial
  · intro k _ _
    have hw := (hI.2.2.1 p q hp6 (by omega)).1
    have e := h1.1
    unfold X5_follower_B2
    rw [hH.1, if_neg (nI_ge hq (by omega)), width_spec hH hp6 (by omega), Option.bind_some, if_neg (show ¬ nI (a_wd b p q) ≤ (0 : Int32) from nI_nle e (by omega)), chk_nI (show q < 6 by omega) (by decide), chk_nI (show q < 6 by omega) (by decide), chk_nI hp6 (by decide), nI_clamp (show p < 2 ^ 31 by omega), nI_clamp (show q < 2 ^ 31 by omega), (hro q hq).1, (hro q hq).2, (hro p hp).2, nI_add, if_pos (by rw [h1.2])]
  · intro k i _ hi _ hk
    have hk := hk () trivial
    have hw := (hI.2.2.1 p i hp6 (by omega)).1
    have hiR : i < a_R b := by omega
    unfold X5_follower_B2 X5_follower_J43
    rw [hH.1, if_neg (nI_ge hiR (by omega)), width_spec hH hp6 (by omega), Option.bind_some, nI_1]
    by_cases e : 0 < a_wd b p i
    · have b1 := tl_lt b i
      have b2 := (hG i).1
      have b3 := (hG p).1
      rw [if_neg (show ¬ nI (a_wd b p i) ≤ (0 : Int32) from nI_nle e (by omega)), chk_nI (show i < 6 by omega) (by decide), chk_nI (show i < 6 by omega) (by decide), chk_nI hp6 (by decide), nI_clamp (show p < 2 ^ 31 by omega), nI_clamp (show i < 2 ^ 31 by omega), (hro i hiR).1, (hro i hiR).2, (hro p hp).2, nI_add, if_neg (fun c => h2 i hi ⟨e, (nI_eq (by omega) (by omega)).mp c⟩)]
      exact hk
    · rw [if_pos (show nI (a_wd b p i) ≤ (0 : Int32) from nI_le (b := 0) (by omega) (by decide))]
      exact hk
/-- the i-th room on the way, by the class -/
theorem cstep (hI : Inv b) (hH : Hc h b) (hG : Gw b g G) {ro : OS} (hro : ∀ r, r < a_R b → O_toll ro r = nI (tlA b r) ∧ O_far ro r = nI (G r)) {r k i : Nat} (hk : k < a_R b) (P : Nat → Nat) (p0 : P 0 = r) (p1 : ∀ n, n ≤ k → P n < a_R b ∧ dA b g (k - n) (P n) < 1000000 ∧ G (P n) = 100 * dA b g (k - n) (P n) + (k - n)) (p2 : ∀ n, n < k → flC b G (P n) (P (n + 1)) ∧ ∀ j, j < P (n + 1) → ¬ flC b G (P n) j) (hi : i < 6) : f_X5_step ro h (nI r) (nI i) = some (if i ≤ k then nI (P i) else -6) := by
  obtain ⟨N, hN, hFU⟩ := FU_ex
  have hR := hI.1.2.1
  have hr : r < a_R b := by rw [← p0]; exact (p1 0 (Nat.zero_le _)).1
  have sm : ∀ n, n ≤ k → G (P n) < 1000000 := fun n hn => by
    obtain ⟨-, h1, h2⟩ := p1 n hn
    have := dA_small b g _ _ h1
    omega
  have hGr : G r < 1000000 := by rw [← p0]; exact sm 0 (Nat.zero_le _)
  unfold f_X5_step
  rw [if_neg (nI_pos (by omega)), if_neg (show ¬ (6 : Int32) ≤ nI i from nlit (by decide) hi), chk_nI (show r < 6 by omega) (by decide), nI_clamp (show r < 2 ^ 31 by omega), (hro r hr).2, if_pos (show nI (G r) < (1000000 : Int32) from nI_lt (b := 1000000) hGr (by decide)), hFU]
  have st : ∀ (kk : OS → HS → Int32 → Int32 → Int32 → Option Int32) n, n < i → n < k → kk ro h (nI i) (nI (P (n + 1))) (nI (n + 1)) = some (if i ≤ k then nI (P i) else -6) → X5_step_B30 kk ro h (nI i) (nI (P n)) (nI n) = some (if i ≤ k then nI (P i) else -6) := by
    intro kk n hn hnk hkk
    obtain ⟨q1, q2, q3⟩ := p1 n (by omega)
    have q4 := (p1 (n + 1) (by omega)).1
    have q5 := sm n (by omega)
    unfold X5_step_B30
    rw [if_neg (nI_ge hn (by omega)), chk_nI (show P n < 6 by omega) (by decide), nI_clamp (show P n < 2 ^ 31 by omega), (hro _ q1).2, if_neg (fun c => by
      have := (nI_eq (show G (P n) < 2 ^ 31 by omega) (b := 0) (by decide)).mp c
      omega), cfollow hI hH hG hro q1 q4 (p2 n hnk).1 (p2 n hnk).2, Option.bind_some, nI_1]
    exact hkk
  have q : it X5_step_B30 (fun _ _ _ _ _ => none) N ro h (nI i) (nI (P 0)) (nI 0) = some (if i ≤ k then nI (P i) else -6) := by
    by_cases c : i ≤ k
    · refine it_rule (bot := fun _ _ _ _ _ => none) i (fun _ (_ : Unit) => True) (fun kk n _ => kk ro h (nI i) (nI (P n)) (nI n) = some (if i ≤ k then nI (P i) else -6)) ?_ ?_ N 0 () (by omega) (by omega) trivial
      · intro kk _ _
        unfold X5_step_B30
        rw [if_pos (Int32.le_refl _), if_pos c]
      · intro kk n _ hn _ hkk
        exact st kk n hn (by omega) (hkk () trivial)
    · refine it_rule (bot := fun _ _ _ _ _ => none) k (fun _ (_ : Unit) => True) (fun kk n _ => kk ro h (nI i) (nI (P n)) (nI n) = some (if i ≤ k then nI (P i) else -6)) ?_ ?_ N 0 () (by omega) (by omega) trivial
      · intro kk _ _
        obtain ⟨q1, q2, q3⟩ := p1 k (Nat.le_refl _)
        rw [Nat.sub_self] at q2 q3
        have e : dA b g 0 (P k) = 0 := by
          by_cases c2 : P k = g
          · exact if_pos c2
          · rw [show dA b g 0 (P k) = 1000000 from if_neg c2] at q2; omega
        rw [e] at q3
        unfold X5_step_B30
        rw [if_neg (nI_ge (show k < i by omega) (by omega)), chk_nI (show P k < 6 by omega) (by decide), nI_clamp (show P k < 2 ^ 31 by omega), (hro _ q1).2, q3, if_pos (show nI (100 * 0 + 0) = 0 from rfl), if_neg c]
      · intro kk n _ hn _ hkk
        exact st kk n (by omega) hn (hkk () trivial)
  rw [p0] at q
  exact q
end CM
end
/-! 98m.rway -/
section
/-! the reference's ways -/
theorem mnow_of {w w' : MS} (h : mkeep w' = mkeep w) (h2 : msc w' = msc w) : mnow w' = mnow w := by
  show ((mkeep w').1.1, (msc w').2.2.2.2.1, (mkeep w').1.2.2.1, (mkeep w').1.2.2.2.1, (mkeep w').1.2.2.2.2.1, (mkeep w').1.2.2.2.2.2.1, (mkeep w').1.2.2.2.2.2.2.1, (msc w').1, (msc w').2.1, (msc w').2.2.1, (msc w').2.2.2.1, (mkeep w').1.2.2.2.2.2.2.2.2.2.2.2.1, (mkeep w').1.2.2.2.2.2.2.2.2.2.2.2.2) = mnow w
  rw [h, h2]; rfl
theorem sc_dear {z z' : MS} {f : Nat → Int32} (h : z' = M_set_dear z f) : mkeep z' = mkeep z ∧ msc z' = msc z ∧ M_dear z' = f := by subst h; exact ⟨kp_dear z f, rfl, rfl⟩
/-- the reference's table of ways, filled up to n -/
def De (b : AS) (g : Nat) (z w : MS) (n : Nat) : Prop := mkeep w = mkeep z ∧ msc w = msc z ∧ ∀ j, j < n → M_dear w j = nI (dA b g (j / 6) (j % 6))
section RE
variable {b : AS} {g : Nat} {G : Nat → Nat} {z : MS}
theorem De.now {w : MS} {n : Nat} (h : De b g z w n) (hM : Mc (mnow z) b) : Mc (mnow w) b := by rw [mnow_of h.1 h.2.1]; exact hM
theorem De.at {w : MS} {n k r : Nat} (h : De b g z w n) (hr : r < 6) (hn : 6 * k + r < n) : M_dear w (6 * k + r) = nI (dA b g k r) := by
  rw [h.2.2 _ hn, show (6 * k + r) / 6 = k by omega, show (6 * k + r) % 6 = r by omega]
theorem De.put {w w' : MS} {k r : Nat} {x : Int32} (h : De b g z w (6 * k + r)) (hr : r < 6) (hx : x = nI (dA b g k r)) (e : w' = M_set_dear w (upd (M_dear w) (6 * k + r) x)) : De b g z w' (6 * k + r + 1) := by
  obtain ⟨e1, e2, e3⟩ := sc_dear e
  refine ⟨e1.trans h.1, e2.trans h.2.1, fun j hj => ?_⟩
  rw [e3]
  by_cases c : j = 6 * k + r
  · rw [c, pk_us, hx, show (6 * k + r) / 6 = k by omega, show (6 * k + r) % 6 = r by omega]
  · rw [pk_un c]; exact h.2.2 j (by omega)
theorem De.W {w : MS} {n : Nat} (h : De b g z w n) (hM : Mc (mnow z) b) {r q : Nat} (hr : r < 6) (hq : q < 6) : M_width w (6 * r + q) = nI (a_wd b r q) := (h.now hM).2.2.2.2.1 r q hr hq
theorem mn_b (b : AS) (g : Nat) (k r n : Nat) : mnA b (dA b g k) r n ≤ 1000000 := mn_le b _ r n
theorem ix66 (k i : Nat) : (((6 : Int32) * nI (k + 1)) - (6 : Int32)) + nI i = nI (6 * k + i) := by
  rw [show (6 : Int32) = nI 6 from rfl, pk_mul, pk_sub (by omega), nI_add, show 6 * (k + 1) - 6 + i = 6 * k + i by omega]
/-- one cell of the table -/
theorem rcell (hI : Inv b) (hM : Mc (mnow z) b) {w : MS} {k r : Nat} (hk : k < 5) (hr : r < 6) (hD : De b g z w (6 * (k + 1) + r)) (k60 : MS → Int32 → Int32 → Int32 → Option (Int32 × MS)) (k70 : MS → Int32 → Int32 → Int32 → Int32 → Option (Int32 × MS)) (x1 x3 : Int32) (P : Int32 × MS → Prop) (hk7 : ∀ w', De b g z w' (6 * (k + 1) + r + 1) → ∃ v, k70 w' x1 x3 (nI (k + 1)) (nI (r + 1)) = some v ∧ P v) : ∃ v, it (X9_excuses_B84 k60 k70) (fun _ _ _ _ _ _ _ => none) FU w x1 x3 (nI (k + 1)) (nI r) 1000000 0 = some v ∧ P v := by
  obtain ⟨N, hN, hFU⟩ := FU_ex
  rw [hFU]
  refine it_rule (bot := fun _ _ _ _ _ _ _ => none) 6 (fun _ (_ : Unit) => True) (fun kk i _ => ∃ v, kk w x1 x3 (nI (k + 1)) (nI r) (nI (mnA b (dA b g k) r i)) (nI i) = some v ∧ P v) ?_ ?_ N 0 () (by omega) (by omega) trivial
  · intro kk _ _
    unfold X9_excuses_B84
    rw [if_pos (by decide), ix6', chk_nI (show 6 * (k + 1) + r < 36 by omega) (by decide), ltA_eq, nI_clamp (by omega), nI_1]
    obtain ⟨y, ey⟩ : ∃ y, y = M_set_dear w (upd (M_dear w) (6 * (k + 1) + r) (nI (mnA b (dA b g k) r 6))) := ⟨_, rfl⟩
    rw [← ey]
    exact hk7 y (hD.put hr rfl ey)
  · intro kk i _ hi _ hkk
    have hkk := hkk () trivial
    have hw := (hI.2.2.1 r i hr hi).1
    have b1 := mn_b b g k r i
    have b2 := dA_le b g k i
    have b3 := in_8 b i
    have fin : ∀ v : Nat, v < 2 ^ 31 → v = (if 0 < a_wd b r i then a_in b i + dA b g k i else 1000000) → ∃ u, X9_excuses_J137 k60 k70 kk w x1 x3 (nI (k + 1)) (nI r) (nI (mnA b (dA b g k) r i)) (nI i) (nI v) = some u ∧ P u := by
      intro v hv ev
      have em : mnA b (dA b g k) r (i + 1) = if mnA b (dA b g k) r i ≤ v then mnA b (dA b g k) r i else v := by rw [ev]; rfl
      rw [em] at hkk
      unfold X9_excuses_J137 X9_excuses_J153
      rw [nI_1]
      by_cases c : mnA b (dA b g k) r i ≤ v
      · rw [if_pos c] at hkk
        rw [if_pos (nI_le c hv)]; exact hkk
      · rw [if_neg c] at hkk
        rw [if_neg (nI_ge (by omega) (by omega))]; exact hkk
    unfold X9_excuses_B84
    rw [if_neg (show ¬ (6 : Int32) ≤ nI i from nlit (by decide) hi), ix6', chk_nI (show 6 * r + i < 36 by omega) (by decide), nI_clamp (show 6 * r + i < 2 ^ 31 by omega), hD.W hM hr hi]
    by_cases e : 0 < a_wd b r i
    · rw [if_neg (show ¬ nI (a_wd b r i) ≤ (0 : Int32) from nI_nle e (by omega)), cin_all hI (hD.now hM) hi, Option.bind_some, ix66, chk_nI (show 6 * k + i < 36 by omega) (by decide), nI_clamp (show 6 * k + i < 2 ^ 31 by omega), hD.at hi (by omega), nI_add]
      exact fin _ (by omega) (by rw [if_pos e])
    · rw [if_pos (show nI (a_wd b r i) ≤ (0 : Int32) from nI_le (b := 0) (by omega) (by decide))]
      exact fin 1000000 (by decide) (by rw [if_neg e])
/-- the table -/
theorem rtable (hI : Inv b) (hM : Mc (mnow z) b) {gu : Nat} (hgu : gu < 8) (hth : a_is b gu = true) (hg : g < 2 ^ 31) (x3 : Int32) (P : Int32 × MS → Prop) (hk : ∀ w, De b g z w 36 → ∃ v, it X9_excuses_B202 (fun _ _ _ _ _ => none) FU w x3 (nI (a_pl b gu)) 0 1 = some v ∧ P v) : ∃ v, it X9_excuses_B25 (fun _ _ _ _ _ => none) FU z (nI gu) (nI g) x3 0 = some v ∧ P v := by
  obtain ⟨N, hN, hFU⟩ := FU_ex
  · have l1 : ∀ w1, De b g z w1 6 → ∃ v, it X9_excuses_B60 (fun _ _ _ _ => none) FU w1 (nI gu) x3 1 = some v ∧ P v := by
      intro w1 hw1
      rw [hFU]
      refine it_rule (bot := fun _ _ _ _ => none) 5 (fun i (s : MS) => De b g z s (6 * (i + 1))) (fun kk i s => ∃ v, kk s (nI gu) x3 (nI (i + 1)) = some v ∧ P v) ?_ ?_ N 0 w1 (by omega) (by omega) hw1
      · intro kk s hs
        have ha : M_at s gu = nI (a_pl b gu) := ((hs.now hM).2.2.2.2.2.1 gu hgu hth).1
        unfold X9_excuses_B60
        rw [if_pos (by decide), chk_nI hgu (by decide), nI_clamp (by omega), ha]
        exact hk s hs
      · intro kk i s hi hs hkk
        unfold X9_excuses_B60
        rw [if_neg (show ¬ (6 : Int32) ≤ nI (i + 1) from nlit (b := 6) (by decide) (by omega)), hFU]
        refine it_rule (bot := fun _ _ _ _ _ => none) 6 (fun r (s : MS) => De b g z s (6 * (i + 1) + r)) (fun k7 r s => ∃ v, k7 s (nI gu) x3 (nI (i + 1)) (nI r) = some v ∧ P v) ?_ ?_ N 0 s (by omega) (by omega) hs
        · intro k7 s hs
          unfold X9_excuses_B70
          rw [if_pos (by decide), nI_1]
          exact hkk s hs
        · intro k7 r s hr hs hk7
          unfold X9_excuses_B70
          rw [if_neg (show ¬ (6 : Int32) ≤ nI r from nlit (by decide) hr)]
          exact rcell hI hM hi hr hs kk k7 (nI gu) x3 P (fun w' hw' => hk7 w' hw')
    rw [hFU]
    refine it_rule (bot := fun _ _ _ _ _ => none) 6 (fun i (s : MS) => De b g z s i) (fun kk i s => ∃ v, kk s (nI gu) (nI g) x3 (nI i) = some v ∧ P v) ?_ ?_ N 0 z (by omega) (by omega) ⟨rfl, rfl, fun j hj => absurd hj (Nat.not_lt_zero _)⟩
    · intro kk s hs
      unfold X9_excuses_B25
      rw [if_pos (by decide)]
      exact l1 s hs
    · intro kk i s hi hs hkk
      have go : ∀ x : Int32, x = nI (dA b g 0 i) → ∃ v, X9_excuses_J50 kk s (nI gu) (nI g) x3 (nI i) x (nI i) = some v ∧ P v := by
        intro x hx
        unfold X9_excuses_J50
        rw [chk_nI (show i < 36 by omega) (by decide), ltA_eq, nI_clamp (by omega), nI_1]
        obtain ⟨y, ey⟩ : ∃ y, y = M_set_dear s (upd (M_dear s) i x) := ⟨_, rfl⟩
        rw [← ey]
        refine hkk y ?_
        have h0 : 6 * 0 + i = i := by omega
        have := De.put (k := 0) (r := i) (w := s) (w' := y) (x := x) (by rw [h0]; exact hs) hi hx (by rw [h0]; exact ey)
        rw [h0] at this; exact this
      unfold X9_excuses_B25
      rw [if_neg (show ¬ (6 : Int32) ≤ nI i from nlit (by decide) hi)]
      by_cases c : i = g
      · rw [if_pos (by rw [c])]
        exact go 0 (by rw [show dA b g 0 i = 0 from if_pos c]; rfl)
      · rw [if_neg (fun q => c ((nI_eq (by omega) hg).mp q))]
        exact go 1000000 (by rw [show dA b g 0 i = 1000000 from if_neg c]; rfl)
end RE
end
/-! 98n.excuses -/
section
/-! excuses -/
theorem nI_m1 (j : Nat) : nI (j + 1) + (-1 : Int32) = nI j := (Int32.sub_eq_add_neg _ _).symm.trans (nI_pred j)
section EX
variable {b : AS} {g : Nat} {G : Nat → Nat} {z : MS}
/-- the reference's way -/
theorem rstep (hI : Inv b) (hM : Mc (mnow z) b) (hG : Gw b g G) (hg : g < a_R b) {w : MS} (hD : De b g z w 36) {r k i : Nat} (hk : k < a_R b) (P : Nat → Nat) (p0 : P 0 = r) (p1 : ∀ n, n ≤ k → P n < a_R b ∧ dA b g (k - n) (P n) < 1000000 ∧ G (P n) = 100 * dA b g (k - n) (P n) + (k - n)) (p2 : ∀ n, n < k → flC b G (P n) (P (n + 1)) ∧ ∀ j, j < P (n + 1) → ¬ flC b G (P n) j) (hi : i ≤ k) : it X9_excuses_B316 (fun _ _ _ _ _ => none) FU w (nI i) (nI k) (nI r) (nI k) = some (nI (P i), w) := by
  obtain ⟨N, hN, hFU⟩ := FU_ex
  have hR := hI.1.2.1
  have q : it X9_excuses_B316 (fun _ _ _ _ _ => none) N w (nI i) (nI k) (nI (P 0)) (nI (k - 0)) = some (nI (P i), w) := by
    refine it_rule (bot := fun _ _ _ _ _ => none) i (fun _ (_ : Unit) => True) (fun kk n _ => kk w (nI i) (nI k) (nI (P n)) (nI (k - n)) = some (nI (P i), w)) ?_ ?_ N 0 () (by omega) (by omega) trivial
    · intro kk _ _
      unfold X9_excuses_B316
      rw [pk_sub hi, if_pos (Int32.le_refl _)]
    · intro kk n _ hn _ hkk
      have hkk := hkk () trivial
      obtain ⟨q1, q2, q3⟩ := p1 n (by omega)
      have q4 := (p1 (n + 1) (by omega)).1
      obtain ⟨f1, f2⟩ := p2 n (by omega)
      obtain ⟨j, hj⟩ : ∃ j, j = k - (n + 1) := ⟨_, rfl⟩
      rw [← hj] at hkk
      rw [show k - n = j + 1 by omega] at q2 q3 ⊢
      have tst : ∀ q, q < 6 → ((0 < a_wd b (P n) q ∧ a_in b q + dA b g j q = dA b g (j + 1) (P n)) ↔ flC b G (P n) q) := fun q hq => fl_ref hI hG hg q1 hq (by omega) q2 q3
      generalize P n = p at *
      generalize P (n + 1) = p' at *
      unfold X9_excuses_B316
      rw [pk_sub hi, if_neg (nI_ge (by omega) (by omega)), hFU]
      refine it_rule (bot := fun _ _ _ _ _ _ => none) p' (fun _ (_ : Unit) => True) (fun k2 m _ => k2 w (nI i) (nI k) (nI p) (nI (j + 1)) (nI m) = some (nI (P i), w)) ?_ ?_ N 0 () (by omega) (by omega) trivial
      · intro k2 _ _
        have hp' : p' < 6 := by omega
        obtain ⟨t1, t2⟩ := (tst p' hp').mpr f1
        unfold X9_excuses_B328
        have hw := (hI.2.2.1 p p' (by omega) hp').1
        rw [ix6', chk_nI (show 6 * p + p' < 36 by omega) (by decide), nI_clamp (show 6 * p + p' < 2 ^ 31 by omega), hD.W hM (by omega) hp', if_neg (nI_ne0 t1 (by omega)), cin_all hI (hD.now hM) hp', Option.bind_some, ix66, ix6', chk_nI (show 6 * j + p' < 36 by omega) (by decide), chk_nI (show 6 * (j + 1) + p < 36 by omega) (by decide), nI_clamp (show 6 * j + p' < 2 ^ 31 by omega), nI_clamp (show 6 * (j + 1) + p < 2 ^ 31 by omega), hD.at hp' (by omega), hD.at (show p < 6 by omega) (by omega), nI_add, if_pos (by rw [t2]), nI_m1]
        exact hkk
      · intro k2 m _ hm _ hk2
        have hk2 := hk2 () trivial
        have hm6 : m < 6 := by omega
        have hw := (hI.2.2.1 p m (by omega) hm6).1
        have nf := f2 m hm
        unfold X9_excuses_B328 X9_excuses_J385
        rw [ix6', chk_nI (show 6 * p + m < 36 by omega) (by decide), nI_clamp (show 6 * p + m < 2 ^ 31 by omega), hD.W hM (by omega) hm6, nI_1]
        by_cases e : 0 < a_wd b p m
        · have b1 := dA_le b g j m
          have b2 := in_8 b m
          rw [if_neg (nI_ne0 e (by omega)), cin_all hI (hD.now hM) hm6, Option.bind_some, ix66, ix6', chk_nI (show 6 * j + m < 36 by omega) (by decide), chk_nI (show 6 * (j + 1) + p < 36 by omega) (by decide), nI_clamp (show 6 * j + m < 2 ^ 31 by omega), nI_clamp (show 6 * (j + 1) + p < 2 ^ 31 by omega), hD.at hm6 (by omega), hD.at (show p < 6 by omega) (by omega), nI_add, if_neg (fun c => nf ((tst m hm6).mp ⟨e, (nI_eq (by omega) (by omega)).mp c⟩))]
          exact hk2
        · rw [if_pos (show nI (a_wd b p m) = 0 by rw [show a_wd b p m = 0 by omega]; rfl)]
          exact hk2
  rw [p0, Nat.sub_zero] at q
  rw [hFU]
  exact q
/-- the best number of doors -/
theorem rbest (hI : Inv b) (hM : Mc (mnow z) b) {w : MS} (hD : De b g z w 36) {r : Nat} (hr : r < 6) (x3 : Int32) {v : Option (Int32 × MS)} (hk : ∀ s, s < 6 → (∀ j, j < 6 → dA b g s r ≤ dA b g j r) → (∀ j, j < s → dA b g s r < dA b g j r) → (if (1000000 : Int32) ≤ nI (dA b g s r) then X9_excuses_J280 w (nI (dA b g s r)) else (if x3 = (-1 : Int32) then X9_excuses_J280 w (nI (dA b g s r)) else ((f_X9_in x3 (0 : Int32) (nI s)).bind fun q299 => (if q299 = 0 then (some ((-6 : Int32), w)) else (it X9_excuses_B316 (fun _ _ _ _ _ => none) FU w x3 (nI s) (nI r) (nI s)))))) = v) : it X9_excuses_B202 (fun _ _ _ _ _ => none) FU w x3 (nI r) 0 1 = v := by
  obtain ⟨N, hN, hFU⟩ := FU_ex
  rw [hFU]
  refine it_rule (bot := fun _ _ _ _ _ => none) 5 (fun i (s : Nat) => s < i + 1 ∧ (∀ j, j < i + 1 → dA b g s r ≤ dA b g j r) ∧ ∀ j, j < s → dA b g s r < dA b g j r) (fun kk i s => kk w x3 (nI r) (nI s) (nI (i + 1)) = v) ?_ ?_ N 0 0 (by omega) (by omega) ⟨by omega, fun j hj => by rw [show j = 0 by omega]; exact Nat.le_refl _, fun j hj => absurd hj (Nat.not_lt_zero _)⟩
  · intro kk s ⟨s1, s2, s3⟩
    unfold X9_excuses_B202
    rw [if_pos (by decide), ix6', chk_nI (show 6 * s + r < 36 by omega) (by decide), nI_clamp (show 6 * s + r < 2 ^ 31 by omega), hD.at hr (by omega)]
    exact hk s s1 s2 s3
  · intro kk i s hi ⟨s1, s2, s3⟩ hkk
    have b1 := dA_le b g s r
    have b2 := dA_le b g (i + 1) r
    unfold X9_excuses_B202 X9_excuses_J245
    rw [if_neg (show ¬ (6 : Int32) ≤ nI (i + 1) from nlit (b := 6) (by decide) (by omega)), ix6', ix6', chk_nI (show 6 * (i + 1) + r < 36 by omega) (by decide), chk_nI (show 6 * s + r < 36 by omega) (by decide), nI_clamp (show 6 * s + r < 2 ^ 31 by omega), nI_clamp (show 6 * (i + 1) + r < 2 ^ 31 by omega), hD.at hr (by omega), hD.at hr (by omega), nI_1]
    by_cases c : dA b g s r ≤ dA b g (i + 1) r
    · rw [if_pos (nI_le c (by omega))]
      refine hkk s ⟨by omega, fun j hj => ?_, s3⟩
      by_cases e : j = i + 1
      · rw [e]; exact c
      · exact s2 j (by omega)
    · rw [if_neg (nI_ge (by omega) (by omega))]
      refine hkk (i + 1) ⟨by omega, fun j hj => ?_, fun j hj => ?_⟩
      · by_cases e : j = i + 1
        · rw [e]; exact Nat.le_refl _
        · have := s2 j (by omega); omega
      · have := s2 j (by omega); omega
end EX
theorem sim_excuses : Sim_excuses Rel := by
  intro S z x1 x2 x3 h
  obtain ⟨⟨a, hI, hH, hM⟩, h3⟩ := id h
  have hH : Hc (K_now S) a := hH
  have hM : Mc (mcore z) a := hM
  have hR := hI.1.2.1
  have out : ∀ v : Int32, f_X8_excuses (K_now S) (K_route S) x1 x2 x3 = some (v, K_route S) → f_X9_excuses z x1 x2 x3 = some (v, z) → ∃ q w, f_X8_excuses (K_now S) (K_route S) x1 x2 x3 = some q ∧ f_X9_excuses z x1 x2 x3 = some w ∧ q.1 = w.1 ∧ Rel (K_set_route S q.2) w.2 := fun v e1 e2 => ⟨_, _, e1, e2, rfl, h.to rfl rfl⟩
  have n10 : ¬ (1 : Int32) = 0 := by decide
  rcases th_cases hI hH hM x1 with ⟨gu, hgu, rfl, hth, t1, t2⟩ | ⟨t1, t2⟩
  · rcases rm_cases hI hH hM x2 with ⟨g, hg, rfl, r1, r2⟩ | ⟨-, r1, r2⟩
    · obtain ⟨w0, e1, e2, e3⟩ := asNow_Mx hM
      have hN : Mc (mnow w0) a := e3.1
      obtain ⟨G, hG⟩ := Gw_ex a g
      obtain ⟨ro, c1, c2⟩ := cmeasure hI hH hG hg (K_route S)
      obtain ⟨r, hr⟩ : ∃ r, r = a_pl a gu := ⟨_, rfl⟩
      have hrR : r < a_R a := by rw [hr]; exact (hI.2.2.2.2.2.1 gu hgu hth).1
      have hr6 : r < 6 := by omega
      have hp : H_place (K_now S) gu = nI r := by rw [hr]; exact (hH.2.2.2.2.2.1 gu hgu).1
      -- what the class answers
      obtain ⟨v, cv, rv⟩ : ∃ v : Int32, (if x3 = (-1 : Int32) then f_X5_excusesFrom ro (nI r) else f_X5_step ro (K_now S) (nI r) x3) = some v ∧ ∀ w, De a g w0 w 36 → it X9_excuses_B202 (fun _ _ _ _ _ => none) FU w x3 (nI r) 0 1 = some (v, w) := by
        have fr := (c2 r hrR).2
        have hle := (hG r).1
        have hex : f_X5_excusesFrom ro (nI r) = some (if G r < 1000000 then nI (G r / 100) else -6) := by
          unfold f_X5_excusesFrom
          rw [chk_nI hr6 (by decide), chk_nI hr6 (by decide), nI_clamp (by omega), fr]
          by_cases c : G r < 1000000
          · rw [if_pos (show nI (G r) < (1000000 : Int32) from nI_lt (b := 1000000) c (by decide)), if_pos c, show (100 : Int32) = nI 100 from rfl, pk_div (by omega) (by decide) (by decide)]
          · rw [if_neg (show ¬ nI (G r) < (1000000 : Int32) from nI_nlt (b := 1000000) (by omega) (by omega)), if_neg c]
        by_cases c : G r < 1000000
        · obtain ⟨k, k1, k2, k3⟩ := G_k hI hG hg hrR c
          have ksm := dA_small a g k r k2
          -- the reference's best is k
          have best : ∀ s, s < 6 → (∀ j, j < 6 → dA a g s r ≤ dA a g j r) → (∀ j, j < s → dA a g s r < dA a g j r) → s = k := by
            intro s s1 s2 s3
            have h4 := s2 k (by omega)
            have h5 := (hG r).2.1 s (by omega)
            by_cases q : k < s
            · have := s3 k q
              omega
            · omega
          by_cases cm : x3 = -1
          · refine ⟨nI (dA a g k r), ?_, ?_⟩
            · rw [if_pos cm, hex, if_pos c, k3, show (100 * dA a g k r + k) / 100 = dA a g k r by omega]
            · intro w hD
              refine rbest hI hN hD hr6 x3 (fun s s1 s2 s3 => ?_)
              rw [best s s1 s2 s3, if_neg (show ¬ (1000000 : Int32) ≤ nI (dA a g k r) from nI_ge (b := 1000000) k2 (by decide)), if_pos cm]
              unfold X9_excuses_J280
              rw [if_pos (show nI (dA a g k r) < (1000000 : Int32) from nI_lt (b := 1000000) k2 (by decide))]
          · obtain ⟨P, p0, p1, p2⟩ := way_ex hI hG hg hrR k1 k2 k3
            by_cases b1 : x3 < 0
            · refine ⟨-6, ?_, ?_⟩
              · rw [if_neg cm]; unfold f_X5_step; rw [if_pos b1]
              · intro w hD
                refine rbest hI hN hD hr6 x3 (fun s s1 s2 s3 => ?_)
                rw [best s s1 s2 s3, if_neg (show ¬ (1000000 : Int32) ≤ nI (dA a g k r) from nI_ge (b := 1000000) k2 (by decide)), if_neg cm, in_0 (Or.inl b1), Option.bind_some, if_pos rfl]
            · obtain ⟨i, hi', rfl⟩ := nI_of b1
              by_cases b2 : i ≤ k
              · refine ⟨nI (P i), ?_, ?_⟩
                · rw [if_neg cm, cstep hI hH hG c2 k1 P p0 p1 p2 (show i < 6 by omega), if_pos b2]
                · intro w hD
                  refine rbest hI hN hD hr6 _ (fun s s1 s2 s3 => ?_)
                  rw [best s s1 s2 s3, if_neg (show ¬ (1000000 : Int32) ≤ nI (dA a g k r) from nI_ge (b := 1000000) k2 (by decide)), if_neg cm, in_1 b1 (nI_nlt b2 (by omega)), Option.bind_some, if_neg n10]
                  exact rstep hI hN hG hg hD k1 P p0 p1 p2 b2
              · refine ⟨-6, ?_, ?_⟩
                · rw [if_neg cm]
                  by_cases b3 : i < 6
                  · rw [cstep hI hH hG c2 k1 P p0 p1 p2 b3, if_neg b2]
                  · unfold f_X5_step
                    rw [if_neg b1, if_pos (show (6 : Int32) ≤ nI i from nI_le (a := 6) (by omega) hi')]
                · intro w hD
                  refine rbest hI hN hD hr6 _ (fun s s1 s2 s3 => ?_)
                  rw [best s s1 s2 s3, if_neg (show ¬ (1000000 : Int32) ≤ nI (dA a g k r) from nI_ge (b := 1000000) k2 (by decide)), if_neg cm, in_0 (Or.inr (nI_lt (by omega) hi')), Option.bind_some, if_pos rfl]
        · -- no way
          have none : ∀ s, s < 6 → dA a g s r = 1000000 := by
            intro s hs
            have h1 := dA_le a g s r
            by_cases q : dA a g s r < 1000000
            · have := (hG r).2.1 s q
              have := dA_small a g s r q
              omega
            · omega
          refine ⟨-6, ?_, ?_⟩
          · by_cases cm : x3 = -1
            · rw [if_pos cm, hex, if_neg c]
            · rw [if_neg cm]
              unfold f_X5_step
              by_cases b1 : x3 < 0
              · rw [if_pos b1]
              · rw [if_neg b1]
                by_cases b2 : (6 : Int32) ≤ x3
                · rw [if_pos b2]
                · rw [if_neg b2, chk_nI hr6 (by decide), nI_clamp (by omega), fr, if_neg (show ¬ nI (G r) < (1000000 : Int32) from nI_nlt (b := 1000000) (by omega) (by omega))]
          · intro w hD
            refine rbest hI hN hD hr6 x3 (fun s s1 s2 s3 => ?_)
            rw [none s s1, if_pos (show (1000000 : Int32) ≤ nI 1000000 by decide)]
            unfold X9_excuses_J280
            rw [if_neg (show ¬ nI 1000000 < (1000000 : Int32) by decide)]
      obtain ⟨⟨v2, w2⟩, d1, d2, d3⟩ := rtable hI hN hgu hth (show g < 2 ^ 31 by omega) x3 (fun u => u.1 = v ∧ mkeep u.2 = mkeep z) (fun w hD => ⟨(v, w), by rw [← hr]; exact rv w hD, rfl, hD.1.trans e2⟩)
      have d2 : v2 = v := d2
      subst d2
      refine ⟨(v2, ro), (v2, w2), ?_, ?_, rfl, h.to rfl d3⟩
      · unfold f_X8_excuses
        rw [t1, Option.bind_some, if_neg n10, r1, Option.bind_some, if_neg n10, c1, Option.bind_some, chk_nI hgu (by decide), nI_clamp (by omega), hp]
        by_cases cm : x3 = -1
        · rw [if_pos cm] at cv
          rw [if_pos cm, cv, Option.bind_some]
        · rw [if_neg cm] at cv
          rw [if_neg cm, cv, Option.bind_some]
      · unfold f_X9_excuses
        rw [t2, Option.bind_some, if_neg n10, r2, Option.bind_some, if_neg n10, e1, Option.bind_some]
        exact d1
    · exact out (-1) (by unfold f_X8_excuses; rw [t1, Option.bind_some, if_neg n10, r1, Option.bind_some, if_pos rfl]) (by unfold f_X9_excuses; rw [t2, Option.bind_some, if_neg n10, r2, Option.bind_some, if_pos rfl])
  · exact out (-1) (by unfold f_X8_excuses; rw [t1, Option.bind_some, if_pos rfl]) (by unfold f_X9_excuses; rw [t2, Option.bind_some, if_pos rfl])
end
