/-! the class' walk, the reference's, drunk -/
set_option maxRecDepth 100000 in
theorem d60_dec : ∀ d : Fin 7, d.val ≠ 0 → ((60 : Int32) / nI d.val).toInt64 = nL (60 / d.val) := by decide +kernel
set_option maxRecDepth 100000 in
theorem s10_dec : ∀ c : Fin 11, ((10 : Int32) - nI c.val).toInt64 = nL (10 - c.val) := by decide +kernel
set_option maxRecDepth 100000 in
theorem m60_dec : ∀ c : Fin 11, ((60 : Int32) * nI c.val).toInt64 = nL (60 * c.val) := by decide +kernel
set_option maxRecDepth 100000 in
theorem r60_dec : ∀ d : Fin 7, ∀ c : Fin 11, d.val ≠ 0 → (((60 : Int32) * ((10 : Int32) - nI c.val)) / nI d.val).toInt64 = nL (60 * (10 - c.val) / d.val) := by decide +kernel
theorem d60 {d : Nat} (h : d < 7) (h0 : d ≠ 0) : ((60 : Int32) / nI d).toInt64 = nL (60 / d) := d60_dec ⟨d, h⟩ h0
theorem s10 {c : Nat} (h : c ≤ 10) : ((10 : Int32) - nI c).toInt64 = nL (10 - c) := s10_dec ⟨c, by omega⟩
theorem m60 {c : Nat} (h : c ≤ 10) : ((60 : Int32) * nI c).toInt64 = nL (60 * c) := m60_dec ⟨c, by omega⟩
theorem r60 {d c : Nat} (h : d < 7) (hc : c ≤ 10) (h0 : d ≠ 0) : (((60 : Int32) * ((10 : Int32) - nI c)) / nI d).toInt64 = nL (60 * (10 - c) / d) := r60_dec ⟨d, h⟩ ⟨c, by omega⟩ h0
theorem dv60 {d c : Nat} (h : d < 7) (hc : c ≤ 10) (h0 : d ≠ 0) : (60 / d) * (10 - c) = 60 * (10 - c) / d := dv_dec ⟨d, h⟩ ⟨c, by omega⟩ h0
theorem cb_one {b : AS} {c : Nat} {ch : Nat → Nat} {q i r : Nat} (h : r ≠ i) : cbI b c ch q (i + 1) r = cbI b c ch q i r := by
  unfold cbI
  by_cases d : r < i ∧ 0 < a_wd b q r
  · rw [if_pos d, if_pos (show r < i + 1 ∧ 0 < a_wd b q r from ⟨by omega, d.2⟩)]
  · rw [if_neg d, if_neg (show ¬ (r < i + 1 ∧ 0 < a_wd b q r) from fun e => d ⟨by omega, e.2⟩)]
theorem cb_no {b : AS} {c : Nat} {ch : Nat → Nat} {q i : Nat} (h : ¬ 0 < a_wd b q i) : cbI b c ch q (i + 1) i = cbI b c ch q i i := by
  unfold cbI
  rw [if_neg (show ¬ (i < i ∧ 0 < a_wd b q i) from fun e => h e.2), if_neg (show ¬ (i < i + 1 ∧ 0 < a_wd b q i) from fun e => h e.2)]
theorem cb_yes {b : AS} {c : Nat} {ch : Nat → Nat} {q i : Nat} (h : 0 < a_wd b q i) : cbI b c ch q (i + 1) i = cbI b c ch q i i + ch q * thr b c q := by
  unfold cbI
  rw [if_neg (show ¬ (i < i ∧ 0 < a_wd b q i) from fun e => absurd e.1 (Nat.lt_irrefl _)), if_pos (show i < i + 1 ∧ 0 < a_wd b q i from ⟨by omega, h⟩), Nat.add_zero]
theorem cb_0q {b : AS} {c : Nat} {ch : Nat → Nat} {q : Nat} : cbI b c ch q 0 q = ch q * sty b c q := by
  unfold cbI
  rw [if_pos rfl, if_neg (fun e => absurd e.1 (Nat.not_lt_zero _))]; rfl
theorem cb_0n {b : AS} {c : Nat} {ch : Nat → Nat} {q r : Nat} (h : r ≠ q) : cbI b c ch q 0 r = 0 := by
  unfold cbI
  rw [if_neg h, if_neg (fun e => absurd e.1 (Nat.not_lt_zero _))]
theorem cb_d0 {b : AS} {c : Nat} {ch : Nat → Nat} {q : Nat} (hd : dzA b q (a_R b) = 0) : ∀ i, i ≤ a_R b → ∀ r, cbI b c ch q i r = cbI b c ch q 0 r
  | 0, _, r => rfl
  | i + 1, h, r => by
    by_cases e : r = i
    · subst e
      rw [cb_no (dz_no _ hd r (by omega)), cb_d0 hd r (by omega)]
    · rw [cb_one e, cb_d0 hd i (by omega)]
section CW
variable {b : AS} {h : HS}
theorem cspread (hI : Inv b) (hH : Hc h b) {q c : Nat} (hq : q < a_R b) (hc : c ≤ 10) {sg : SS} {ch nx : Nat → Nat} (h1 : ∀ r, r < 6 → S_chance sg r = nL (ch r)) (h2 : ∀ r, r < 6 → S_next sg r = nL (nx r)) : ∃ sg', f_X6_spread sg h (nI q) (nI c) = some sg' ∧ S_whole sg' = S_whole sg ∧ S_chance sg' = S_chance sg ∧ ∀ r, r < 6 → S_next sg' r = nL (nx r + cbA b c ch q r) := by
  have hR := hI.1.2.1
  have hq6 : q < 6 := by omega
  have hdz := dz_le b q (a_R b)
  by_cases d : dzA b q (a_R b) = 0
  · refine ⟨S_set_next sg (vp_updL (S_next sg) q (S_next sg q + S_chance sg q * 60 * 10)), cdoors hI hH hq6 ?_, rfl, rfl, ?_⟩
    · rw [if_pos (show nI (dzA b q (a_R b)) = 0 by rw [d]; rfl), chk_nI hq6 (by decide), chk_nI hq6 (by decide), chk_nI hq6 (by decide), ltA_eq, nI_clamp (by omega)]
    · intro r hr
      show vp_updL (S_next sg) q (S_next sg q + S_chance sg q * 60 * 10) r = _
      unfold cbA
      rw [cb_d0 d _ (Nat.le_refl _)]
      by_cases e : r = q
      · subst e
        rw [pk_uLs, h1 r hr, h2 r hr, cb_0q, show (60 : Int64) = nL 60 from rfl, show (10 : Int64) = nL 10 from rfl, nL_mul, nL_mul, nL_add, Nat.mul_assoc]
        unfold sty
        rw [if_pos d]
      · rw [pk_uLn e, h2 r hr, cb_0n e]; rfl
  · obtain ⟨N, hN, hFU⟩ := FU_ex
    obtain ⟨D, hD⟩ : ∃ D, D = dzA b q (a_R b) := ⟨_, rfl⟩
    have hD0 : D ≠ 0 := by rw [hD]; exact d
    have hD7 : D < 7 := by omega
    have hs : sty b c q = 60 * c := by unfold sty; rw [if_neg d]
    have lp : ∃ sg', it X6_spread_B95 (fun _ _ _ _ _ _ => none) FU (S_set_next sg (vp_updL (S_next sg) q (S_next sg q + S_chance sg q * 60 * (nI c).toInt64))) h (nI q) (nI c) (nI D) 0 = some sg' ∧ S_whole sg' = S_whole sg ∧ S_chance sg' = S_chance sg ∧ ∀ r, r < 6 → S_next sg' r = nL (nx r + cbA b c ch q r) := by
      rw [hFU]
      refine it_rule (bot := fun _ _ _ _ _ _ => none) (a_R b) (fun i (s : SS) => S_whole s = S_whole sg ∧ S_chance s = S_chance sg ∧ ∀ r, r < 6 → S_next s r = nL (nx r + cbI b c ch q i r)) (fun k i s => ∃ sg', k s h (nI q) (nI c) (nI D) (nI i) = some sg' ∧ S_whole sg' = S_whole sg ∧ S_chance sg' = S_chance sg ∧ ∀ r, r < 6 → S_next sg' r = nL (nx r + cbA b c ch q r)) ?_ ?_ N 0 _ (by omega) (by omega) ⟨rfl, rfl, ?_⟩
      · intro k s hs
        refine ⟨s, ?_, hs⟩
        unfold X6_spread_B95
        rw [hH.1, if_pos (Int32.le_refl _)]
      · intro k i s hi ⟨i1, i2, i3⟩ hk
        have hw := (hI.2.2.1 q i hq6 (by omega)).1
        unfold X6_spread_B95 X6_spread_J143
        rw [hH.1, if_neg (nI_ge hi (by omega)), width_spec hH hq6 (by omega), Option.bind_some, nI_1]
        by_cases e : 0 < a_wd b q i
        · rw [if_neg (show ¬ nI (a_wd b q i) ≤ (0 : Int32) from nI_nle e (by omega)), chk_nI (show i < 6 by omega) (by decide), chk_nI hq6 (by decide), nz_ok (nI_ne0 (by omega) (by omega) : ¬ nI D = 0), chk_nI (show i < 6 by omega) (by decide), ltA_eq, nI_clamp (show i < 2 ^ 31 by omega), nI_clamp (show q < 2 ^ 31 by omega), i2, h1 q hq6, i3 i (by omega), d60 hD7 hD0, s10 hc]
          refine hk _ ⟨i1, i2, fun r hr => ?_⟩
          show vp_updL (S_next s) i _ r = _
          by_cases f : r = i
          · subst f
            rw [pk_uLs, cb_yes e, nL_mul, nL_mul, nL_add, Nat.mul_assoc, dv60 hD7 hc hD0, Nat.add_assoc]
            unfold thr
            rw [← hD]
          · rw [pk_uLn f, i3 r hr, cb_one f]
        · rw [if_pos (show nI (a_wd b q i) ≤ (0 : Int32) from nI_le (b := 0) (by omega) (by decide))]
          refine hk s ⟨i1, i2, fun r hr => ?_⟩
          by_cases f : r = i
          · subst f
            rw [i3 r hr, cb_no e]
          · rw [i3 r hr, cb_one f]
      · intro r hr
        show vp_updL (S_next sg) q _ r = _
        by_cases f : r = q
        · subst f
          rw [pk_uLs, h1 r hr, h2 r hr, cb_0q, hs, l128 (show c < 128 by omega), show (60 : Int64) = nL 60 from rfl, nL_mul, nL_mul, nL_add, Nat.mul_assoc]
        · rw [pk_uLn f, h2 r hr, cb_0n f]; rfl
    obtain ⟨sg', l1, l2⟩ := lp
    refine ⟨sg', cdoors hI hH hq6 ?_, l2⟩
    rw [← hD, if_neg (nI_ne0 (by omega) (by omega) : ¬ nI D = 0), chk_nI hq6 (by decide), chk_nI hq6 (by decide), chk_nI hq6 (by decide), ltA_eq, nI_clamp (show q < 2 ^ 31 by omega)]
    exact l1
theorem cspreads (hI : Inv b) (hH : Hc h b) {c : Nat} (hc : c ≤ 10) {sg : SS} {ch : Nat → Nat} (h1 : ∀ r, r < 6 → S_chance sg r = nL (ch r)) (h2 : ∀ r, r < 6 → S_next sg r = nL 0) (k28 : SS → HS → Int32 → Int32 → Int32 → Option (SS)) (x4 x5 : Int32) (P : SS → Prop) (hk : ∀ sg', S_whole sg' = S_whole sg * 600 → (∀ r, r < 6 → S_chance sg' r = nL (nxA b c ch (a_R b) r)) → ∃ v, k28 sg' h (nI c) x4 (x5 + 1) = some v ∧ P v) : ∃ v, it (X6_walk_B46 k28) (fun _ _ _ _ _ _ => none) FU sg h (nI c) x4 x5 0 = some v ∧ P v := by
  obtain ⟨N, hN, hFU⟩ := FU_ex
  have hR := hI.1.2.1
  rw [hFU]
  refine it_rule (bot := fun _ _ _ _ _ _ => none) (a_R b) (fun i (s : SS) => S_whole s = S_whole sg ∧ S_chance s = S_chance sg ∧ ∀ r, r < 6 → S_next s r = nL (nxA b c ch i r)) (fun k i s => ∃ v, k s h (nI c) x4 x5 (nI i) = some v ∧ P v) ?_ ?_ N 0 _ (by omega) (by omega) ⟨rfl, rfl, h2⟩
  · intro k s ⟨i1, i2, i3⟩
    unfold X6_walk_B46
    rw [hH.1, if_pos (Int32.le_refl _), i1]
    exact hk _ rfl i3
  · intro k i s hi ⟨i1, i2, i3⟩ hkk
    obtain ⟨s', e1, e2, e3, e4⟩ := cspread hI hH hi hc (sg := s) (ch := ch) (nx := nxA b c ch i) (fun r hr => by rw [i2]; exact h1 r hr) i3
    unfold X6_walk_B46
    rw [hH.1, if_neg (nI_ge hi (by omega)), e1, Option.bind_some, nI_1]
    exact hkk s' ⟨e2.trans i1, e3.trans i2, e4⟩
theorem cwalk (hI : Inv b) (hH : Hc h b) {g c m : Nat} (hg : g < 8) (hth : a_is b g = true) (hc : c ≤ 10) (hm : m ≤ 6) (sg : SS) : ∃ sg', f_X6_walk sg h (nI g) (nI c) (nI m) = some sg' ∧ S_whole sg' = nL (600 ^ m) ∧ ∀ r, r < 6 → S_chance sg' r = nL (chA b g c m r) := by
  obtain ⟨N, hN, hFU⟩ := FU_ex
  have hR := hI.1.2.1
  have hp := (hI.2.2.2.2.2.1 g hg hth).1
  have ep : H_place h g = nI (a_pl b g) := (hH.2.2.2.2.2.1 g hg).1
  unfold f_X6_walk
  rw [ltA_eq, chk_nI hg (by decide), nI_clamp (show g < 2 ^ 31 by omega), ep, chk_nI (show a_pl b g < 6 by omega) (by decide), ltA_eq, nI_clamp (show a_pl b g < 2 ^ 31 by omega)]
  rw [hFU]
  refine it_rule (bot := fun _ _ _ _ _ => none) m (fun i (s : SS) => S_whole s = nL (600 ^ i) ∧ ∀ r, r < 6 → S_chance s r = nL (chA b g c i r)) (fun k i s => ∃ v, k s h (nI c) (nI m) (nI i) = some v ∧ S_whole v = nL (600 ^ m) ∧ ∀ r, r < 6 → S_chance v r = nL (chA b g c m r)) ?_ ?_ N 0 _ (by omega) (by omega) ⟨rfl, ?_⟩
  · intro k s hs
    refine ⟨s, ?_, hs⟩
    unfold X6_walk_B28
    rw [if_pos (Int32.le_refl _)]
  · intro k i s hi ⟨i1, i2⟩ hkk
    unfold X6_walk_B28
    rw [if_neg (nI_ge hi (by omega)), ltA_eq]
    refine cspreads hI hH hc (sg := S_set_next s (fillA 6 0 (S_next s))) (ch := chA b g c i) i2 (fun r hr => ?_) k (nI m) (nI i) (fun v => S_whole v = nL (600 ^ m) ∧ ∀ r, r < 6 → S_chance v r = nL (chA b g c m r)) ?_
    · show fillA 6 0 (S_next s) r = _
      unfold fillA
      rw [if_pos hr]; rfl
    · intro sg' e1 e2
      rw [nI_1]
      refine hkk sg' ⟨?_, e2⟩
      rw [e1]
      show S_whole s * 600 = _
      rw [i1, show (600 : Int64) = nL 600 from rfl, nL_mul, Nat.pow_succ]
  · intro r hr
    show vp_updL (fillA 6 0 (S_chance sg)) (a_pl b g) 1 r = nL (if r = a_pl b g then 1 else 0)
    by_cases f : r = a_pl b g
    · rw [if_pos f, f, pk_uLs]; rfl
    · rw [if_neg f, pk_uLn f]
      unfold fillA
      rw [if_pos hr]; rfl
end CW
