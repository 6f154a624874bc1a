/-! the class' measure of ways -/
def Bd (b : AS) (g : Nat) (G : Nat → Nat) (t i : Nat) (f : Nat → Nat) : Prop := (∀ p, p < a_R b → G p ≤ f p ∧ f p ≤ 1000000) ∧ (∀ p, p < a_R b → ∀ k, k ≤ t → dA b g k p < 1000000 → f p ≤ 100 * dA b g k p + k) ∧ ∀ p, p < i → ∀ k, k ≤ t + 1 → dA b g k p < 1000000 → f p ≤ 100 * dA b g k p + k
def updN (f : Nat → Nat) (p v : Nat) : Nat → Nat := fun r => if r = p then v else f r
section CM
variable {b : AS} {h : HS} {g : Nat} {G : Nat → Nat}
theorem Bd_next (hI : Inv b) (hG : Gw b g G) {t i v : Nat} {f : Nat → Nat} (hi : i < a_R b) (hB : Bd b g G t i f) (v1 : v ≤ f i) (v2 : ∀ q, q < a_R b → 0 < a_wd b i q → v ≤ tlA b q + f q) (v3 : v = f i ∨ ∃ q, q < a_R b ∧ 0 < a_wd b i q ∧ v = tlA b q + f q) : Bd b g G t (i + 1) (updN f i v) := by
  obtain ⟨h1, h2, h3⟩ := hB
  have hR := hI.1.2.1
  refine ⟨fun p hp => ?_, fun p hp k hk hd => ?_, fun p hp k hk hd => ?_⟩
  · by_cases e : p = i
    · rw [show updN f i v p = v from if_pos e]
      subst e
      have := h1 p hp
      refine ⟨?_, by omega⟩
      rcases v3 with e | ⟨q, q1, q2, q3⟩
      · omega
      · have h4 := G_door hG (show q < 6 by omega) q2
        have h5 := (h1 q q1).1
        omega
    · rw [show updN f i v p = f p from if_neg e]; exact h1 p hp
  · by_cases e : p = i
    · rw [show updN f i v p = v from if_pos e]
      subst e
      have := h2 p hp k hk hd
      omega
    · rw [show updN f i v p = f p from if_neg e]; exact h2 p hp k hk hd
  · by_cases e : p = i
    · rw [show updN f i v p = v from if_pos e]
      subst e
      cases k with
      | zero =>
        have := h2 p hi 0 (Nat.zero_le _) hd
        omega
      | succ k =>
        obtain ⟨q, q1, q2, q3⟩ := mn_att 6 (show mnA b (dA b g k) p 6 < 1000000 from hd)
        have q3 : dA b g (k + 1) p = a_in b q + dA b g k q := q3
        have hq := (wd_R hI (by omega) q1 q2).2
        have h4 := v2 q hq q2
        have h5 := h2 q hq k (by omega) (by omega)
        have h6 : tlA b q = 100 * a_in b q + 1 := rfl
        omega
    · rw [show updN f i v p = f p from if_neg e]; exact h3 p (by omega) k hk hd
theorem tl_lt (b : AS) (q : Nat) : tlA b q ≤ 801 := by
  have := in_8 b q
  unfold tlA; omega
theorem cshorten (hI : Inv b) (hH : Hc h b) {p : Nat} (hp : p < a_R b) {ro : OS} {f : Nat → Nat} (hT : ∀ r, r < a_R b → O_toll ro r = nI (tlA b r)) (hF : ∀ r, r < a_R b → O_far ro r = nI (f r) ∧ f r ≤ 1000000) : ∃ ro' v, f_X5_shorten ro h (nI p) = some ro' ∧ O_toll ro' = O_toll ro ∧ O_far ro' p = nI v ∧ (∀ r, r ≠ p → O_far ro' r = O_far ro r) ∧ v ≤ f p ∧ (∀ q, q < a_R b → 0 < a_wd b p q → v ≤ tlA b q + f q) ∧ (v = f p ∨ ∃ q, q < a_R b ∧ 0 < a_wd b p q ∧ v = tlA b q + f q) := by
  obtain ⟨N, hN, hFU⟩ := FU_ex
  have hR := hI.1.2.1
  have hp6 : p < 6 := by omega
  unfold f_X5_shorten
  rw [hFU]
  refine it_rule (bot := fun _ _ _ _ => none) (a_R b) (fun i (s : OS × Nat) => O_toll s.1 = O_toll ro ∧ O_far s.1 p = nI s.2 ∧ (∀ r, r ≠ p → O_far s.1 r = O_far ro r) ∧ s.2 ≤ f p ∧ (∀ q, q < i → 0 < a_wd b p q → s.2 ≤ tlA b q + f q) ∧ (s.2 = f p ∨ ∃ q, q < a_R b ∧ 0 < a_wd b p q ∧ s.2 = tlA b q + f q)) (fun k i s => ∃ ro' v, k s.1 h (nI p) (nI i) = some ro' ∧ O_toll ro' = O_toll ro ∧ O_far ro' p = nI v ∧ (∀ r, r ≠ p → O_far ro' r = O_far ro r) ∧ v ≤ f p ∧ (∀ q, q < a_R b → 0 < a_wd b p q → v ≤ tlA b q + f q) ∧ (v = f p ∨ ∃ q, q < a_R b ∧ 0 < a_wd b p q ∧ v = tlA b q + f q)) ?_ ?_ N 0 (ro, f p) (by omega) (by omega) ⟨rfl, (hF p hp).1, fun _ _ => rfl, Nat.le_refl _, fun q hq => absurd hq (Nat.not_lt_zero _), Or.inl rfl⟩
  · rintro k ⟨s, v⟩ hs
    refine ⟨s, v, ?_, hs⟩
    show X5_shorten_B2 k s h (nI p) (nI (a_R b)) = _
    unfold X5_shorten_B2
    rw [hH.1, if_pos (Int32.le_refl _)]
  · rintro k i ⟨s, v⟩ hi ⟨i1, i2, i3, i4, i5, i6⟩ hk
    have i1 : O_toll s = O_toll ro := i1
    have i2 : O_far s p = nI v := i2
    have i3 : ∀ r, r ≠ p → O_far s r = O_far ro r := i3
    have i4 : v ≤ f p := i4
    have hi6 : i < 6 := by omega
    have hw := (hI.2.2.1 p i hp6 hi6).1
    show ∃ ro' v', X5_shorten_B2 k s h (nI p) (nI i) = some ro' ∧ _
    unfold X5_shorten_B2 X5_shorten_J47
    rw [hH.1, if_neg (nI_ge hi (by omega)), width_spec hH hp6 hi6, Option.bind_some, nI_1]
    by_cases e : 0 < a_wd b p i
    · have hip : i ≠ p := fun q => by rw [q, hI.2.2.2.1 p hp6] at e; omega
      have hb := (hF p hp).2
      have hb2 := (hF i hi).2
      have hb3 := tl_lt b i
      rw [if_neg (show ¬ nI (a_wd b p i) ≤ (0 : Int32) from nI_nle e (by omega)), chk_nI hp6 (by decide), chk_nI hi6 (by decide), chk_nI hi6 (by decide), chk_nI hp6 (by decide), ltA_eq, nI_clamp (show p < 2 ^ 31 by omega), nI_clamp (show i < 2 ^ 31 by omega), i1, hT i hi, i3 i hip, (hF i hi).1, i2, nI_add]
      by_cases c : tlA b i + f i < v
      · rw [if_pos (nI_lt c (by omega))]
        refine hk (O_set_far s (upd (O_far s) p (nI (tlA b i + f i))), tlA b i + f i) ⟨i1, pk_us, fun r hr => (pk_un hr).trans (i3 r hr), by show tlA b i + f i ≤ f p; omega, fun q hq hd => ?_, Or.inr ⟨i, hi, e, rfl⟩⟩
        show tlA b i + f i ≤ tlA b q + f q
        by_cases c2 : q = i
        · rw [c2]; exact Nat.le_refl _
        · have : v ≤ tlA b q + f q := i5 q (by omega) hd
          omega
      · rw [if_neg (nI_nlt (by omega) (by omega))]
        refine hk (O_set_far s (upd (O_far s) p (nI v)), v) ⟨i1, pk_us, fun r hr => (pk_un hr).trans (i3 r hr), i4, fun q hq hd => ?_, i6⟩
        show v ≤ tlA b q + f q
        by_cases c2 : q = i
        · rw [c2]; omega
        · exact i5 q (by omega) hd
    · rw [if_pos (show nI (a_wd b p i) ≤ (0 : Int32) from nI_le (b := 0) (by omega) (by decide))]
      refine hk (s, v) ⟨i1, i2, i3, i4, fun q hq hd => ?_, i6⟩
      by_cases c2 : q = i
      · rw [c2] at hd; exact absurd hd e
      · exact i5 q (by omega) hd
theorem cmeasure (hI : Inv b) (hH : Hc h b) (hG : Gw b g G) (hg : g < a_R b) (ro : OS) : ∃ ro', f_X5_measure ro h (nI g) = some ro' ∧ ∀ r, r < a_R b → O_toll ro' r = nI (tlA b r) ∧ O_far ro' r = nI (G r) := by
  obtain ⟨N, hN, hFU⟩ := FU_ex
  have hR := hI.1.2.1
  -- the turns
  have l2 : ∀ ro1 : OS, (∀ r, r < a_R b → O_toll ro1 r = nI (tlA b r) ∧ O_far ro1 r = nI (if r = g then 0 else 1000000)) → ∃ ro', it X5_measure_B51 (fun _ _ _ => none) FU ro1 h 0 = some ro' ∧ ∀ r, r < a_R b → O_toll ro' r = nI (tlA b r) ∧ O_far ro' r = nI (G r) := by
    intro ro1 h1
    rw [hFU]
    refine it_rule (bot := fun _ _ _ => none) (a_R b) (fun t (s : OS × (Nat → Nat)) => (∀ r, r < a_R b → O_toll s.1 r = nI (tlA b r) ∧ O_far s.1 r = nI (s.2 r)) ∧ Bd b g G t 0 s.2) (fun k t s => ∃ ro', k s.1 h (nI t) = some ro' ∧ ∀ r, r < a_R b → O_toll ro' r = nI (tlA b r) ∧ O_far ro' r = nI (G r)) ?_ ?_ N 0 (ro1, fun r => if r = g then 0 else 1000000) (by omega) (by omega) ⟨h1, ⟨fun p hp => ⟨?_, ?_⟩, fun p hp k hk hd => ?_, fun p hp => absurd hp (Nat.not_lt_zero _)⟩⟩
    · rintro k ⟨s, f⟩ ⟨i1, i2, i3, -⟩
      have i1 : ∀ r, r < a_R b → O_toll s r = nI (tlA b r) ∧ O_far s r = nI (f r) := i1
      have i2 : ∀ p, p < a_R b → G p ≤ f p ∧ f p ≤ 1000000 := i2
      have i3 : ∀ p, p < a_R b → ∀ k, k ≤ a_R b → dA b g k p < 1000000 → f p ≤ 100 * dA b g k p + k := i3
      refine ⟨s, ?_, fun r hr => ⟨(i1 r hr).1, ?_⟩⟩
      · show X5_measure_B51 k s h (nI (a_R b)) = _
        unfold X5_measure_B51
        rw [hH.1, if_pos (Int32.le_refl _)]
      · rw [(i1 r hr).2]
        congr 1
        have h2 := i2 r hr
        by_cases c : G r < 1000000
        · obtain ⟨k, k1, k2, k3⟩ := G_k hI hG hg hr c
          have := i3 r hr k (by omega) k2
          omega
        · omega
    · rintro k t ⟨s, f⟩ ht ⟨i1, i2⟩ hkk
      show ∃ ro', X5_measure_B51 k s h (nI t) = some ro' ∧ _
      unfold X5_measure_B51
      rw [hH.1, if_neg (nI_ge ht (by omega)), hFU]
      refine it_rule (bot := fun _ _ _ _ => none) (a_R b) (fun i (s : OS × (Nat → Nat)) => (∀ r, r < a_R b → O_toll s.1 r = nI (tlA b r) ∧ O_far s.1 r = nI (s.2 r)) ∧ Bd b g G t i s.2) (fun k2 i s => ∃ ro', k2 s.1 h (nI t) (nI i) = some ro' ∧ ∀ r, r < a_R b → O_toll ro' r = nI (tlA b r) ∧ O_far ro' r = nI (G r)) ?_ ?_ N 0 (s, f) (by omega) (by omega) ⟨i1, i2⟩
      · rintro k2 ⟨s, f⟩ ⟨j1, j2, j3, j4⟩
        show ∃ ro', X5_measure_B62 k k2 s h (nI t) (nI (a_R b)) = some ro' ∧ _
        unfold X5_measure_B62
        rw [hH.1, if_pos (Int32.le_refl _), nI_1]
        exact hkk (s, f) ⟨j1, j2, fun p hp k hk hd => j4 p hp k hk hd, fun p hp => absurd hp (Nat.not_lt_zero _)⟩
      · rintro k2 i ⟨s, f⟩ hi ⟨j1, j2⟩ hk2
        have j1 : ∀ r, r < a_R b → O_toll s r = nI (tlA b r) ∧ O_far s r = nI (f r) := j1
        have j2 : Bd b g G t i f := j2
        obtain ⟨s', v, e1, e2, e3, e4, e5, e6, e7⟩ := cshorten hI hH hi (ro := s) (f := f) (fun r hr => (j1 r hr).1) (fun r hr => ⟨(j1 r hr).2, (j2.1 r hr).2⟩)
        show ∃ ro', X5_measure_B62 k k2 s h (nI t) (nI i) = some ro' ∧ _
        unfold X5_measure_B62
        rw [hH.1, if_neg (nI_ge hi (by omega)), e1, Option.bind_some, nI_1]
        refine hk2 (s', updN f i v) ⟨fun r hr => ?_, Bd_next hI hG hi j2 e5 e6 e7⟩
        show O_toll s' r = _ ∧ O_far s' r = nI (updN f i v r)
        rw [e2]
        refine ⟨(j1 r hr).1, ?_⟩
        by_cases c : r = i
        · rw [show updN f i v r = v from if_pos c, c, e3]
        · rw [show updN f i v r = f r from if_neg c, e4 r c]; exact (j1 r hr).2
    · show G p ≤ (if p = g then 0 else 1000000)
      by_cases c : p = g
      · rw [if_pos c, c, G_goal hG]; exact Nat.le_refl _
      · rw [if_neg c]; exact (hG p).1
    · show (if p = g then 0 else 1000000) ≤ 1000000
      split <;> omega
    · show (if p = g then 0 else 1000000) ≤ _
      have hk0 : k = 0 := by omega
      subst hk0
      by_cases c : p = g
      · rw [if_pos c]; exact Nat.zero_le _
      · rw [show dA b g 0 p = 1000000 from if_neg c] at hd; omega
  unfold f_X5_measure
  rw [hFU]
  refine it_rule (bot := fun _ _ _ _ => none) (a_R b) (fun i (s : OS) => ∀ r, r < i → O_toll s r = nI (tlA b r) ∧ O_far s r = nI (if r = g then 0 else 1000000)) (fun k i s => ∃ ro', k s h (nI g) (nI i) = some ro' ∧ ∀ r, r < a_R b → O_toll ro' r = nI (tlA b r) ∧ O_far ro' r = nI (G r)) ?_ ?_ N 0 ro (by omega) (by omega) (fun r hr => absurd hr (Nat.not_lt_zero _))
  · intro k s hs
    unfold X5_measure_B2
    rw [hH.1, if_pos (Int32.le_refl _)]
    exact l2 s hs
  · intro k i s hi hs hk
    have go : ∀ (x : Int32), x = nI (if i = g then 0 else 1000000) → ∃ ro', X5_measure_J42 k (O_set_toll s (upd (O_toll s) i (nI (tlA b i)))) h (nI g) (nI i) x (nI i) = some ro' ∧ ∀ r, r < a_R b → O_toll ro' r = nI (tlA b r) ∧ O_far ro' r = nI (G r) := by
      intro x hx
      unfold X5_measure_J42
      rw [chk_nI (show i < 6 by omega) (by decide), ltA_eq, nI_clamp (show i < 2 ^ 31 by omega), nI_1]
      refine hk _ (fun r hr => ?_)
      show upd (O_toll s) i (nI (tlA b i)) r = _ ∧ upd (O_far s) i x r = _
      by_cases c : r = i
      · subst c
        exact ⟨pk_us, pk_us.trans hx⟩
      · exact ⟨(pk_un c).trans (hs r (by omega)).1, (pk_un c).trans (hs r (by omega)).2⟩
    unfold X5_measure_B2
    rw [hH.1, if_neg (nI_ge hi (by omega)), count_spec hI hH (show i < 2 ^ 31 by omega), Option.bind_some, chk_nI (show i < 6 by omega) (by decide), ltA_eq, nI_clamp (show i < 2 ^ 31 by omega), show (100 : Int32) * nI (a_in b i) + 1 = nI (tlA b i) by rw [show (100 : Int32) = nI 100 from rfl, pk_mul, nI_1]; rfl]
    by_cases c : i = g
    · rw [if_pos (by rw [c])]
      exact go 0 (by rw [if_pos c]; rfl)
    · rw [if_neg (fun q => c ((nI_eq (by omega) (by omega)).mp q))]
      exact go 1000000 (by rw [if_neg c]; rfl)
theorem cfollow (hI : Inv b) (hH : Hc h b) (hG : Gw b g G) {ro : OS} (hro : ∀ r, r < a_R b → O_toll ro r = nI (tlA b r) ∧ O_far ro r = nI (G r)) {p q : Nat} (hp : p < a_R b) (hq : q < a_R b) (h1 : flC b G p q) (h2 : ∀ j, j < q → ¬ flC b G p j) : f_X5_follower ro h (nI p) = some (nI q) := by
  obtain ⟨N, hN, hFU⟩ := FU_ex
  have hR := hI.1.2.1
  have hp6 : p < 6 := by omega
  unfold f_X5_follower
  rw [hFU]
  refine it_rule (bot := fun _ _ _ _ => none) q (fun _ (_ : Unit) => True) (fun k i _ => k ro h (nI p) (nI i) = some (nI q)) ?_ ?_ N 0 () (by omega) (by omega) trivial
  · intro k _ _
    have hw := (hI.2.2.1 p q hp6 (by omega)).1
    have e := h1.1
    unfold X5_follower_B2
    rw [hH.1, if_neg (nI_ge hq (by omega)), width_spec hH hp6 (by omega), Option.bind_some, if_neg (show ¬ nI (a_wd b p q) ≤ (0 : Int32) from nI_nle e (by omega)), chk_nI (show q < 6 by omega) (by decide), chk_nI (show q < 6 by omega) (by decide), chk_nI hp6 (by decide), nI_clamp (show p < 2 ^ 31 by omega), nI_clamp (show q < 2 ^ 31 by omega), (hro q hq).1, (hro q hq).2, (hro p hp).2, nI_add, if_pos (by rw [h1.2])]
  · intro k i _ hi _ hk
    have hk := hk () trivial
    have hw := (hI.2.2.1 p i hp6 (by omega)).1
    have hiR : i < a_R b := by omega
    unfold X5_follower_B2 X5_follower_J43
    rw [hH.1, if_neg (nI_ge hiR (by omega)), width_spec hH hp6 (by omega), Option.bind_some, nI_1]
    by_cases e : 0 < a_wd b p i
    · have b1 := tl_lt b i
      have b2 := (hG i).1
      have b3 := (hG p).1
      rw [if_neg (show ¬ nI (a_wd b p i) ≤ (0 : Int32) from nI_nle e (by omega)), chk_nI (show i < 6 by omega) (by decide), chk_nI (show i < 6 by omega) (by decide), chk_nI hp6 (by decide), nI_clamp (show p < 2 ^ 31 by omega), nI_clamp (show i < 2 ^ 31 by omega), (hro i hiR).1, (hro i hiR).2, (hro p hp).2, nI_add, if_neg (fun c => h2 i hi ⟨e, (nI_eq (by omega) (by omega)).mp c⟩)]
      exact hk
    · rw [if_pos (show nI (a_wd b p i) ≤ (0 : Int32) from nI_le (b := 0) (by omega) (by decide))]
      exact hk
/-- the i-th room on the way, by the class -/
theorem cstep (hI : Inv b) (hH : Hc h b) (hG : Gw b g G) {ro : OS} (hro : ∀ r, r < a_R b → O_toll ro r = nI (tlA b r) ∧ O_far ro r = nI (G r)) {r k i : Nat} (hk : k < a_R b) (P : Nat → Nat) (p0 : P 0 = r) (p1 : ∀ n, n ≤ k → P n < a_R b ∧ dA b g (k - n) (P n) < 1000000 ∧ G (P n) = 100 * dA b g (k - n) (P n) + (k - n)) (p2 : ∀ n, n < k → flC b G (P n) (P (n + 1)) ∧ ∀ j, j < P (n + 1) → ¬ flC b G (P n) j) (hi : i < 6) : f_X5_step ro h (nI r) (nI i) = some (if i ≤ k then nI (P i) else -6) := by
  obtain ⟨N, hN, hFU⟩ := FU_ex
  have hR := hI.1.2.1
  have hr : r < a_R b := by rw [← p0]; exact (p1 0 (Nat.zero_le _)).1
  have sm : ∀ n, n ≤ k → G (P n) < 1000000 := fun n hn => by
    obtain ⟨-, h1, h2⟩ := p1 n hn
    have := dA_small b g _ _ h1
    omega
  have hGr : G r < 1000000 := by rw [← p0]; exact sm 0 (Nat.zero_le _)
  unfold f_X5_step
  rw [if_neg (nI_pos (by omega)), if_neg (show ¬ (6 : Int32) ≤ nI i from nlit (by decide) hi), chk_nI (show r < 6 by omega) (by decide), nI_clamp (show r < 2 ^ 31 by omega), (hro r hr).2, if_pos (show nI (G r) < (1000000 : Int32) from nI_lt (b := 1000000) hGr (by decide)), hFU]
  have st : ∀ (kk : OS → HS → Int32 → Int32 → Int32 → Option Int32) n, n < i → n < k → kk ro h (nI i) (nI (P (n + 1))) (nI (n + 1)) = some (if i ≤ k then nI (P i) else -6) → X5_step_B30 kk ro h (nI i) (nI (P n)) (nI n) = some (if i ≤ k then nI (P i) else -6) := by
    intro kk n hn hnk hkk
    obtain ⟨q1, q2, q3⟩ := p1 n (by omega)
    have q4 := (p1 (n + 1) (by omega)).1
    have q5 := sm n (by omega)
    unfold X5_step_B30
    rw [if_neg (nI_ge hn (by omega)), chk_nI (show P n < 6 by omega) (by decide), nI_clamp (show P n < 2 ^ 31 by omega), (hro _ q1).2, if_neg (fun c => by
      have := (nI_eq (show G (P n) < 2 ^ 31 by omega) (b := 0) (by decide)).mp c
      omega), cfollow hI hH hG hro q1 q4 (p2 n hnk).1 (p2 n hnk).2, Option.bind_some, nI_1]
    exact hkk
  have q : it X5_step_B30 (fun _ _ _ _ _ => none) N ro h (nI i) (nI (P 0)) (nI 0) = some (if i ≤ k then nI (P i) else -6) := by
    by_cases c : i ≤ k
    · refine it_rule (bot := fun _ _ _ _ _ => none) i (fun _ (_ : Unit) => True) (fun kk n _ => kk ro h (nI i) (nI (P n)) (nI n) = some (if i ≤ k then nI (P i) else -6)) ?_ ?_ N 0 () (by omega) (by omega) trivial
      · intro kk _ _
        unfold X5_step_B30
        rw [if_pos (Int32.le_refl _), if_pos c]
      · intro kk n _ hn _ hkk
        exact st kk n hn (by omega) (hkk () trivial)
    · refine it_rule (bot := fun _ _ _ _ _ => none) k (fun _ (_ : Unit) => True) (fun kk n _ => kk ro h (nI i) (nI (P n)) (nI n) = some (if i ≤ k then nI (P i) else -6)) ?_ ?_ N 0 () (by omega) (by omega) trivial
      · intro kk _ _
        obtain ⟨q1, q2, q3⟩ := p1 k (Nat.le_refl _)
        rw [Nat.sub_self] at q2 q3
        have e : dA b g 0 (P k) = 0 := by
          by_cases c2 : P k = g
          · exact if_pos c2
          · rw [show dA b g 0 (P k) = 1000000 from if_neg c2] at q2; omega
        rw [e] at q3
        unfold X5_step_B30
        rw [if_neg (nI_ge (show k < i by omega) (by omega)), chk_nI (show P k < 6 by omega) (by decide), nI_clamp (show P k < 2 ^ 31 by omega), (hro _ q1).2, q3, if_pos (show nI (100 * 0 + 0) = 0 from rfl), if_neg c]
      · intro kk n _ hn _ hkk
        exact st kk n (by omega) hn (hkk () trivial)
  rw [p0] at q
  exact q
end CM
