/-! excuses -/
theorem nI_m1 (j : Nat) : nI (j + 1) + (-1 : Int32) = nI j := (Int32.sub_eq_add_neg _ _).symm.trans (nI_pred j)
section EX
variable {b : AS} {g : Nat} {G : Nat → Nat} {z : MS}
/-- the reference's way -/
theorem rstep (hI : Inv b) (hM : Mc (mnow z) b) (hG : Gw b g G) (hg : g < a_R b) {w : MS} (hD : De b g z w 36) {r k i : Nat} (hk : k < a_R b) (P : Nat → Nat) (p0 : P 0 = r) (p1 : ∀ n, n ≤ k → P n < a_R b ∧ dA b g (k - n) (P n) < 1000000 ∧ G (P n) = 100 * dA b g (k - n) (P n) + (k - n)) (p2 : ∀ n, n < k → flC b G (P n) (P (n + 1)) ∧ ∀ j, j < P (n + 1) → ¬ flC b G (P n) j) (hi : i ≤ k) : it X9_excuses_B316 (fun _ _ _ _ _ => none) FU w (nI i) (nI k) (nI r) (nI k) = some (nI (P i), w) := by
  obtain ⟨N, hN, hFU⟩ := FU_ex
  have hR := hI.1.2.1
  have q : it X9_excuses_B316 (fun _ _ _ _ _ => none) N w (nI i) (nI k) (nI (P 0)) (nI (k - 0)) = some (nI (P i), w) := by
    refine it_rule (bot := fun _ _ _ _ _ => none) i (fun _ (_ : Unit) => True) (fun kk n _ => kk w (nI i) (nI k) (nI (P n)) (nI (k - n)) = some (nI (P i), w)) ?_ ?_ N 0 () (by omega) (by omega) trivial
    · intro kk _ _
      unfold X9_excuses_B316
      rw [pk_sub hi, if_pos (Int32.le_refl _)]
    · intro kk n _ hn _ hkk
      have hkk := hkk () trivial
      obtain ⟨q1, q2, q3⟩ := p1 n (by omega)
      have q4 := (p1 (n + 1) (by omega)).1
      obtain ⟨f1, f2⟩ := p2 n (by omega)
      obtain ⟨j, hj⟩ : ∃ j, j = k - (n + 1) := ⟨_, rfl⟩
      rw [← hj] at hkk
      rw [show k - n = j + 1 by omega] at q2 q3 ⊢
      have tst : ∀ q, q < 6 → ((0 < a_wd b (P n) q ∧ a_in b q + dA b g j q = dA b g (j + 1) (P n)) ↔ flC b G (P n) q) := fun q hq => fl_ref hI hG hg q1 hq (by omega) q2 q3
      generalize P n = p at *
      generalize P (n + 1) = p' at *
      unfold X9_excuses_B316
      rw [pk_sub hi, if_neg (nI_ge (by omega) (by omega)), hFU]
      refine it_rule (bot := fun _ _ _ _ _ _ => none) p' (fun _ (_ : Unit) => True) (fun k2 m _ => k2 w (nI i) (nI k) (nI p) (nI (j + 1)) (nI m) = some (nI (P i), w)) ?_ ?_ N 0 () (by omega) (by omega) trivial
      · intro k2 _ _
        have hp' : p' < 6 := by omega
        obtain ⟨t1, t2⟩ := (tst p' hp').mpr f1
        unfold X9_excuses_B328
        have hw := (hI.2.2.1 p p' (by omega) hp').1
        rw [ix6', chk_nI (show 6 * p + p' < 36 by omega) (by decide), nI_clamp (show 6 * p + p' < 2 ^ 31 by omega), hD.W hM (by omega) hp', if_neg (nI_ne0 t1 (by omega)), cin_all hI (hD.now hM) hp', Option.bind_some, ix66, ix6', chk_nI (show 6 * j + p' < 36 by omega) (by decide), chk_nI (show 6 * (j + 1) + p < 36 by omega) (by decide), nI_clamp (show 6 * j + p' < 2 ^ 31 by omega), nI_clamp (show 6 * (j + 1) + p < 2 ^ 31 by omega), hD.at hp' (by omega), hD.at (show p < 6 by omega) (by omega), nI_add, if_pos (by rw [t2]), nI_m1]
        exact hkk
      · intro k2 m _ hm _ hk2
        have hk2 := hk2 () trivial
        have hm6 : m < 6 := by omega
        have hw := (hI.2.2.1 p m (by omega) hm6).1
        have nf := f2 m hm
        unfold X9_excuses_B328 X9_excuses_J385
        rw [ix6', chk_nI (show 6 * p + m < 36 by omega) (by decide), nI_clamp (show 6 * p + m < 2 ^ 31 by omega), hD.W hM (by omega) hm6, nI_1]
        by_cases e : 0 < a_wd b p m
        · have b1 := dA_le b g j m
          have b2 := in_8 b m
          rw [if_neg (nI_ne0 e (by omega)), cin_all hI (hD.now hM) hm6, Option.bind_some, ix66, ix6', chk_nI (show 6 * j + m < 36 by omega) (by decide), chk_nI (show 6 * (j + 1) + p < 36 by omega) (by decide), nI_clamp (show 6 * j + m < 2 ^ 31 by omega), nI_clamp (show 6 * (j + 1) + p < 2 ^ 31 by omega), hD.at hm6 (by omega), hD.at (show p < 6 by omega) (by omega), nI_add, if_neg (fun c => nf ((tst m hm6).mp ⟨e, (nI_eq (by omega) (by omega)).mp c⟩))]
          exact hk2
        · rw [if_pos (show nI (a_wd b p m) = 0 by rw [show a_wd b p m = 0 by omega]; rfl)]
          exact hk2
  rw [p0, Nat.sub_zero] at q
  rw [hFU]
  exact q
/-- the best number of doors -/
theorem rbest (hI : Inv b) (hM : Mc (mnow z) b) {w : MS} (hD : De b g z w 36) {r : Nat} (hr : r < 6) (x3 : Int32) {v : Option (Int32 × MS)} (hk : ∀ s, s < 6 → (∀ j, j < 6 → dA b g s r ≤ dA b g j r) → (∀ j, j < s → dA b g s r < dA b g j r) → (if (1000000 : Int32) ≤ nI (dA b g s r) then X9_excuses_J280 w (nI (dA b g s r)) else (if x3 = (-1 : Int32) then X9_excuses_J280 w (nI (dA b g s r)) else ((f_X9_in x3 (0 : Int32) (nI s)).bind fun q299 => (if q299 = 0 then (some ((-6 : Int32), w)) else (it X9_excuses_B316 (fun _ _ _ _ _ => none) FU w x3 (nI s) (nI r) (nI s)))))) = v) : it X9_excuses_B202 (fun _ _ _ _ _ => none) FU w x3 (nI r) 0 1 = v := by
  obtain ⟨N, hN, hFU⟩ := FU_ex
  rw [hFU]
  refine it_rule (bot := fun _ _ _ _ _ => none) 5 (fun i (s : Nat) => s < i + 1 ∧ (∀ j, j < i + 1 → dA b g s r ≤ dA b g j r) ∧ ∀ j, j < s → dA b g s r < dA b g j r) (fun kk i s => kk w x3 (nI r) (nI s) (nI (i + 1)) = v) ?_ ?_ N 0 0 (by omega) (by omega) ⟨by omega, fun j hj => by rw [show j = 0 by omega]; exact Nat.le_refl _, fun j hj => absurd hj (Nat.not_lt_zero _)⟩
  · intro kk s ⟨s1, s2, s3⟩
    unfold X9_excuses_B202
    rw [if_pos (by decide), ix6', chk_nI (show 6 * s + r < 36 by omega) (by decide), nI_clamp (show 6 * s + r < 2 ^ 31 by omega), hD.at hr (by omega)]
    exact hk s s1 s2 s3
  · intro kk i s hi ⟨s1, s2, s3⟩ hkk
    have b1 := dA_le b g s r
    have b2 := dA_le b g (i + 1) r
    unfold X9_excuses_B202 X9_excuses_J245
    rw [if_neg (show ¬ (6 : Int32) ≤ nI (i + 1) from nlit (b := 6) (by decide) (by omega)), ix6', ix6', chk_nI (show 6 * (i + 1) + r < 36 by omega) (by decide), chk_nI (show 6 * s + r < 36 by omega) (by decide), nI_clamp (show 6 * s + r < 2 ^ 31 by omega), nI_clamp (show 6 * (i + 1) + r < 2 ^ 31 by omega), hD.at hr (by omega), hD.at hr (by omega), nI_1]
    by_cases c : dA b g s r ≤ dA b g (i + 1) r
    · rw [if_pos (nI_le c (by omega))]
      refine hkk s ⟨by omega, fun j hj => ?_, s3⟩
      by_cases e : j = i + 1
      · rw [e]; exact c
      · exact s2 j (by omega)
    · rw [if_neg (nI_ge (by omega) (by omega))]
      refine hkk (i + 1) ⟨by omega, fun j hj => ?_, fun j hj => ?_⟩
      · by_cases e : j = i + 1
        · rw [e]; exact Nat.le_refl _
        · have := s2 j (by omega); omega
      · have := s2 j (by omega); omega
end EX
theorem sim_excuses : Sim_excuses Rel := by
  intro S z x1 x2 x3 h
  obtain ⟨⟨a, hI, hH, hM⟩, h3⟩ := id h
  have hH : Hc (K_now S) a := hH
  have hM : Mc (mcore z) a := hM
  have hR := hI.1.2.1
  have out : ∀ v : Int32, f_X8_excuses (K_now S) (K_route S) x1 x2 x3 = some (v, K_route S) → f_X9_excuses z x1 x2 x3 = some (v, z) → ∃ q w, f_X8_excuses (K_now S) (K_route S) x1 x2 x3 = some q ∧ f_X9_excuses z x1 x2 x3 = some w ∧ q.1 = w.1 ∧ Rel (K_set_route S q.2) w.2 := fun v e1 e2 => ⟨_, _, e1, e2, rfl, h.to rfl rfl⟩
  have n10 : ¬ (1 : Int32) = 0 := by decide
  rcases th_cases hI hH hM x1 with ⟨gu, hgu, rfl, hth, t1, t2⟩ | ⟨t1, t2⟩
  · rcases rm_cases hI hH hM x2 with ⟨g, hg, rfl, r1, r2⟩ | ⟨-, r1, r2⟩
    · obtain ⟨w0, e1, e2, e3⟩ := asNow_Mx hM
      have hN : Mc (mnow w0) a := e3.1
      obtain ⟨G, hG⟩ := Gw_ex a g
      obtain ⟨ro, c1, c2⟩ := cmeasure hI hH hG hg (K_route S)
      obtain ⟨r, hr⟩ : ∃ r, r = a_pl a gu := ⟨_, rfl⟩
      have hrR : r < a_R a := by rw [hr]; exact (hI.2.2.2.2.2.1 gu hgu hth).1
      have hr6 : r < 6 := by omega
      have hp : H_place (K_now S) gu = nI r := by rw [hr]; exact (hH.2.2.2.2.2.1 gu hgu).1
      -- what the class answers
      obtain ⟨v, cv, rv⟩ : ∃ v : Int32, (if x3 = (-1 : Int32) then f_X5_excusesFrom ro (nI r) else f_X5_step ro (K_now S) (nI r) x3) = some v ∧ ∀ w, De a g w0 w 36 → it X9_excuses_B202 (fun _ _ _ _ _ => none) FU w x3 (nI r) 0 1 = some (v, w) := by
        have fr := (c2 r hrR).2
        have hle := (hG r).1
        have hex : f_X5_excusesFrom ro (nI r) = some (if G r < 1000000 then nI (G r / 100) else -6) := by
          unfold f_X5_excusesFrom
          rw [chk_nI hr6 (by decide), chk_nI hr6 (by decide), nI_clamp (by omega), fr]
          by_cases c : G r < 1000000
          · rw [if_pos (show nI (G r) < (1000000 : Int32) from nI_lt (b := 1000000) c (by decide)), if_pos c, show (100 : Int32) = nI 100 from rfl, pk_div (by omega) (by decide) (by decide)]
          · rw [if_neg (show ¬ nI (G r) < (1000000 : Int32) from nI_nlt (b := 1000000) (by omega) (by omega)), if_neg c]
        by_cases c : G r < 1000000
        · obtain ⟨k, k1, k2, k3⟩ := G_k hI hG hg hrR c
          have ksm := dA_small a g k r k2
          -- the reference's best is k
          have best : ∀ s, s < 6 → (∀ j, j < 6 → dA a g s r ≤ dA a g j r) → (∀ j, j < s → dA a g s r < dA a g j r) → s = k := by
            intro s s1 s2 s3
            have h4 := s2 k (by omega)
            have h5 := (hG r).2.1 s (by omega)
            by_cases q : k < s
            · have := s3 k q
              omega
            · omega
          by_cases cm : x3 = -1
          · refine ⟨nI (dA a g k r), ?_, ?_⟩
            · rw [if_pos cm, hex, if_pos c, k3, show (100 * dA a g k r + k) / 100 = dA a g k r by omega]
            · intro w hD
              refine rbest hI hN hD hr6 x3 (fun s s1 s2 s3 => ?_)
              rw [best s s1 s2 s3, if_neg (show ¬ (1000000 : Int32) ≤ nI (dA a g k r) from nI_ge (b := 1000000) k2 (by decide)), if_pos cm]
              unfold X9_excuses_J280
              rw [if_pos (show nI (dA a g k r) < (1000000 : Int32) from nI_lt (b := 1000000) k2 (by decide))]
          · obtain ⟨P, p0, p1, p2⟩ := way_ex hI hG hg hrR k1 k2 k3
            by_cases b1 : x3 < 0
            · refine ⟨-6, ?_, ?_⟩
              · rw [if_neg cm]; unfold f_X5_step; rw [if_pos b1]
              · intro w hD
                refine rbest hI hN hD hr6 x3 (fun s s1 s2 s3 => ?_)
                rw [best s s1 s2 s3, if_neg (show ¬ (1000000 : Int32) ≤ nI (dA a g k r) from nI_ge (b := 1000000) k2 (by decide)), if_neg cm, in_0 (Or.inl b1), Option.bind_some, if_pos rfl]
            · obtain ⟨i, hi', rfl⟩ := nI_of b1
              by_cases b2 : i ≤ k
              · refine ⟨nI (P i), ?_, ?_⟩
                · rw [if_neg cm, cstep hI hH hG c2 k1 P p0 p1 p2 (show i < 6 by omega), if_pos b2]
                · intro w hD
                  refine rbest hI hN hD hr6 _ (fun s s1 s2 s3 => ?_)
                  rw [best s s1 s2 s3, if_neg (show ¬ (1000000 : Int32) ≤ nI (dA a g k r) from nI_ge (b := 1000000) k2 (by decide)), if_neg cm, in_1 b1 (nI_nlt b2 (by omega)), Option.bind_some, if_neg n10]
                  exact rstep hI hN hG hg hD k1 P p0 p1 p2 b2
              · refine ⟨-6, ?_, ?_⟩
                · rw [if_neg cm]
                  by_cases b3 : i < 6
                  · rw [cstep hI hH hG c2 k1 P p0 p1 p2 b3, if_neg b2]
                  · unfold f_X5_step
                    rw [if_neg b1, if_pos (show (6 : Int32) ≤ nI i from nI_le (a := 6) (by omega) hi')]
                · intro w hD
                  refine rbest hI hN hD hr6 _ (fun s s1 s2 s3 => ?_)
                  rw [best s s1 s2 s3, if_neg (show ¬ (1000000 : Int32) ≤ nI (dA a g k r) from nI_ge (b := 1000000) k2 (by decide)), if_neg cm, in_0 (Or.inr (nI_lt (by omega) hi')), Option.bind_some, if_pos rfl]
        · -- no way
          have none : ∀ s, s < 6 → dA a g s r = 1000000 := by
            intro s hs
            have h1 := dA_le a g s r
            by_cases q : dA a g s r < 1000000
            · have := (hG r).2.1 s q
              have := dA_small a g s r q
              omega
            · omega
          refine ⟨-6, ?_, ?_⟩
          · by_cases cm : x3 = -1
            · rw [if_pos cm, hex, if_neg c]
            · rw [if_neg cm]
              unfold f_X5_step
              by_cases b1 : x3 < 0
              · rw [if_pos b1]
              · rw [if_neg b1]
                by_cases b2 : (6 : Int32) ≤ x3
                · rw [if_pos b2]
                · rw [if_neg b2, chk_nI hr6 (by decide), nI_clamp (by omega), fr, if_neg (show ¬ nI (G r) < (1000000 : Int32) from nI_nlt (b := 1000000) (by omega) (by omega))]
          · intro w hD
            refine rbest hI hN hD hr6 x3 (fun s s1 s2 s3 => ?_)
            rw [none s s1, if_pos (show (1000000 : Int32) ≤ nI 1000000 by decide)]
            unfold X9_excuses_J280
            rw [if_neg (show ¬ nI 1000000 < (1000000 : Int32) by decide)]
      obtain ⟨⟨v2, w2⟩, d1, d2, d3⟩ := rtable hI hN hgu hth (show g < 2 ^ 31 by omega) x3 (fun u => u.1 = v ∧ mkeep u.2 = mkeep z) (fun w hD => ⟨(v, w), by rw [← hr]; exact rv w hD, rfl, hD.1.trans e2⟩)
      have d2 : v2 = v := d2
      subst d2
      refine ⟨(v2, ro), (v2, w2), ?_, ?_, rfl, h.to rfl d3⟩
      · unfold f_X8_excuses
        rw [t1, Option.bind_some, if_neg n10, r1, Option.bind_some, if_neg n10, c1, Option.bind_some, chk_nI hgu (by decide), nI_clamp (by omega), hp]
        by_cases cm : x3 = -1
        · rw [if_pos cm] at cv
          rw [if_pos cm, cv, Option.bind_some]
        · rw [if_neg cm] at cv
          rw [if_neg cm, cv, Option.bind_some]
      · unfold f_X9_excuses
        rw [t2, Option.bind_some, if_neg n10, r2, Option.bind_some, if_neg n10, e1, Option.bind_some]
        exact d1
    · exact out (-1) (by unfold f_X8_excuses; rw [t1, Option.bind_some, if_neg n10, r1, Option.bind_some, if_pos rfl]) (by unfold f_X9_excuses; rw [t2, Option.bind_some, if_neg n10, r2, Option.bind_some, if_pos rfl])
  · exact out (-1) (by unfold f_X8_excuses; rw [t1, Option.bind_some, if_pos rfl]) (by unfold f_X9_excuses; rw [t2, Option.bind_some, if_pos rfl])
