/-! a year -/
abbrev YA : Type := AS × Nat × Nat × Nat
def yX (X : Nat) : Nat := (75 * X + 74) % 65537
/-- the two meet -/
def meetA (b : AS) (X : Nat) : AS := if X % 8 ≠ X / 8 % 8 ∧ wnt b (X % 8) (X / 8 % 8) = 0 then tkk b (X % 8) (X / 8 % 8) (1 + X / 64 % 5) else b
def meetN (b : AS) (X : Nat) : Nat := if X % 8 ≠ X / 8 % 8 ∧ wnt b (X % 8) (X / 8 % 8) = 0 then 1 else 0
def yS (s : YA) : YA := (minA lo0 (meetA s.1 (yX s.2.2.2)), s.2.1 + wentA lo0 (meetA s.1 (yX s.2.2.2)), s.2.2.1 + meetN s.1 (yX s.2.2.2), yX s.2.2.2)
def yA (s : YA) : Nat → YA
  | 0 => s
  | m + 1 => yS (yA s m)
theorem yA_s (s : YA) (m : Nat) : yA s (m + 1) = yS (yA s m) := rfl
theorem wnt_0 {b : AS} {g q : Nat} (h : wnt b g q = 0) : a_is b g = true ∧ a_is b q = true ∧ a_bs b g = 0 ∧ a_bs b q = 0 ∧ a_pl b g = a_pl b q := by
  unfold wnt at h
  by_cases c1 : a_is b g = true ∧ a_is b q = true
  · rw [if_neg (fun h => h c1)] at h
    by_cases c2 : a_bs b g = 0 ∧ a_bs b q = 0
    · rw [if_neg (fun h => h c2)] at h
      by_cases c3 : a_pl b g = a_pl b q
      · exact ⟨c1.1, c1.2, c2.1, c2.2, c3⟩
      · rw [if_pos c3] at h; cases h
    · rw [if_pos c2] at h; cases h
  · rw [if_pos c1] at h; cases h
theorem wnt_le (b : AS) (g q : Nat) : wnt b g q ≤ 3 := by
  unfold wnt
  repeat' split
  all_goals decide
theorem Inv_meet {b : AS} (hI : Inv b) (X : Nat) : Inv (meetA b X) := by
  unfold meetA
  by_cases c : X % 8 ≠ X / 8 % 8 ∧ wnt b (X % 8) (X / 8 % 8) = 0
  · rw [if_pos c]
    obtain ⟨h1, h2, h3, h4, -⟩ := wnt_0 c.2
    exact Inv_tkk hI (Nat.mod_lt _ (by decide)) (Nat.mod_lt _ (by decide)) h1 h2 h3 h4 c.1 (by omega) (by omega)
  · rw [if_neg c]; exact hI
theorem yA_ok {s : YA} (hI : Inv s.1) (hX : s.2.2.2 < 65537) (h0 : s.2.1 = 0) (h1 : s.2.2.1 = 0) : ∀ m, Inv (yA s m).1 ∧ (yA s m).2.1 ≤ 8 * m ∧ (yA s m).2.2.1 ≤ m ∧ (yA s m).2.2.2 < 65537
  | 0 => ⟨hI, by rw [show (yA s 0) = s from rfl, h0]; omega, by rw [show (yA s 0) = s from rfl, h1]; omega, hX⟩
  | m + 1 => by
    obtain ⟨i1, i2, i3, i4⟩ := yA_ok hI hX h0 h1 m
    rw [yA_s]
    have hw : wentA lo0 (meetA (yA s m).1 (yX (yA s m).2.2.2)) ≤ 8 := (Kp_mv (Inv_meet i1 _) lo0 8 (Nat.le_refl _)).2.2.1
    refine ⟨Inv_min (Inv_meet i1 _) lo0, ?_, ?_, Nat.mod_lt _ (by decide)⟩
    · show (yA s m).2.1 + _ ≤ _; omega
    · show (yA s m).2.2.1 + meetN _ _ ≤ _
      unfold meetN; split <;> omega
theorem yX_i {X : Nat} (hX : X < 65537) : (((75 : Int32) * nI X) + (74 : Int32)) - (((75 : Int32) * nI X) + (74 : Int32)) / (65537 : Int32) * (65537 : Int32) = nI (yX X) := by
  rw [show (75 : Int32) = nI 75 from rfl, pk_mul, show (74 : Int32) = nI 74 from rfl, nI_add, show (65537 : Int32) = nI 65537 from rfl, pk_rem (by omega) (by decide) (by decide)]
  rfl
theorem m8 {X : Nat} (hX : X < 65537) : nI X - nI X / (8 : Int32) * (8 : Int32) = nI (X % 8) := pk_rem (a := X) (d := 8) (by omega) (by decide) (by decide)
theorem d8 {X : Nat} (hX : X < 65537) : nI X / (8 : Int32) - nI X / (8 : Int32) / (8 : Int32) * (8 : Int32) = nI (X / 8 % 8) := by
  rw [show nI X / (8 : Int32) = nI (X / 8) from pk_div (by omega) (by decide) (by decide)]
  exact pk_rem (a := X / 8) (d := 8) (by omega) (by decide) (by decide)
theorem d64 {X : Nat} (hX : X < 65537) : (1 : Int32) + (nI X / (64 : Int32) - nI X / (64 : Int32) / (5 : Int32) * (5 : Int32)) = nI (1 + X / 64 % 5) := by
  rw [show nI X / (64 : Int32) = nI (X / 64) from pk_div (by omega) (by decide) (by decide), show nI (X / 64) - nI (X / 64) / (5 : Int32) * (5 : Int32) = nI (X / 64 % 5) from pk_rem (d := 5) (by omega) (by decide) (by decide), show (1 : Int32) = nI 1 from rfl, nI_add]
/-- the present may change but for crowds, tastes and doors -/
theorem Dx_house {d : DS} {b b' : AS} {gn : Nat → Nat → Nat} {lo : Nat → Nat → Bool} {h' : HS} (hD : Dx d b gn lo) (hH : Hc h' b') (hT : a_T b' = a_T b) (hR : a_R b' = a_R b) (hin : ∀ r, r < 6 → a_in b' r = a_in b r) (hth : a_th b' = a_th b) (hlk : a_lk b' = a_lk b) (hwd : a_wd b' = a_wd b) (hj : ∀ r q, r < 6 → q < 6 → jam b' r q = jam b r q) : Dx (D_set_house d h') b' gn lo := by
  obtain ⟨h1, h2, h3, h4, h5⟩ := hD
  refine ⟨hH, fun r hr => (h2 r hr).trans (by rw [hin r hr]), fun g r hg hi hr => ?_, fun r q hr hq => ?_, h5⟩
  · have hi' : a_is b g = true := by unfold a_is at hi ⊢; rw [← hT]; exact hi
    rw [hR] at hr
    have e : lkf b' g = lkf b g := by unfold lkf; rw [hlk]
    rw [e, pt_th hth]; exact h3 g r hg hi' hr
  · refine (h4 r q hr hq).trans ?_
    unfold wdv; rw [hwd, hj r q hr hq]
theorem jam_tkk {b : AS} {g q l : Nat} (bg : a_bs b g ≠ 3) (bq : a_bs b q ≠ 3) (r t : Nat) : jam (tkk b g q l) r t = jam b r t := cnt_congr (fun j _ => by
  unfold stn
  simp only [tkk_bs, tkk_mt, tkk_pl]
  by_cases c1 : j = q
  · have e : (a_bs b j == 3) = false := by rw [c1]; simp [bq]
    rw [if_pos c1, e]; simp
  · by_cases c2 : j = g
    · have e : (a_bs b j == 3) = false := by rw [c2]; simp [bg]
      rw [if_neg c1, if_pos c2, e]; simp
    · rw [if_neg c1, if_neg c2, if_neg c1, if_neg c2])
theorem cmeet_spec {d : DS} {b : AS} {gn : Nat → Nat → Nat} (hI : Inv b) (hD : Dx d b gn lo0) (yr : US) {X n : Nat} (hX : X < 65537) (ht : U_talks yr = nI n) : ∃ yr' h', f_X7_meet yr (D_house d) (nI X) = some (yr', h') ∧ U_went yr' = U_went yr ∧ U_talks yr' = nI (n + meetN b X) ∧ Dx (D_set_house d h') (meetA b X) gn lo0 := by
  have l1 : X % 8 < 8 := Nat.mod_lt _ (by decide)
  have l2 : X / 8 % 8 < 8 := Nat.mod_lt _ (by decide)
  have hw := wnt_le b (X % 8) (X / 8 % 8)
  unfold f_X7_meet meetN meetA
  rw [m8 hX, d8 hX, d64 hX]
  by_cases c1 : X % 8 = X / 8 % 8
  · rw [if_pos (by rw [c1]), if_neg (fun h => h.1 c1), if_neg (fun h => h.1 c1)]
    exact ⟨yr, D_house d, rfl, rfl, ht, hD⟩
  · rw [if_neg (fun h => c1 ((nI_eq (by omega) (by omega)).mp h)), cwnt_spec hI hD.1 l1 l2, Option.bind_some]
    by_cases c2 : wnt b (X % 8) (X / 8 % 8) = 0
    · obtain ⟨w1, w2, w3, w4, -⟩ := wnt_0 c2
      obtain ⟨h', t1, t2⟩ := ctalk_spec (l := 1 + X / 64 % 5) hD.1 l1 l2
      rw [if_pos (show nI (wnt b (X % 8) (X / 8 % 8)) = 0 by rw [c2]; rfl), t1, Option.bind_some, if_pos ⟨c1, c2⟩, if_pos ⟨c1, c2⟩]
      refine ⟨_, h', rfl, rfl, ?_, Dx_house hD t2 rfl rfl (fun _ _ => rfl) rfl rfl rfl (fun r q _ _ => jam_tkk (by omega) (by omega) r q)⟩
      show U_talks yr + 1 = _
      rw [ht, nI_1]
    · rw [if_neg (show ¬ nI (wnt b (X % 8) (X / 8 % 8)) = 0 from fun h => c2 ((nI_eq (by omega) (b := 0) (by decide)).mp h)), if_neg (fun h => c2 h.2), if_neg (fun h => c2 h.2)]
      exact ⟨yr, D_house d, rfl, rfl, ht, hD⟩
theorem cyear_spec {d : DS} {a : AS} {gn : Nat → Nat → Nat} (hI : Inv a) (hD : Dx d a gn lo0) (yr : US) (u0 : U_went yr = 0) (u1 : U_talks yr = 0) {X m : Nat} (hX : X < 65537) (hm : m < 1000) : ∃ yr' d' gn', it X7_pass_B16 (fun _ _ _ _ _ => none) FU yr d (nI m) (nI X) 0 = some (yr', d') ∧ U_went yr' = nI (yA (a, 0, 0, X) m).2.1 ∧ U_talks yr' = nI (yA (a, 0, 0, X) m).2.2.1 ∧ Dx d' (yA (a, 0, 0, X) m).1 gn' lo0 := by
  obtain ⟨N, hN, hFU⟩ := FU_ex
  rw [hFU]
  have ok := yA_ok (s := (a, 0, 0, X)) hI hX rfl rfl
  refine it_rule (bot := fun _ _ _ _ _ => none) m (fun i (s : US × DS) => U_went s.1 = nI (yA (a, 0, 0, X) i).2.1 ∧ U_talks s.1 = nI (yA (a, 0, 0, X) i).2.2.1 ∧ ∃ gn, Dx s.2 (yA (a, 0, 0, X) i).1 gn lo0) (fun k i s => ∃ yr' d' gn', k s.1 s.2 (nI m) (nI (yA (a, 0, 0, X) i).2.2.2) (nI i) = some (yr', d') ∧ U_went yr' = nI (yA (a, 0, 0, X) m).2.1 ∧ U_talks yr' = nI (yA (a, 0, 0, X) m).2.2.1 ∧ Dx d' (yA (a, 0, 0, X) m).1 gn' lo0) ?_ ?_ N 0 (yr, d) (by omega) (by omega) ⟨u0, u1, gn, hD⟩
  · rintro k ⟨yr, d⟩ ⟨h1, h2, gn, h3⟩
    exact ⟨yr, d, gn, by unfold X7_pass_B16; rw [if_pos (Int32.le_refl _)], h1, h2, h3⟩
  · rintro k i ⟨yr, d⟩ hi ⟨h1, h2, gn, h3⟩ hk
    obtain ⟨i1, i2, i3, i4⟩ := ok i
    rw [yA_s] at hk
    generalize yA (a, 0, 0, X) i = s at *
    obtain ⟨b, n1, n2, Y⟩ := s
    have hX' : yX Y < 65537 := Nat.mod_lt _ (by decide)
    obtain ⟨yr1, h', e1, e2, e3, e4⟩ := cmeet_spec i1 h3 yr hX' h2
    obtain ⟨d1, gn1, m1, m2⟩ := minute_spec (Inv_meet i1 (yX Y)) (Lo0 _) e4
    obtain ⟨yr', d', gn', k1, k2⟩ := hk (U_set_went yr1 (U_went yr1 + nI (wentA lo0 (meetA b (yX Y)))), d1) ⟨by
      show U_went yr1 + nI (wentA lo0 (meetA b (yX Y))) = nI (n1 + _)
      rw [e2, show U_went yr = nI n1 from h1, nI_add], e3, gn1, m2⟩
    refine ⟨yr', d', gn', ?_, k2⟩
    show X7_pass_B16 k yr d (nI m) (nI Y) (nI i) = _
    unfold X7_pass_B16
    rw [if_neg (nI_ge hi (by omega)), yX_i i4, e1, Option.bind_some]
    show (f_X0_minute (D_set_house d h')).bind _ = _
    rw [m1, Option.bind_some, nI_1]
    exact k1
theorem ryear_spec {w : MS} {a : AS} (hI : Inv a) (hM : Mx0 w a lo0) (x3 : Int32) {X m : Nat} (hX : X < 65537) (hm : m < 1000) : ∃ w', it X9_year_B49 (fun _ _ _ _ _ _ _ => none) FU w (nI m) x3 (nI X) 0 0 0 = some (if x3 = 0 then nI (yA (a, 0, 0, X) m).2.1 else if x3 = 1 then nI (yA (a, 0, 0, X) m).2.2.1 else nI (a_in (yA (a, 0, 0, X) m).1 0), w') ∧ mkeep w' = mkeep w := by
  obtain ⟨N, hN, hFU⟩ := FU_ex
  rw [hFU]
  have ok := yA_ok (s := (a, 0, 0, X)) hI hX rfl rfl
  refine it_rule (bot := fun _ _ _ _ _ _ _ => none) m (fun i (s : MS) => mkeep s = mkeep w ∧ Mx0 s (yA (a, 0, 0, X) i).1 lo0) (fun k i s => ∃ w', k s (nI m) x3 (nI (yA (a, 0, 0, X) i).2.2.2) (nI (yA (a, 0, 0, X) i).2.1) (nI (yA (a, 0, 0, X) i).2.2.1) (nI i) = some (if x3 = 0 then nI (yA (a, 0, 0, X) m).2.1 else if x3 = 1 then nI (yA (a, 0, 0, X) m).2.2.1 else nI (a_in (yA (a, 0, 0, X) m).1 0), w') ∧ mkeep w' = mkeep w) ?_ ?_ N 0 w (by omega) (by omega) ⟨rfl, hM⟩
  · intro k s ⟨h1, h2⟩
    refine ⟨s, ?_, h1⟩
    unfold X9_year_B49
    have hc : f_X9_countIn s 0 (-6) = some (nI (a_in (yA (a, 0, 0, X) m).1 0)) := cin_all (ok m).1 h2.1 (r := 0) (by decide)
    rw [if_pos (Int32.le_refl _), hc, Option.bind_some]
    by_cases c1 : x3 = 0
    · rw [if_pos c1, if_pos c1]
    · rw [if_neg c1, if_neg c1]
      by_cases c2 : x3 = 1
      · rw [if_pos c2, if_pos c2]
      · rw [if_neg c2, if_neg c2]
  · intro k i s hi ⟨h1, h2⟩ hk
    obtain ⟨i1, i2, i3, i4⟩ := ok i
    rw [yA_s] at hk
    generalize yA (a, 0, 0, X) i = t at *
    obtain ⟨b, n1, n2, Y⟩ := t
    have hX' : yX Y < 65537 := Nat.mod_lt _ (by decide)
    have h2 : Mx0 s b lo0 := h2
    have i1 : Inv b := i1
    have l1 : yX Y % 8 < 8 := Nat.mod_lt _ (by decide)
    have l2 : yX Y / 8 % 8 < 8 := Nat.mod_lt _ (by decide)
    have hw := wnt_le b (yX Y % 8) (yX Y / 8 % 8)
    have fin : ∀ s' : MS, mkeep s' = mkeep s → Mx0 s' (meetA b (yX Y)) lo0 → ∀ n : Nat, n = n2 + meetN b (yX Y) → ∃ w', X9_year_J123 k s' (nI m) x3 (nI (yX Y)) (nI n1) (nI n) (nI i) = some (if x3 = 0 then nI (yA (a, 0, 0, X) m).2.1 else if x3 = 1 then nI (yA (a, 0, 0, X) m).2.2.1 else nI (a_in (yA (a, 0, 0, X) m).1 0), w') ∧ mkeep w' = mkeep w := by
      intro s' e1 e2 n hn
      obtain ⟨s2, gn2, p1, p2, p3⟩ := pass_spec (Inv_meet i1 (yX Y)) (Lo0 _) e2
      obtain ⟨w', k1, k2⟩ := hk s2 ⟨(p2.trans e1).trans h1, p3.to0⟩
      refine ⟨w', ?_, k2⟩
      unfold X9_year_J123
      rw [p1, Option.bind_some, hn]
      show k s2 (nI m) x3 (nI (yX Y)) (nI n1 + nI (wentA lo0 (meetA b (yX Y)))) (nI (n2 + meetN b (yX Y))) (nI i + 1) = _
      rw [nI_add, nI_1]
      exact k1
    show ∃ w', X9_year_B49 k s (nI m) x3 (nI Y) (nI n1) (nI n2) (nI i) = _ ∧ _
    unfold X9_year_B49
    rw [if_neg (nI_ge hi (by omega)), yX_i i4, m8 hX', d8 hX', d64 hX']
    by_cases c1 : yX Y % 8 = yX Y / 8 % 8
    · rw [if_pos (by rw [c1])]
      exact fin s rfl (by unfold meetA; rw [if_neg (fun h => h.1 c1)]; exact h2) n2 (by unfold meetN; rw [if_neg (fun h => h.1 c1)]; rfl)
    · rw [if_neg (fun h => c1 ((nI_eq (by omega) (by omega)).mp h)), rwnt_spec i1 h2.1 l1 l2, Option.bind_some]
      by_cases c2 : wnt b (yX Y % 8) (yX Y / 8 % 8) = 0
      · obtain ⟨s', t1, t2, t3, -⟩ := rtalk2_spec (l := 1 + yX Y / 64 % 5) h2 l1 l2 c1
        rw [if_pos (show nI (wnt b (yX Y % 8) (yX Y / 8 % 8)) = 0 by rw [c2]; rfl), t1, Option.bind_some, nI_1]
        exact fin s' t2 (by unfold meetA; rw [if_pos ⟨c1, c2⟩]; exact t3) (n2 + 1) (by unfold meetN; rw [if_pos ⟨c1, c2⟩])
      · rw [if_neg (show ¬ nI (wnt b (yX Y % 8) (yX Y / 8 % 8)) = 0 from fun h => c2 ((nI_eq (by omega) (b := 0) (by decide)).mp h))]
        exact fin s rfl (by unfold meetA; rw [if_neg (fun h => c2 h.2)]; exact h2) n2 (by unfold meetN; rw [if_neg (fun h => c2 h.2)]; rfl)
theorem sim_year : Sim_year Rel := by
  intro S z x1 x2 x3 h
  obtain ⟨⟨a, hI, hH, hM⟩, h3⟩ := id h
  have hH : Hc (K_now S) a := hH
  have hM : Mc (mcore z) a := hM
  have out : ∀ v : Int32, f_X8_year (K_now S) (K_drift S) (K_draws S) x1 x2 x3 = some (v, K_drift S, K_draws S) → f_X9_year z x1 x2 x3 = some (v, z) → ∃ q w, f_X8_year (K_now S) (K_drift S) (K_draws S) x1 x2 x3 = some q ∧ f_X9_year z x1 x2 x3 = some w ∧ q.1 = w.1 ∧ Rel (K_set_draws (K_set_drift S q.2.1) q.2.2) w.2 := fun v e1 e2 => ⟨_, _, e1, e2, rfl, h.to rfl rfl⟩
  have n10 : ¬ (1 : Int32) = 0 := by decide
  by_cases b1 : x1 < 0
  · exact out (-2) (by unfold f_X8_year; rw [if_pos b1]) (by unfold f_X9_year; rw [in_0 (Or.inl b1), Option.bind_some, if_pos rfl])
  · by_cases b2 : (9999 : Int32) < x1
    · exact out (-2) (by unfold f_X8_year; rw [if_neg b1, if_pos b2]) (by unfold f_X9_year; rw [in_0 (Or.inr b2), Option.bind_some, if_pos rfl])
    · by_cases b3 : x2 < 1
      · exact out (-2) (by unfold f_X8_year; rw [if_neg b1, if_neg b2, if_pos b3]) (by unfold f_X9_year; rw [in_1 b1 b2, Option.bind_some, if_neg n10, in_0 (Or.inl b3), Option.bind_some, if_pos rfl])
      · by_cases b4 : (99 : Int32) < x2
        · exact out (-2) (by unfold f_X8_year; rw [if_neg b1, if_neg b2, if_neg b3, if_pos b4]) (by unfold f_X9_year; rw [in_1 b1 b2, Option.bind_some, if_neg n10, in_0 (Or.inr b4), Option.bind_some, if_pos rfl])
        · by_cases b5 : x3 < 0
          · exact out (-2) (by unfold f_X8_year; rw [if_neg b1, if_neg b2, if_neg b3, if_neg b4, if_pos b5]) (by unfold f_X9_year; rw [in_1 b1 b2, Option.bind_some, if_neg n10, in_1 b3 b4, Option.bind_some, if_neg n10, in_0 (Or.inl b5), Option.bind_some, if_pos rfl])
          · by_cases b6 : x3 ≤ 2
            · obtain ⟨X, hX', rfl⟩ := nI_of b1
              have hX : X ≤ 9999 := (nI_leI hX' (b := 9999) (by decide)).mp (Int32.not_lt.mp b2)
              obtain ⟨m, hm', rfl⟩ := nI_of (x := x2) (fun q => b3 (Int32.lt_of_lt_of_le q (by decide)))
              have hm : m ≤ 99 := (nI_leI hm' (b := 99) (by decide)).mp (Int32.not_lt.mp b4)
              obtain ⟨w, e1, e2, e3⟩ := asNow_Mx hM
              obtain ⟨d', g1, g2⟩ := begin_spec (d := K_drift S) hI hH
              obtain ⟨yr, d2, gn, y1, y2, y3, y4⟩ := cyear_spec hI g2 (U_set_talks (U_set_went (K_draws S) (0 : Int32)) (0 : Int32)) rfl rfl (X := X) (m := m) (by omega) (by omega)
              obtain ⟨w', r1, r2⟩ := ryear_spec hI e3 x3 (X := X) (m := m) (by omega) (by omega)
              have hIy := (yA_ok (s := (a, 0, 0, X)) hI (show X < 65537 by omega) rfl rfl m).1
              refine ⟨(if x3 = 0 then nI (yA (a, 0, 0, X) m).2.1 else if x3 = 1 then nI (yA (a, 0, 0, X) m).2.2.1 else nI (a_in (yA (a, 0, 0, X) m).1 0), d2, yr), (_, w'), ?_, ?_, rfl, h.to rfl (r2.trans e2)⟩
              · unfold f_X8_year f_X7_pass
                rw [if_neg b1, if_neg b2, if_neg b3, if_neg b4, if_neg b5, if_pos b6, g1, Option.bind_some, y1, Option.bind_some]
                show (if x3 = 0 then some (U_went yr, d2, yr) else if x3 = 1 then some (U_talks yr, d2, yr) else (f_X1_count (D_house d2) 0).bind fun q93 => some (q93, d2, yr)) = _
                have hc : f_X1_count (D_house d2) 0 = some (nI (a_in (yA (a, 0, 0, X) m).1 0)) := count_spec hIy y4.1 (r := 0) (by decide)
                rw [y2, y3, hc, Option.bind_some]
                by_cases c1 : x3 = 0
                · rw [if_pos c1, if_pos c1]
                · rw [if_neg c1, if_neg c1]
                  by_cases c2 : x3 = 1
                  · rw [if_pos c2, if_pos c2]
                  · rw [if_neg c2, if_neg c2]
              · unfold f_X9_year
                rw [in_1 b1 b2, Option.bind_some, if_neg n10, in_1 b3 b4, Option.bind_some, if_neg n10, in_1 b5 (Int32.not_lt.mpr b6), Option.bind_some, if_neg n10, e1, Option.bind_some]
                exact r1
            · exact out (-2) (by unfold f_X8_year; rw [if_neg b1, if_neg b2, if_neg b3, if_neg b4, if_neg b5, if_neg b6]) (by unfold f_X9_year; rw [in_1 b1 b2, Option.bind_some, if_neg n10, in_1 b3 b4, Option.bind_some, if_neg n10, in_0 (Or.inr (Int32.not_le.mp b6)), Option.bind_some, if_pos rfl])
