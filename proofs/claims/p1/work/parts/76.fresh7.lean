/-! p1: led, year -/
theorem lz_0 {k : Nat} (h1 : 1 ≤ k) (h2 : k < 2 ^ 31) : (0 : Int32) < nI k := nI_lt (a := 0) (by omega) h2
theorem bcz_0 : f_J6_bitCount_0f7a4 0 = some 0 := by decide +kernel
theorem rbz_0 : f_X9_bits 0 = some 0 := by decide +kernel
theorem leadsTo_0 (d : DS) {r k m : Nat} (hr : r < 3) (h1 : 1 ≤ k) (h8 : k ≤ 8) (hm : m < 100) : ∃ d', f_X8_leadsTo q0c d 0 (nI r) (nI k) (nI m) = some (0, d') := by
  obtain ⟨N, hN, hFU⟩ := FU_ex
  obtain ⟨h', e1, hh⟩ := copy_0 (D_house d)
  obtain ⟨d1, e2, h2⟩ := ready_0 (d := D_set_house d h') hh
  obtain ⟨d2, e3, h3⟩ := run_0 h2 m hm
  have es : f_X1_sizeOf q0c (nI r) = some 8 := by
    unfold f_X1_sizeOf
    have e6 : nI r * (6 : Int32) + 4 = nI (r * 6 + 4) := by rw [show (6 : Int32) = nI 6 from rfl, show (4 : Int32) = nI 4 from rfl, pk_mul, nI_add]
    rw [e6, chk_nI (by omega) (by decide), nI_clamp (by omega), (q0_Hc.2.2.2.1 r (by omega)).2.1]
    rfl
  refine ⟨d2, ?_⟩
  unfold f_X8_leadsTo
  rw [bitsIn_0 q0_Hz0, Option.bind_some, show f_J6_bitCount_0f7a4 ((0 : Int32) ||| 0) = some 0 from bcz_0, Option.bind_some, es, Option.bind_some, if_pos (by decide), e1, Option.bind_some, hFU]
  refine it_rule (bot := fun _ _ _ _ _ _ _ => none) 8 (fun _ (_ : Unit) => True) (fun kk i _ => kk q0c (D_set_house d h') 0 (nI r) (nI k) (nI m) (nI i) = some (0, d2)) ?_ ?_ N 0 () (by omega) (by omega) trivial
  · intro kk _ _
    unfold X8_leadsTo_B47
    rw [if_pos (by decide), e2, Option.bind_some, e3, Option.bind_some, count_0 h3.1, Option.bind_some, if_pos (lz_0 h1 (by omega))]
  · intro kk i _ hi _ hk
    unfold X8_leadsTo_B47 X8_leadsTo_J89
    rw [if_neg (show ¬ (8 : Int32) ≤ nI i from nlit (by decide) hi), isIn_0, Option.bind_some, if_pos rfl, nI_1]
    exact hk () trivial
set_option maxRecDepth 100000 in
theorem idle_c : f_X1_idle q0c = some 0 := by rw [q0_k]; decide +kernel
theorem led_b73_0 {k60 : HS → DS → Int32 → Int32 → Int32 → Int32 → Int32 → Int32 → Option (Int32 × DS)} {k73 : HS → DS → Int32 → Int32 → Int32 → Int32 → Int32 → Int32 → Int32 → Option (Int32 × DS)} {d d' : DS} {x1 x2 x3 x4 : Int32} (e : f_X8_leadsTo q0c d 0 x1 x2 x3 = some (0, d')) : X8_led_B73 k60 k73 q0c d x1 x2 x3 x4 0 0 0 = k73 q0c d' x1 x2 x3 x4 0 0 1 := by
  unfold X8_led_B73
  rw [if_neg (by decide), bcz_0, Option.bind_some, if_pos rfl, if_pos (by decide), e, Option.bind_some, if_pos rfl]
  rfl
theorem led_b73_1 {k60 : HS → DS → Int32 → Int32 → Int32 → Int32 → Int32 → Int32 → Option (Int32 × DS)} {k73 : HS → DS → Int32 → Int32 → Int32 → Int32 → Int32 → Int32 → Int32 → Option (Int32 × DS)} {d : DS} {x1 x2 x3 x4 : Int32} : X8_led_B73 k60 k73 q0c d x1 x2 x3 x4 0 0 1 = k60 q0c d x1 x2 x3 x4 0 1 := by
  unfold X8_led_B73
  rw [if_pos (by decide)]
  rfl
theorem cled_0 (d : DS) {r k m : Nat} (x : Int32) (hr : r < 3) (h1 : 1 ≤ k) (h8 : k ≤ 8) (hm : m < 100) : ∃ d', it X8_led_B60 (fun _ _ _ _ _ _ _ _ => none) FU q0c d (nI r) (nI k) (nI m) x 0 0 = some (-6, d') := by
  obtain ⟨N, hN, hFU⟩ := FU_ex
  obtain ⟨n, rfl⟩ : ∃ n, N = n + 1 + 1 := ⟨N - 2, by omega⟩
  obtain ⟨d', e⟩ := leadsTo_0 d hr h1 h8 hm
  refine ⟨d', ?_⟩
  rw [hFU, it_s]
  have s2 : it X8_led_B60 (fun _ _ _ _ _ _ _ _ => none) (n + 1) q0c d' (nI r) (nI k) (nI m) x 0 1 = some (-6, d') := by
    rw [it_s]
    unfold X8_led_B60
    rw [bcz_0, Option.bind_some, if_pos (by decide)]
  generalize it X8_led_B60 (fun _ _ _ _ _ _ _ _ => none) (n + 1) = kk at s2 ⊢
  unfold X8_led_B60
  rw [bcz_0, Option.bind_some, if_neg (by decide), hFU, it_s, led_b73_0 e]
  rw [it_s, led_b73_1]
  exact s2
theorem rled_in {kk : MS → Int32 → Int32 → Int32 → Int32 → Int32 → Int32 → Option (Int32 × MS)} {z : MS} (h : Fz0 z) {r k m : Nat} (x : Int32) (h1 : 1 ≤ k) (h8 : k ≤ 8) (hm : m < 100) : ∃ w, Fz0 w ∧ it (X9_led_B102 kk) (fun _ _ _ _ _ _ _ _ _ => none) FU z (nI r) (nI k) (nI m) x (-6) 0 1 0 = kk w (nI r) (nI k) (nI m) x (-6) 1 := by
  obtain ⟨N, hN, hFU⟩ := FU_ex
  rw [hFU]
  refine it_rule (bot := fun _ _ _ _ _ _ _ _ _ => none) 8 (fun _ (z : MS) => Fz0 z) (fun k' i z => ∃ w, Fz0 w ∧ k' z (nI r) (nI k) (nI m) x (-6) 0 1 (nI i) = kk w (nI r) (nI k) (nI m) x (-6) 1) ?_ ?_ N 0 z (by omega) (by omega) h
  · intro k' z hz
    obtain ⟨w, g, kw⟩ := goMin_0 hz hm
    refine ⟨w, hz.to kw, ?_⟩
    unfold X9_led_B102 X9_led_J203 X9_led_J229 X9_led_J234
    rw [if_pos (by decide), if_neg (by decide), if_pos rfl, if_neg (by decide), g, Option.bind_some, crowdIn_0 (hz.to kw), Option.bind_some, rbz_0, Option.bind_some, if_pos (lz_0 h1 (by omega))]
    unfold X9_led_J265 X9_led_J267
    rfl
  · intro k' i z hi hz hk
    obtain ⟨z1, ez1⟩ : ∃ y, y = M_set_at z (upd (M_at z) i (M_at z i)) := ⟨_, rfl⟩
    obtain ⟨a1, -⟩ := set_at ez1
    obtain ⟨z2, ez2⟩ : ∃ y, y = M_set_busyNow z1 (upd (M_busyNow z1) i (M_busyNow z1 i)) := ⟨_, rfl⟩
    obtain ⟨a2, -⟩ := set_busyNow ez2
    obtain ⟨w, hw, e⟩ := hk z2 ((hz.to a1).to a2)
    refine ⟨w, hw, ?_⟩
    unfold X9_led_B102
    rw [if_neg (show ¬ (8 : Int32) ≤ nI i from nlit (by decide) hi), if_neg (by decide), has_z hi, Option.bind_some, if_pos rfl]
    unfold X9_led_J134 X9_led_J139
    rw [has_z hi, Option.bind_some, if_pos rfl, chk_nI hi (by decide)]
    unfold X9_led_J168
    rw [chk_nI hi (by decide), nI_clamp (by omega), ltA_eq, ← ez1, has_z hi, Option.bind_some, if_pos rfl, chk_nI hi (by decide)]
    unfold X9_led_J196
    rw [chk_nI hi (by decide), nI_clamp (by omega), ltA_eq, ← ez2, nI_1]
    exact e
theorem rled_0 {z : MS} (h : Fz0 z) {r k m : Nat} (x : Int32) (h1 : 1 ≤ k) (h8 : k ≤ 8) (hm : m < 100) : ∃ w, it X9_led_B50 (fun _ _ _ _ _ _ _ => none) FU z (nI r) (nI k) (nI m) x (-6) 0 = some (-6, w) := by
  obtain ⟨N, hN, hFU⟩ := FU_ex
  rw [hFU]
  refine it_rule (bot := fun _ _ _ _ _ _ _ => none) 256 (fun _ (z : MS) => Fz0 z) (fun kk i z => ∃ w, kk z (nI r) (nI k) (nI m) x (-6) (nI i) = some (-6, w)) ?_ ?_ N 0 z (by omega) (by omega) h
  · intro kk z _
    refine ⟨z, ?_⟩
    unfold X9_led_B50 X9_led_J284
    rw [if_pos (by decide), if_pos (by decide)]
  · intro kk i z hi hz hk
    obtain ⟨y, g1, k1, -⟩ := asNow_spec z
    have hy := hz.to k1.1
    by_cases c : i = 0
    · subst c
      obtain ⟨w1, hw1, e1⟩ := rled_in (kk := kk) hy (r := r) x h1 h8 hm
      obtain ⟨w2, e2⟩ := hk w1 hw1
      refine ⟨w2, ?_⟩
      unfold X9_led_B50 X9_led_J88 X9_led_J93
      rw [if_neg (by decide), hz.th, if_pos (by decide), if_pos (by decide), g1, Option.bind_some]
      exact e1.trans e2
    · obtain ⟨w2, e2⟩ := hk y hy
      refine ⟨w2, ?_⟩
      unfold X9_led_B50 X9_led_J92 X9_led_J93
      rw [if_neg (show ¬ (256 : Int32) ≤ nI i from nlit (by decide) hi), hz.th, if_neg (fun q => c ((and_0 hi).mp q)), g1, Option.bind_some, hFU]
      obtain ⟨n, hn⟩ : ∃ n, N = n + 1 := ⟨N - 1, by omega⟩
      rw [hn, it_s]
      unfold X9_led_B102 X9_led_J203
      rw [if_neg (by decide), if_pos rfl, if_pos rfl]
      unfold X9_led_J233 X9_led_J234 X9_led_J267
      rw [if_pos rfl, nI_1]
      exact e2
theorem n10 : ¬ (1 : Int32) = 0 := by decide
theorem p1_led : SimN_led Rz0 Rz1 := by
  intro S z x1 x2 x3 x4 h_R; rw [h_R.1, h_R.2]
  show ∃ q w, f_X8_led q0c zD0 x1 x2 x3 x4 = some q ∧ f_X9_led w0c x1 x2 x3 x4 = some w ∧ q.1 = w.1 ∧ True
  unfold f_X8_led f_X9_led
  rcases rm_cases Iz3 q0_Hc w0_Mc x1 with ⟨r, hr, rfl, a1, a2⟩ | ⟨-, a1, a2⟩
  · simp only [a1, a2, Option.bind_some, if_neg n10]
    by_cases b1 : x2 < 1
    · exact ⟨(-2, zD0), (-2, w0c), by rw [if_pos b1], by rw [in_0 (Or.inl b1), Option.bind_some, if_pos rfl], rfl, trivial⟩
    · by_cases b2 : (8 : Int32) < x2
      · exact ⟨(-2, zD0), (-2, w0c), by rw [if_neg b1, if_pos b2], by rw [in_0 (Or.inr b2), Option.bind_some, if_pos rfl], rfl, trivial⟩
      · rw [if_neg b1, if_neg b2, in_1 b1 b2, Option.bind_some, if_neg n10]
        by_cases b3 : x3 < 0
        · exact ⟨(-2, zD0), (-2, w0c), by rw [if_pos b3], by rw [in_0 (Or.inl b3), Option.bind_some, if_pos rfl], rfl, trivial⟩
        · by_cases b4 : (20 : Int32) < x3
          · exact ⟨(-2, zD0), (-2, w0c), by rw [if_neg b3, if_pos b4], by rw [in_0 (Or.inr b4), Option.bind_some, if_pos rfl], rfl, trivial⟩
          · rw [if_neg b3, if_neg b4, in_1 b3 b4, Option.bind_some, if_neg n10]
            by_cases b5 : x4 < 0
            · exact ⟨(-2, zD0), (-2, w0c), by rw [if_pos b5], by rw [in_0 (Or.inl b5), Option.bind_some, if_pos rfl], rfl, trivial⟩
            · by_cases b6 : x4 ≤ 1
              · obtain ⟨k, hk', rfl⟩ := nI_of (x := x2) (fun q => b1 (Int32.lt_of_lt_of_le q (by decide)))
                obtain ⟨m, hm', rfl⟩ := nI_of b3
                have hk1 : 1 ≤ k := by
                  rcases Nat.lt_or_ge k 1 with q | q
                  · exact absurd (nI_lt q (by decide)) b1
                  · exact q
                have hk8 : k ≤ 8 := (nI_leI hk' (b := 8) (by decide)).mp (Int32.not_lt.mp b2)
                have hm20 : m ≤ 20 := (nI_leI hm' (b := 20) (by decide)).mp (Int32.not_lt.mp b4)
                obtain ⟨d1, e1⟩ := cled_0 zD0 x4 hr hk1 hk8 (m := m) (by omega)
                obtain ⟨w1, e2⟩ := rled_0 w0_Fz0 (r := r) x4 hk1 hk8 (m := m) (by omega)
                refine ⟨(-6, d1), (-6, w1), ?_, ?_, rfl, trivial⟩
                · rw [if_neg b5, if_pos b6, idle_c, Option.bind_some]; exact e1
                · rw [in_1 b5 (Int32.not_lt.mpr b6), Option.bind_some, if_neg n10]; exact e2
              · exact ⟨(-2, zD0), (-2, w0c), by rw [if_neg b5, if_neg b6], by rw [in_0 (Or.inr (Int32.not_le.mp b6)), Option.bind_some, if_pos rfl], rfl, trivial⟩
  · rw [a1, a2, Option.bind_some, Option.bind_some, if_pos rfl, if_pos rfl]
    exact ⟨(-1, zD0), (-1, w0c), rfl, rfl, rfl, trivial⟩
theorem cwhyT_0 {h : HS} (hh : Hz0 h) (x y : Int32) : f_X1_whyNotTalk h x y = some 1 := by
  unfold f_X1_whyNotTalk; rw [isTh_0 hh, Option.bind_some, if_pos rfl]
theorem rwhyT_0 {z : MS} (h : Fz0 z) (x y : Int32) : f_X9_whyNotTalk z x y = some 1 := by
  unfold f_X9_whyNotTalk X9_whyNotTalk_J16; rw [h.isTh, Option.bind_some, if_pos rfl]
theorem meet_0 {h : HS} (hh : Hz0 h) (yr : US) (x : Int32) : f_X7_meet yr h x = some (yr, h) := by
  unfold f_X7_meet
  split
  · rfl
  · rw [cwhyT_0 hh, Option.bind_some, if_neg n10]
def Uz0 (u : US) : Prop := U_went u = 0 ∧ U_talks u = 0
theorem cyear_0 {d : DS} (hd : Dz0 d) (yr : US) (hu : Uz0 yr) (x : Int32) {m : Nat} (hm : m < 100) : ∃ yr' d', it X7_pass_B16 (fun _ _ _ _ _ => none) FU yr d (nI m) x 0 = some (yr', d') ∧ Uz0 yr' ∧ Dz0 d' := by
  obtain ⟨N, hN, hFU⟩ := FU_ex
  rw [hFU]
  refine it_rule (bot := fun _ _ _ _ _ => none) m (fun _ (s : US × DS × Int32) => Uz0 s.1 ∧ Dz0 s.2.1) (fun k i s => ∃ yr' d', k s.1 s.2.1 (nI m) s.2.2 (nI i) = some (yr', d') ∧ Uz0 yr' ∧ Dz0 d') ?_ ?_ N 0 (yr, d, x) (by omega) (by omega) ⟨hu, hd⟩
  · rintro k ⟨yr, d, x⟩ ⟨hu, hd⟩
    exact ⟨yr, d, by unfold X7_pass_B16; rw [if_pos (Int32.le_refl _)], hu, hd⟩
  · rintro k i ⟨yr, d, x⟩ hi ⟨hu, hd⟩ hk
    have hd' : Dz0 (D_set_house d (D_house d)) := ⟨hd.1, hd.2⟩
    obtain ⟨d1, e1, h1⟩ := minute_0 hd'
    have hu' : Uz0 (U_set_went yr (U_went yr + 0)) := ⟨by show U_went yr + 0 = 0; rw [hu.1]; rfl, hu.2⟩
    obtain ⟨yr2, d2, e2, h2⟩ := hk (U_set_went yr (U_went yr + 0), d1, (((75 : Int32) * x) + (74 : Int32)) - (((75 : Int32) * x) + (74 : Int32)) / (65537 : Int32) * (65537 : Int32)) ⟨hu', h1⟩
    refine ⟨yr2, d2, ?_, h2⟩
    show X7_pass_B16 k yr d (nI m) x (nI i) = _
    unfold X7_pass_B16
    rw [if_neg (nI_ge hi (by omega)), meet_0 hd.1, Option.bind_some]
    show (f_X0_minute (D_set_house d (D_house d))).bind _ = _
    rw [e1, Option.bind_some, nI_1]
    exact e2
theorem ryear_0 {z : MS} (h : Fz0 z) (y x : Int32) {m : Nat} (hm : m < 100) : ∃ w, it X9_year_B49 (fun _ _ _ _ _ _ _ => none) FU z (nI m) y x 0 0 0 = some (0, w) := by
  obtain ⟨N, hN, hFU⟩ := FU_ex
  rw [hFU]
  refine it_rule (bot := fun _ _ _ _ _ _ _ => none) m (fun _ (s : MS × Int32) => Fz0 s.1) (fun k i s => ∃ w, k s.1 (nI m) y s.2 0 0 (nI i) = some (0, w)) ?_ ?_ N 0 (z, x) (by omega) (by omega) h
  · rintro k ⟨z, x⟩ hz
    refine ⟨z, ?_⟩
    show X9_year_B49 k z (nI m) y x 0 0 (nI m) = _
    unfold X9_year_B49
    rw [if_pos (Int32.le_refl _), countIn_0 hz, Option.bind_some, ite_self, ite_self]
  · rintro k i ⟨z, x⟩ hi hz hk
    obtain ⟨w1, e1, h1⟩ := pass_0 hz
    obtain ⟨w2, e2⟩ := hk (w1, (((75 : Int32) * x) + (74 : Int32)) - (((75 : Int32) * x) + (74 : Int32)) / (65537 : Int32) * (65537 : Int32)) (Fz0.to hz h1)
    refine ⟨w2, ?_⟩
    show X9_year_B49 k z (nI m) y x 0 0 (nI i) = _
    have e2 : k w1 (nI m) y ((((75 : Int32) * x) + (74 : Int32)) - (((75 : Int32) * x) + (74 : Int32)) / (65537 : Int32) * (65537 : Int32)) 0 0 (nI (i + 1)) = some (0, w2) := e2
    unfold X9_year_B49 X9_year_J123
    rw [if_neg (nI_ge hi (by omega)), rwhyT_0 hz, Option.bind_some, if_neg n10, ite_self, e1, Option.bind_some, nI_1]
    exact e2
theorem p1_year : SimN_year Rz0 Rz1 := by
  intro S z x1 x2 x3 h_R; rw [h_R.1, h_R.2]
  show ∃ q w, f_X8_year q0c zD0 zU0 x1 x2 x3 = some q ∧ f_X9_year w0c x1 x2 x3 = some w ∧ q.1 = w.1 ∧ True
  unfold f_X8_year f_X9_year
  by_cases b1 : x1 < 0
  · exact ⟨(-2, zD0, zU0), (-2, w0c), by rw [if_pos b1], by rw [in_0 (Or.inl b1), Option.bind_some, if_pos rfl], rfl, trivial⟩
  · by_cases b2 : (9999 : Int32) < x1
    · exact ⟨(-2, zD0, zU0), (-2, w0c), by rw [if_neg b1, if_pos b2], by rw [in_0 (Or.inr b2), Option.bind_some, if_pos rfl], rfl, trivial⟩
    · rw [if_neg b1, if_neg b2, in_1 b1 b2, Option.bind_some, if_neg n10]
      by_cases b3 : x2 < 1
      · exact ⟨(-2, zD0, zU0), (-2, w0c), by rw [if_pos b3], by rw [in_0 (Or.inl b3), Option.bind_some, if_pos rfl], rfl, trivial⟩
      · by_cases b4 : (99 : Int32) < x2
        · exact ⟨(-2, zD0, zU0), (-2, w0c), by rw [if_neg b3, if_pos b4], by rw [in_0 (Or.inr b4), Option.bind_some, if_pos rfl], rfl, trivial⟩
        · rw [if_neg b3, if_neg b4, in_1 b3 b4, Option.bind_some, if_neg n10]
          by_cases b5 : x3 < 0
          · exact ⟨(-2, zD0, zU0), (-2, w0c), by rw [if_pos b5], by rw [in_0 (Or.inl b5), Option.bind_some, if_pos rfl], rfl, trivial⟩
          · by_cases b6 : x3 ≤ 2
            · obtain ⟨m, hm', rfl⟩ := nI_of (x := x2) (fun q => b3 (Int32.lt_of_lt_of_le q (by decide)))
              have hm : m ≤ 99 := (nI_leI hm' (b := 99) (by decide)).mp (Int32.not_lt.mp b4)
              obtain ⟨d1, e1, h1⟩ := begin_0 zD0
              obtain ⟨yr, d2, e2, hu, h2⟩ := cyear_0 h1 (U_set_talks (U_set_went zU0 (0 : Int32)) (0 : Int32)) ⟨rfl, rfl⟩ x1 (m := m) (by omega)
              obtain ⟨w1, g1, k1, -⟩ := asNow_spec w0c
              obtain ⟨w2, g2⟩ := ryear_0 (w0_Fz0.to k1.1) x3 x1 (m := m) (by omega)
              refine ⟨(0, d2, yr), (0, w2), ?_, ?_, rfl, trivial⟩
              · rw [if_neg b5, if_pos b6, e1, Option.bind_some]
                unfold f_X7_pass
                rw [e2, Option.bind_some]
                show (if x3 = 0 then some (U_went yr, d2, yr) else if x3 = 1 then some (U_talks yr, d2, yr) else (f_X1_count (D_house d2) 0).bind fun q93 => some (q93, d2, yr)) = _
                rw [hu.1, hu.2, count_0 h2.1, Option.bind_some, ite_self, ite_self]
              · rw [in_1 b5 (Int32.not_lt.mpr b6), Option.bind_some, if_neg n10, g1, Option.bind_some]; exact g2
            · exact ⟨(-2, zD0, zU0), (-2, w0c), by rw [if_neg b5, if_neg b6], by rw [in_0 (Or.inr (Int32.not_le.mp b6)), Option.bind_some, if_pos rfl], rfl, trivial⟩
