/-! what goes round -/
theorem lcmp_0 (x y : Int64) : (lg_cmp x y = 0) ↔ x = y := by
  unfold lg_cmp
  by_cases c : x > y
  · rw [if_pos c]
    refine ⟨fun h => absurd h (by decide), fun h => ?_⟩
    subst h; exact absurd c (Int64.lt_irrefl)
  · rw [if_neg c]
    by_cases d : x = y
    · rw [if_pos d]; exact ⟨fun _ => d, fun _ => rfl⟩
    · rw [if_neg d]; exact ⟨fun h => absurd h (by decide), fun h => absurd h d⟩
theorem d1_lt {b : AS} (hI : Inv b) {g : Nat} (hg : g < 8) : d1A b g < 32 := by
  have := pl_lt hI hg; have := bs_lt hI hg
  unfold d1A; split <;> omega
theorem d2_lt {b : AS} (hI : Inv b) {g : Nat} (hg : g < 8) : d2A b g < 80 := by
  unfold d2A
  by_cases c1 : a_is b g = true ∧ a_bs b g = 1
  · obtain ⟨j, j1, -, j3, -, -, -, -, -, j9⟩ := hI.2.2.2.2.2.2.2.1 g hg c1.2
    rw [if_pos c1, j3, Int.toNat_natCast]; omega
  · rw [if_neg c1]
    by_cases c3 : a_is b g = true ∧ a_bs b g = 3
    · obtain ⟨-, q, q1, -, q3, -⟩ := hI.2.2.2.2.2.2.2.2.1 g hg c3.2
      have := hI.1.2.1
      rw [if_pos c3, q3, Int.toNat_natCast]; omega
    · rw [if_neg c3]; decide
theorem n1_inj {b c : AS} (hb : Inv b) (hc : Inv c) : ∀ i, i ≤ 8 → n1A b i = n1A c i → ∀ g, g < i → d1A b g = d1A c g
  | 0, _, _, g, hg => absurd hg (Nat.not_lt_zero _)
  | i + 1, hi, h, g, hg => by
    have p1 := d1_lt hb (show i < 8 by omega)
    have p2 := d1_lt hc (show i < 8 by omega)
    have h : n1A b i * 32 + d1A b i = n1A c i * 32 + d1A c i := h
    by_cases q : g = i
    · subst q; omega
    · exact n1_inj hb hc i (by omega) (by omega) g (by omega)
theorem n2_inj {b c : AS} (hb : Inv b) (hc : Inv c) : ∀ i, i ≤ 8 → n2A b i = n2A c i → ∀ g, g < i → d2A b g = d2A c g
  | 0, _, _, g, hg => absurd hg (Nat.not_lt_zero _)
  | i + 1, hi, h, g, hg => by
    have p1 := d2_lt hb (show i < 8 by omega)
    have p2 := d2_lt hc (show i < 8 by omega)
    have h : n2A b i * 80 + d2A b i = n2A c i * 80 + d2A c i := h
    by_cases q : g = i
    · subst q; omega
    · exact n2_inj hb hc i (by omega) (by omega) g (by omega)
theorem n1_lt {b : AS} (hb : Inv b) : ∀ i, i ≤ 8 → n1A b i < 32 ^ i
  | 0, _ => Nat.zero_lt_one
  | i + 1, h => by
    have p1 := d1_lt hb (show i < 8 by omega)
    have := n1_lt hb i (by omega)
    show n1A b i * 32 + d1A b i < 32 ^ (i + 1)
    rw [Nat.pow_succ]; omega
theorem n2_lt {b : AS} (hb : Inv b) : ∀ i, i ≤ 8 → n2A b i < 80 ^ i
  | 0, _ => Nat.zero_lt_one
  | i + 1, h => by
    have p1 := d2_lt hb (show i < 8 by omega)
    have := n2_lt hb i (by omega)
    show n2A b i * 80 + d2A b i < 80 ^ (i + 1)
    rw [Nat.pow_succ]; omega
theorem n1_congr {b c : AS} : ∀ i, (∀ g, g < i → d1A b g = d1A c g) → n1A b i = n1A c i
  | 0, _ => rfl
  | i + 1, h => by
    show n1A b i * 32 + d1A b i = n1A c i * 32 + d1A c i
    rw [n1_congr i (fun g hg => h g (by omega)), h i (by omega)]
theorem n2_congr {b c : AS} : ∀ i, (∀ g, g < i → d2A b g = d2A c g) → n2A b i = n2A c i
  | 0, _ => rfl
  | i + 1, h => by
    show n2A b i * 80 + d2A b i = n2A c i * 80 + d2A c i
    rw [n2_congr i (fun g hg => h g (by omega)), h i (by omega)]
theorem ky_congr {b c : AS} : ∀ i, (∀ g, g < i → a_pl b g = a_pl c g ∧ a_lf b g = a_lf c g) → kyA b i = kyA c i
  | 0, _ => rfl
  | i + 1, h => by
    show 128 * kyA b i + 16 * a_pl b i + a_lf b i = 128 * kyA c i + 16 * a_pl c i + a_lf c i
    rw [ky_congr i (fun g hg => h g (by omega)), (h i (by omega)).1, (h i (by omega)).2]
theorem lf_pos {b : AS} (hI : Inv b) {g : Nat} (hg : g < 8) (h : a_bs b g = 1) : 1 ≤ a_lf b g := by
  obtain ⟨j, -, -, -, -, -, -, -, h8, -⟩ := hI.2.2.2.2.2.2.2.1 g hg h; exact h8
theorem lf_min {b : AS} (hI : Inv b) (lo : Nat → Nat → Bool) {g : Nat} (hg : g < 8) : a_lf (minA lo b) g = a_lf b g - 1 := by
  obtain ⟨-, -, -, -, -, -, -, -, k9, k10, k11⟩ := Kp_mv hI lo 8 (Nat.le_refl _)
  unfold minA
  rw [tk_lf, k9, k11]
  by_cases c : a_bs b g = 1
  · rw [if_pos ⟨hg, c⟩]
  · rw [if_neg (fun h => c h.2), lf_0 hI hg c (bs_lt hI hg)]
theorem bs_min {b : AS} (hI : Inv b) (lo : Nat → Nat → Bool) {g : Nat} (h : a_bs b g ≠ 1) : a_bs (minA lo b) g = a_bs b g ∧ a_mt (minA lo b) g = a_mt b g := by
  obtain ⟨-, -, -, -, -, -, -, -, k9, k10, k11⟩ := Kp_mv hI lo 8 (Nat.le_refl _)
  unfold minA
  rw [tk_bs, tk_mt, k9, k10, k11, if_neg (fun q => h q.2.1), if_neg (fun q => h q.2.1)]
  exact ⟨rfl, rfl⟩
theorem lf_minN {b : AS} (hI : Inv b) (lo : Nat → Nat → Bool) {g : Nat} (hg : g < 8) (s : Nat) : ∀ n, a_lf (minN lo b (s + n)) g = a_lf (minN lo b s) g - n
  | 0 => rfl
  | n + 1 => by
    show a_lf (minA lo (minN lo b (s + n))) g = _
    rw [lf_min (Inv_minN hI lo _) lo hg, lf_minN hI lo hg s n]; omega
theorem bs_minN {b : AS} (hI : Inv b) (lo : Nat → Nat → Bool) {g : Nat} {s : Nat} (h : a_bs (minN lo b s) g ≠ 1) : ∀ n, a_bs (minN lo b (s + n)) g = a_bs (minN lo b s) g ∧ a_mt (minN lo b (s + n)) g = a_mt (minN lo b s) g
  | 0 => ⟨rfl, rfl⟩
  | n + 1 => by
    obtain ⟨h1, h2⟩ := bs_minN hI lo h n
    obtain ⟨g1, g2⟩ := bs_min (Inv_minN hI lo (s + n)) lo (g := g) (by rw [h1]; exact h)
    exact ⟨g1.trans h1, g2.trans h2⟩
theorem note_iff {a : AS} (hI : Inv a) {s t : Nat} (hst : s < t) : kyA (minN lo0 a s) 8 = kyA (minN lo0 a t) 8 ↔ (n1A (minN lo0 a s) 8 = n1A (minN lo0 a t) 8 ∧ n2A (minN lo0 a s) 8 = n2A (minN lo0 a t) 8) := by
  have hs := Inv_minN hI lo0 s
  have ht := Inv_minN hI lo0 t
  have eT : a_T (minN lo0 a t) = a_T (minN lo0 a s) := (minN_keep hI lo0 t).2.1.trans (minN_keep hI lo0 s).2.1.symm
  have eis : ∀ g, a_is (minN lo0 a t) g = a_is (minN lo0 a s) g := fun g => by unfold a_is; rw [eT]
  constructor
  · intro h
    have h := ky_inj hs ht 8 (Nat.le_refl _) h
    obtain ⟨n, rfl⟩ : ∃ n, t = s + n := ⟨t - s, by omega⟩
    have key : ∀ g, g < 8 → d1A (minN lo0 a s) g = d1A (minN lo0 a (s + n)) g ∧ d2A (minN lo0 a s) g = d2A (minN lo0 a (s + n)) g := by
      intro g hg
      obtain ⟨e1, e2⟩ := h g hg
      have e3 := lf_minN hI lo0 hg s n
      have c : a_bs (minN lo0 a s) g ≠ 1 := fun c => by
        have := lf_pos hs hg c
        omega
      obtain ⟨e4, e5⟩ := bs_minN hI lo0 c n
      unfold d1A d2A
      rw [eis g, e1, e2, e4, e5]
      exact ⟨rfl, rfl⟩
    exact ⟨n1_congr 8 (fun g hg => (key g hg).1), n2_congr 8 (fun g hg => (key g hg).2)⟩
  · intro ⟨h1, h2⟩
    have h1 := n1_inj hs ht 8 (Nat.le_refl _) h1
    have h2 := n2_inj hs ht 8 (Nat.le_refl _) h2
    refine ky_congr 8 (fun g hg => ?_)
    have h1 := h1 g hg
    have h2 := h2 g hg
    unfold d1A at h1
    unfold d2A at h2
    rw [eis g] at h1 h2
    cases e : a_is (minN lo0 a s) g
    · have e' := (eis g).trans e
      obtain ⟨p1, p2, -⟩ := hs.2.2.2.2.1 g hg e
      obtain ⟨q1, q2, -⟩ := ht.2.2.2.2.1 g hg e'
      rw [p1, q1, lf_0 hs hg (by omega) (by omega), lf_0 ht hg (by omega) (by omega)]
      exact ⟨rfl, rfl⟩
    · rw [e, if_pos rfl, if_pos rfl] at h1
      have b1 := bs_lt hs hg
      have b2 := bs_lt ht hg
      have eb : a_bs (minN lo0 a s) g = a_bs (minN lo0 a t) g := by omega
      refine ⟨by omega, ?_⟩
      by_cases c : a_bs (minN lo0 a s) g = 1
      · obtain ⟨j, j1, -, j3, -, -, -, -, j8, j9⟩ := hs.2.2.2.2.2.2.2.1 g hg c
        obtain ⟨i, i1, -, i3, -, -, -, -, i8, i9⟩ := ht.2.2.2.2.2.2.2.1 g hg (eb ▸ c)
        rw [if_pos ⟨e, c⟩, if_pos ⟨e, eb ▸ c⟩, j3, i3, Int.toNat_natCast, Int.toNat_natCast] at h2
        omega
      · rw [lf_0 hs hg c b1, lf_0 ht hg (eb ▸ c) b2]
theorem fsA_nn (b : AS) : ∀ n i, n + i < 1000 → fsA b n i = -6 ∨ ¬ fsA b n i < 0
  | 0, _, _ => Or.inl rfl
  | n + 1, i, h => by
    rw [fsA_s]
    split
    · exact Or.inr (fun q => absurd (Int32.lt_of_lt_of_le q (nI_le (a := 0) (Nat.zero_le (i + 1)) (by omega))) Int32.lt_irrefl)
    · exact fsA_nn b n (i + 1) (by omega)
theorem sim_round : Sim_round Rel := by
  intro S z h
  obtain ⟨⟨a, hI, hH, hM⟩, h3⟩ := id h
  have hH : Hc (K_now S) a := hH
  have hM : Mc (mcore z) a := hM
  obtain ⟨d', e1⟩ := cstill_spec hI hH (K_drift S)
  obtain ⟨w, e2, e3⟩ := rstill_spec hI hM
  by_cases c : fsA a 99 0 = -6
  · have hMw : Mc (mcore w) a := by
      have : mcore w = mcore z := congrArg (fun m => m.1) e3
      rw [this]; exact hM
    obtain ⟨d0, b1, b2⟩ := begin_spec (d := d') hI hH
    obtain ⟨w0, b3, b4, b5⟩ := asNow_Mx hMw
    obtain ⟨w1, n1, n2, n3, n4⟩ := note_spec hI b5.1 (m := 0) (by decide)
    obtain ⟨N, hN, hFU⟩ := FU_ex
    have key : ∃ q w', it X8_round_B41 (fun _ _ _ _ => none) FU (K_now S) d0 (vp_updL (K_ends S) 0 (nL (kyA a 8))) (nI 1) = some q ∧ it X9_round_B21 (fun _ _ => none) FU w1 (nI 1) = some w' ∧ q.1 = w'.1 ∧ mkeep w'.2 = mkeep z := by
      rw [hFU]
      refine it_rule2 (bot := fun _ _ _ _ => none) (bot2 := fun _ _ => none) 99 (fun i (s : DS × (Nat → Int64) × MS) => (∃ gn, Dx s.1 (minN lo0 a i) gn lo0) ∧ mkeep s.2.2 = mkeep z ∧ Mx0 s.2.2 (minN lo0 a i) lo0 ∧ ∀ j, j ≤ i → s.2.1 j = nL (kyA (minN lo0 a j) 8) ∧ M_states s.2.2 (2 * j) = nL (n1A (minN lo0 a j) 8) ∧ M_states s.2.2 (2 * j + 1) = nL (n2A (minN lo0 a j) 8)) (fun k k' i s => ∃ (q : Int32 × DS × (Nat → Int64)) (w' : Int32 × MS), k (K_now S) s.1 s.2.1 (nI (i + 1)) = some q ∧ k' s.2.2 (nI (i + 1)) = some w' ∧ q.1 = w'.1 ∧ mkeep w'.2 = mkeep z) ?_ ?_ N 0 (d0, vp_updL (K_ends S) 0 (nL (kyA a 8)), w1) (by omega) (by omega) ⟨⟨_, b2⟩, n2.trans (b4.trans e3), b5.sc n2 n3, ?_⟩
      · intro k k' s ⟨_, p2, _, _⟩
        refine ⟨(-6, s.1, s.2.1), (-6, s.2.2), ?_, ?_, rfl, p2⟩
        · unfold X8_round_B41; rw [if_pos (by decide)]
        · unfold X9_round_B21; rw [if_pos (by decide)]
      · intro k k' i ⟨d, en, y⟩ hi ⟨⟨gn, p1⟩, p2, p3, p4⟩ hk
        have p1 : Dx d (minN lo0 a i) gn lo0 := p1
        have p2 : mkeep y = mkeep z := p2
        have p3 : Mx0 y (minN lo0 a i) lo0 := p3
        have p4 : ∀ j, j ≤ i → en j = nL (kyA (minN lo0 a j) 8) ∧ M_states y (2 * j) = nL (n1A (minN lo0 a j) 8) ∧ M_states y (2 * j + 1) = nL (n2A (minN lo0 a j) 8) := p4
        obtain ⟨d1, gn1, f1, f2⟩ := minute_spec (Inv_minN hI lo0 i) (Lo0 _) p1
        have f2 : Dx d1 (minN lo0 a (i + 1)) gn1 lo0 := f2
        obtain ⟨y1, gn2, g1, g2, g3⟩ := pass_spec (Inv_minN hI lo0 i) (Lo0 _) p3
        have g3 : Mx y1 (minN lo0 a (i + 1)) gn2 lo0 := g3
        have g4 : M_states y1 = M_states y := congrArg (fun m => m.2.2.1) (pass_rest g1)
        obtain ⟨y2, m1, m2, m3, m4⟩ := note_spec (Inv_minN hI lo0 (i + 1)) g3.1 (m := i + 1) (by omega)
        have hJ : Inv (minN lo0 a (i + 1)) := Inv_minN hI lo0 (i + 1)
        have hall : ∀ j, j ≤ i + 1 → vp_updL en (i + 1) (nL (kyA (minN lo0 a (i + 1)) 8)) j = nL (kyA (minN lo0 a j) 8) ∧ M_states y2 (2 * j) = nL (n1A (minN lo0 a j) 8) ∧ M_states y2 (2 * j + 1) = nL (n2A (minN lo0 a j) 8) := by
          intro j hj
          rw [m4, g4]
          unfold vp_updL
          by_cases q : j = i + 1
          · subst q
            refine ⟨by rw [if_pos rfl], ?_, by rw [if_pos rfl]⟩
            rw [if_neg (by omega), if_pos rfl]
          · obtain ⟨r1, r2, r3⟩ := p4 j (by omega)
            refine ⟨by rw [if_neg q]; exact r1, ?_, ?_⟩
            · rw [if_neg (by omega), if_neg (by omega)]; exact r2
            · rw [if_neg (by omega), if_neg (by omega)]; exact r3
        obtain ⟨en1, hen1⟩ : ∃ x, x = vp_updL en (i + 1) (nL (kyA (minN lo0 a (i + 1)) 8)) := ⟨_, rfl⟩
        rw [← hen1] at hall
        have hkk : ∃ q w', k (K_now S) d1 en1 (nI (i + 1 + 1)) = some q ∧ k' y2 (nI (i + 1 + 1)) = some w' ∧ q.1 = w'.1 ∧ mkeep w'.2 = mkeep z := hk (d1, en1, y2) ⟨⟨gn1, f2⟩, m2.trans (g2.trans p2), g3.to0.sc m2 m3, hall⟩
        show ∃ q w', X8_round_B41 k (K_now S) d en (nI (i + 1)) = some q ∧ X9_round_B21 k' y (nI (i + 1)) = some w' ∧ _
        unfold X8_round_B41 X9_round_B21
        rw [if_neg (show ¬ (99 : Int32) < nI (i + 1) from nI_nlt (a := 99) (by omega) (by omega)), if_neg (show ¬ (100 : Int32) ≤ nI (i + 1) from nlit (b := 100) (by decide) (by omega)), f1, g1, Option.bind_some, Option.bind_some]
        show ∃ q w', ((f_X1_key (D_house d1)).bind _ = _) ∧ ((f_X9_note y1 (nI (i + 1))).bind _ = _) ∧ _
        rw [ckey_spec hJ f2.1, m1, Option.bind_some, Option.bind_some, chk_nI (by omega) (by decide), ltA_eq, nI_clamp (by omega), ← hen1]
        show ∃ q w', (it (X8_round_B73 k) (fun _ _ _ _ _ => none) FU (K_now S) d1 en1 (nI (i + 1)) (nI 0) = some q) ∧ (it (X9_round_B39 k') (fun _ _ _ => none) FU y2 (nI (i + 1)) (nI 0) = some w') ∧ _
        rw [hFU]
        refine it_rule2 (bot := fun _ _ _ _ _ => none) (bot2 := fun _ _ _ => none) (i + 1) (fun _ (_ : Unit) => True) (fun kk kk' j _ => ∃ (q : Int32 × DS × (Nat → Int64)) (w' : Int32 × MS), kk (K_now S) d1 en1 (nI (i + 1)) (nI j) = some q ∧ kk' y2 (nI (i + 1)) (nI j) = some w' ∧ q.1 = w'.1 ∧ mkeep w'.2 = mkeep z) ?_ ?_ N 0 () (by omega) (by omega) trivial
        · intro kk kk' _ _
          unfold X8_round_B73 X9_round_B39
          rw [if_pos (Int32.le_refl _), if_pos (Int32.le_refl _), nI_1]
          exact hkk
        · intro kk kk' j _ hj _ hk2
          have hk2 := hk2 () trivial
          obtain ⟨r1, r2, r3⟩ := hall j (by omega)
          obtain ⟨t1, t2, t3⟩ := hall (i + 1) (Nat.le_refl _)
          have hj' := Inv_minN hI lo0 j
          have ky := note_iff hI hj
          have el : ∀ b : AS, Inv b → kyA b 8 < 2 ^ 63 ∧ n1A b 8 < 2 ^ 63 ∧ n2A b 8 < 2 ^ 63 := fun b hb => ⟨Nat.lt_of_lt_of_le (ky_lt hb 8 (Nat.le_refl _)) (by decide), Nat.lt_of_lt_of_le (n1_lt hb 8 (Nat.le_refl _)) (by decide), Nat.lt_of_lt_of_le (n2_lt hb 8 (Nat.le_refl _)) (by decide)⟩
          obtain ⟨u1, u2, u3⟩ := el _ hj'
          obtain ⟨v1, v2, v3⟩ := el _ hJ
          have eK : (lg_cmp (nL (kyA (minN lo0 a j) 8)) (nL (kyA (minN lo0 a (i + 1)) 8)) = 0) ↔ kyA (minN lo0 a j) 8 = kyA (minN lo0 a (i + 1)) 8 := (lcmp_0 _ _).trans ⟨nL_inj u1 v1, fun h => by rw [h]⟩
          have e1' : (lg_cmp (nL (n1A (minN lo0 a j) 8)) (nL (n1A (minN lo0 a (i + 1)) 8)) = 0) ↔ n1A (minN lo0 a j) 8 = n1A (minN lo0 a (i + 1)) 8 := (lcmp_0 _ _).trans ⟨nL_inj u2 v2, fun h => by rw [h]⟩
          have e2' : (lg_cmp (nL (n2A (minN lo0 a j) 8)) (nL (n2A (minN lo0 a (i + 1)) 8)) = 0) ↔ n2A (minN lo0 a j) 8 = n2A (minN lo0 a (i + 1)) 8 := (lcmp_0 _ _).trans ⟨nL_inj u3 v3, fun h => by rw [h]⟩
          unfold X8_round_B73 X9_round_B39 X9_round_J92
          rw [if_neg (nI_ge hj (by omega)), if_neg (nI_ge hj (by omega)), show (2 : Int32) * nI j = nI (2 * j) from pk_mul 2 j, show (2 : Int32) * nI (i + 1) = nI (2 * (i + 1)) from pk_mul 2 (i + 1), nI_1, nI_1, nI_1]
          simp only [chk_nI (show j < 100 by omega) (show 100 < 2 ^ 31 by decide), chk_nI (show i + 1 < 100 by omega) (show 100 < 2 ^ 31 by decide), chk_nI (show 2 * j < 200 by omega) (show 200 < 2 ^ 31 by decide), chk_nI (show 2 * (i + 1) < 200 by omega) (show 200 < 2 ^ 31 by decide), chk_nI (show 2 * j + 1 < 200 by omega) (show 200 < 2 ^ 31 by decide), chk_nI (show 2 * (i + 1) + 1 < 200 by omega) (show 200 < 2 ^ 31 by decide)]
          rw [nI_clamp (show j < 2 ^ 31 by omega), nI_clamp (show i + 1 < 2 ^ 31 by omega), nI_clamp (show 2 * j < 2 ^ 31 by omega), nI_clamp (show 2 * (i + 1) < 2 ^ 31 by omega), nI_clamp (show 2 * j + 1 < 2 ^ 31 by omega), nI_clamp (show 2 * (i + 1) + 1 < 2 ^ 31 by omega), r1, r2, r3, t1, t2, t3]
          by_cases q1 : n1A (minN lo0 a j) 8 = n1A (minN lo0 a (i + 1)) 8
          · rw [if_pos (e1'.mpr q1)]
            by_cases q2 : n2A (minN lo0 a j) 8 = n2A (minN lo0 a (i + 1)) 8
            · rw [if_pos (e2'.mpr q2), if_pos (eK.mpr (ky.mpr ⟨q1, q2⟩))]
              exact ⟨_, _, rfl, rfl, rfl, m2.trans (g2.trans p2)⟩
            · rw [if_neg (fun h => q2 (e2'.mp h)), if_neg (fun h => q2 (ky.mp (eK.mp h)).2)]
              exact hk2
          · rw [if_neg (fun h => q1 (e1'.mp h)), if_neg (fun h => q1 (ky.mp (eK.mp h)).1)]
            exact hk2
      · intro j hj
        obtain rfl : j = 0 := by omega
        refine ⟨rfl, ?_, ?_⟩
        · show M_states w1 0 = _
          rw [n4]; rfl
        · show M_states w1 1 = _
          rw [n4]; rfl
    obtain ⟨q, w', k1, k2, k3, k4⟩ := key
    refine ⟨q, w', ?_, ?_, k3, h.to rfl k4⟩
    · unfold f_X8_round
      rw [e1, Option.bind_some, if_pos c]
      show (f_X0_begin d' (K_now S)).bind _ = _
      rw [b1, Option.bind_some, ckey_spec hI b2.1, Option.bind_some, show (0 : Int32) = nI 0 from rfl, chk_nI (by decide) (by decide), ltA_eq]
      exact k1
    · unfold f_X9_round
      rw [e2, Option.bind_some, if_pos (show fsA a 99 0 < 0 by rw [c]; decide)]
      show (f_X9_asNow w).bind _ = _
      rw [b3, Option.bind_some, show (0 : Int32) = nI 0 from rfl, n1, Option.bind_some]
      exact k2
  · refine ⟨(-6, d', K_ends S), (-6, w), ?_, ?_, rfl, h.to rfl e3⟩
    · unfold f_X8_round
      rw [e1, Option.bind_some, if_neg c]
    · unfold f_X9_round
      rw [e2, Option.bind_some, if_neg (show ¬ fsA a 99 0 < 0 from (fsA_nn a 99 0 (by decide)).resolve_left c)]
