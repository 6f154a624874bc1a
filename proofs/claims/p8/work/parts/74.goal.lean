/-! where one goes: both sides -/
/-- what is open of a door, on the class' side -/
def wdv (b : AS) (lo : Nat → Nat → Bool) (r q : Nat) : Int32 := if lo r q then 1000 else nI (a_wd b r q) - nI (jam b r q)
def canA (b : AS) (gn : Nat → Nat → Nat) (lo : Nat → Nat → Bool) (g r : Nat) : Bool := (!(a_pl b g == r) && decide (1 ≤ a_wd b (a_pl b g) r)) && ((decide (gn (a_pl b g) r + jam b (a_pl b g) r < a_wd b (a_pl b g) r) || lo (a_pl b g) r) && decide (a_in b r < a_sz b r))
/-- the first of the best rooms to which one can go -/
def gA (D : Nat → Int32) (can : Nat → Bool) (own : Nat) : Nat → Nat × Int32
  | 0 => (own, D own)
  | r + 1 => if ¬ D r ≤ (gA D can own r).2 ∧ can r = true then (r, D r) else gA D can own r
theorem gA_0 (D : Nat → Int32) (can : Nat → Bool) (own : Nat) : gA D can own 0 = (own, D own) := rfl
theorem gA_s (D : Nat → Int32) (can : Nat → Bool) (own r : Nat) : gA D can own (r + 1) = if ¬ D r ≤ (gA D can own r).2 ∧ can r = true then (r, D r) else gA D can own r := rfl
/-- the class' drift stands for b -/
def Dx (d : DS) (b : AS) (gn : Nat → Nat → Nat) (lo : Nat → Nat → Bool) : Prop := Hc (D_house d) b ∧ (∀ r, r < 6 → D_crowd d r = nI (a_in b r)) ∧ (∀ g r, g < 8 → a_is b g = true → r < a_R b → D_taste d (g * 6 + r) = pt (lkf b g) b r 4) ∧ (∀ r q, r < 6 → q < 6 → D_wide d (r * 6 + q) = wdv b lo r q) ∧ ∀ r q, r < 6 → q < 6 → D_gone d (r * 6 + q) = nI (gn r q)
/-- the reference's present stands for b -/
def Mx (w : MS) (b : AS) (gn : Nat → Nat → Nat) (lo : Nat → Nat → Bool) : Prop := Mc (mnow w) b ∧ (∀ r q, r < 6 → q < 6 → M_through w (6 * r + q) = nI (gn r q)) ∧ ∀ r q, r < 6 → q < 6 → ((M_loose w = nI (6 * r + q) ∨ M_loose w = nI (6 * q + r)) ↔ lo r q = true)
/-- which doors may be off their hinges -/
def LoOk (b : AS) (lo : Nat → Nat → Bool) : Prop := ∀ r q, r < 6 → q < 6 → lo r q = true → 1 ≤ a_wd b r q
theorem wdv_lt {b : AS} (hI : Inv b) {gn : Nat → Nat → Nat} {lo : Nat → Nat → Bool} (hL : LoOk b lo) {r q : Nat} (hr : r < 6) (hq : q < 6) (hgn : gn r q < 1000) : (wdv b lo r q ≤ nI (gn r q)) = ¬ ((!(r == q) && decide (1 ≤ a_wd b r q)) && (decide (gn r q + jam b r q < a_wd b r q) || lo r q)) = true := by
  have h3 := (hI.2.2.1 r q hr hq).1
  have h0 : r = q → a_wd b r q = 0 := fun e => by subst e; exact hI.2.2.2.1 r hr
  have hj := jam_le (a := b) (r := r) (q := q)
  unfold wdv
  cases e : lo r q
  · simp only [Bool.false_eq_true, if_false, Bool.or_false, Bool.and_eq_true, decide_eq_true_eq, Bool.not_eq_true', beq_eq_false_iff_ne]
    rw [Int32.le_iff_toInt_le, pk_sub_toInt (by omega) (by omega), nI_toInt (by omega)]
    apply propext
    constructor
    · intro h c; omega
    · intro h
      by_cases c : gn r q + jam b r q < a_wd b r q
      · exact absurd ⟨⟨fun e => by have := h0 e; omega, by omega⟩, c⟩ h
      · omega
  · have := hL r q hr hq e
    simp only [if_true, Bool.or_true, Bool.and_true, Bool.and_eq_true, decide_eq_true_eq, Bool.not_eq_true', beq_eq_false_iff_ne]
    rw [show (1000 : Int32) = nI 1000 from rfl, p_le (by omega) (by omega)]
    apply propext
    constructor
    · intro h; omega
    · intro h; exact absurd ⟨fun e => by have := h0 e; omega, this⟩ h
theorem oth_in {b : AS} {g r : Nat} (hg : g < 8) (hi : a_is b g = true) : a_in b r = oth b g r + (if a_pl b g = r then 1 else 0) := by
  rw [a_in_cnt, cnt_but _ g 8 hg]
  unfold oth
  rw [hi]; simp
theorem target_spec {d : DS} {b : AS} {gn : Nat → Nat → Nat} {lo : Nat → Nat → Bool} (hI : Inv b) (hL : LoOk b lo) (hgn : ∀ r q, r < 6 → q < 6 → gn r q < 1000) (hD : Dx d b gn lo) {g : Nat} (hg : g < 8) (hi : a_is b g = true) : f_X0_target d (nI g) = some (nI (gA (dr (lkf b g) b g) (canA b gn lo g) (a_pl b g) (a_R b)).1) := by
  obtain ⟨N, hN, hFU⟩ := FU_ex
  obtain ⟨hH, hc, ht, hw, hn⟩ := hD
  have hp : H_place (D_house d) g = nI (a_pl b g) := (hH.2.2.2.2.2.1 g hg).1
  have hpl := (hI.2.2.2.2.2.1 g hg hi).1
  have hR6 := hI.1.2.1
  have hl4 : H_likes (D_house d) (g * 5 + 4) = lkf b g 4 := hH.2.2.2.2.2.2.1 g 4 hg (by decide)
  have e0 : D_taste d (g * 6 + a_pl b g) + lkf b g 4 * (D_crowd d (a_pl b g) - 1) = dr (lkf b g) b g (a_pl b g) := by
    rw [ht g _ hg hi hpl, hc _ (by omega), oth_in hg hi, if_pos rfl, show nI (oth b g (a_pl b g) + 1) - (1 : Int32) = nI (oth b g (a_pl b g) + 1 - 1) from pk_sub (b := 1) (by omega), Nat.add_sub_cancel]
    rfl
  unfold f_X0_target
  rw [show (4 : Int32) = nI 4 from rfl, ix5, chk_nI hg (by decide), chk_nI (by omega) (by decide), nI_clamp (by omega), nI_clamp (by omega), hp, ix6, chk_nI (by omega) (by decide), chk_nI (by omega) (by decide), nI_clamp (by omega), nI_clamp (by omega), hl4, e0, hFU]
  refine it_rule (bot := fun _ _ _ _ _ _ _ => none) (a_R b) (fun i (s : Nat × Int32) => s = gA (dr (lkf b g) b g) (canA b gn lo g) (a_pl b g) i) (fun k i s => k d (nI g) (nI (a_pl b g)) (lkf b g 4) (nI s.1) s.2 (nI i) = some (nI (gA (dr (lkf b g) b g) (canA b gn lo g) (a_pl b g) (a_R b)).1)) ?_ ?_ N 0 (a_pl b g, dr (lkf b g) b g (a_pl b g)) (by omega) (by omega) rfl
  · intro k s hs
    unfold X0_target_B54
    rw [hH.1, if_pos (Int32.le_refl _), hs]
  · intro k i s hi' hs hk
    have hs4 : H_measure (D_house d) (i * 6 + 4) = nI (a_sz b i) := (hH.2.2.2.1 i (by omega)).2.1
    have s9 := (hI.2.1 i (by omega)).2.2.1
    have c8 : a_in b i ≤ 8 := cnt_le _ 8
    have hk' := hk (gA (dr (lkf b g) b g) (canA b gn lo g) (a_pl b g) (i + 1)) rfl
    rw [gA_s, ← hs] at hk'
    have e1 : (wdv b lo (a_pl b g) i ≤ nI (gn (a_pl b g) i)) = _ := wdv_lt hI hL (by omega) (by omega) (hgn _ _ (by omega) (by omega))
    unfold X0_target_B54 X0_target_J156
    rw [hH.1, if_neg (nI_ge hi' (by omega)), ix6, chk_nI (by omega) (by decide), chk_nI (by omega) (by decide), nI_clamp (by omega), hw _ _ (by omega) (by omega), hn _ _ (by omega) (by omega), chk_nI (show i < 6 by omega) (by decide), show (4 : Int32) = nI 4 from rfl, ix6, chk_nI (by omega) (by decide), nI_clamp (by omega), nI_clamp (by omega), hs4, hc i (by omega), ix6, chk_nI (by omega) (by decide), chk_nI (show i < 6 by omega) (by decide), nI_clamp (by omega), ht g i hg hi (by omega), nI_1]
    by_cases q1 : wdv b lo (a_pl b g) i ≤ nI (gn (a_pl b g) i)
    · rw [if_pos q1]
      rw [e1] at q1
      rw [if_neg (by
        rintro ⟨-, h⟩
        unfold canA at h
        rw [← Bool.and_assoc, Bool.and_eq_true] at h
        exact q1 h.1)] at hk'
      exact hk'
    · rw [if_neg q1]
      rw [e1, Classical.not_not] at q1
      by_cases q2 : a_sz b i ≤ a_in b i
      · rw [if_pos (nI_le q2 (by omega))]
        rw [if_neg (by
          rintro ⟨-, h⟩
          unfold canA at h
          simp only [Bool.and_eq_true, decide_eq_true_eq] at h
          omega)] at hk'
        exact hk'
      · rw [if_neg (nI_ge (by omega) (by omega))]
        have hne : ¬ a_pl b g = i := by
          simp only [Bool.and_eq_true, Bool.not_eq_true', beq_eq_false_iff_ne] at q1
          exact q1.1.1
        have ed : pt (lkf b g) b i 4 + lkf b g 4 * nI (a_in b i) = dr (lkf b g) b g i := by
          rw [oth_in hg hi, if_neg hne]; rfl
        rw [ed]
        by_cases q3 : dr (lkf b g) b g i ≤ s.2
        · rw [if_pos q3]
          rw [if_neg (fun h => h.1 q3)] at hk'
          exact hk'
        · rw [if_neg q3]
          rw [if_pos ⟨q3, by
            unfold canA
            rw [← Bool.and_assoc, q1]
            simp; omega⟩] at hk'
          exact hk'
theorem loose_dec {b : AS} {w : MS} {gn : Nat → Nat → Nat} {lo : Nat → Nat → Bool} (hM : Mx w b gn lo) {r q : Nat} (hr : r < 6) (hq : q < 6) : (M_loose w = nI (6 * r + q) ∨ M_loose w = nI (6 * q + r)) ↔ lo r q = true := hM.2.2 r q hr hq
theorem cin_all {b : AS} {w : MS} (hI : Inv b) (hM : Mc (mnow w) b) {r : Nat} (hr : r < 6) : f_X9_countIn w (nI r) (-6) = some (nI (a_in b r)) := by
  rw [countIn_spec hI hM (by omega) (-6), a_in_cnt]
  rw [cnt_congr (q := fun g => a_is b g && a_pl b g == r) (fun j hj => by
    have e : decide (nI j = (-6 : Int32)) = false := decide_eq_false (fun q => by have := nI_pos (n := j) (by omega); rw [q] at this; exact this (by decide))
    rw [e]; simp)]
theorem canGo_spec {w : MS} {b : AS} {gn : Nat → Nat → Nat} {lo : Nat → Nat → Bool} (hI : Inv b) (hL : LoOk b lo) (hgn : ∀ r q, r < 6 → q < 6 → gn r q < 1000) (hM : Mx w b gn lo) {g r : Nat} (hg : g < 8) (hi : a_is b g = true) (hr : r < a_R b) : f_X9_canGo w (nI g) (nI r) = some (if canA b gn lo g r then 1 else 0) := by
  obtain ⟨N, hN, hFU⟩ := FU_ex
  have hT := hI.1.2.2.1
  have hR6 := hI.1.2.1
  have et : M_there w = nI (a_T b) := hM.1.2.1
  have hp : M_at w g = nI (a_pl b g) := (hM.1.2.2.2.2.2.1 g hg hi).1
  have hpl := (hI.2.2.2.2.2.1 g hg hi).1
  have hwd : M_width w (6 * a_pl b g + r) = nI (a_wd b (a_pl b g) r) := hM.1.2.2.2.2.1 _ _ (by omega) (by omega)
  have hsz : M_size w r = nI (a_sz b r) := (hM.1.2.2.2.1 r (by omega)).2.1
  have hth : M_through w (6 * a_pl b g + r) = nI (gn (a_pl b g) r) := hM.2.1 _ _ (by omega) (by omega)
  have w3 := (hI.2.2.1 (a_pl b g) r (by omega) (by omega)).1
  have w0 : a_pl b g = r → a_wd b (a_pl b g) r = 0 := fun e => by rw [← e]; exact hI.2.2.2.1 _ (by omega)
  have hj := jam_le (a := b) (r := a_pl b g) (q := r)
  have s9 := (hI.2.1 r (by omega)).2.2.1
  have c8 : a_in b r ≤ 8 := cnt_le _ 8
  have hg1 := hgn (a_pl b g) r (by omega) (by omega)
  have J : ∀ v : Bool, X9_canGo_J183 w (nI r) (if v then 1 else 0) = some (if v && decide (a_in b r < a_sz b r) then 1 else 0) := by
    intro v
    unfold X9_canGo_J183
    cases v
    · rfl
    · rw [if_neg (by decide), cin_all hI hM.1 (by omega), Option.bind_some, chk_nI (show r < 6 by omega) (by decide), nI_clamp (by omega), hsz]
      by_cases q : a_in b r < a_sz b r
      · rw [if_neg (nI_ge q (by omega))]; simp [q]
      · rw [if_pos (nI_le (by omega) (by omega))]; simp [q]
  unfold f_X9_canGo
  rw [chk_nI hg (by decide), nI_clamp (by omega), hp, ix6', chk_nI (by omega) (by decide), nI_clamp (by omega), hwd, hFU]
  refine it_rule (bot := fun _ _ _ _ _ _ => none) 8 (fun i (x : Int32) => x = nI (a_wd b (a_pl b g) r) - nI (cnt (stn b (a_pl b g) r) i)) (fun k i x => k w (nI r) (nI (a_pl b g)) (nI (6 * a_pl b g + r)) x (nI i) = some (if canA b gn lo g r then 1 else 0)) ?_ ?_ N 0 (nI (a_wd b (a_pl b g) r)) (by omega) (by omega) (by rw [cnt_0]; exact (Int32.sub_zero _).symm)
  · intro k x hx
    have hx : x = nI (a_wd b (a_pl b g) r) - nI (jam b (a_pl b g) r) := hx
    unfold X9_canGo_B27 X9_canGo_J182 X9_canGo_J178
    rw [if_pos (by decide), chk_nI (by omega) (by decide), chk_nI (by omega) (by decide), nI_clamp (by omega), hwd, hth, ix6']
    have J0 := J false
    have J1 := J true
    simp only [Bool.false_eq_true, if_false, if_true, Bool.false_and, Bool.true_and] at J0 J1
    unfold canA
    by_cases q1 : a_pl b g = r
    · rw [if_pos (by rw [q1]), J0]; simp [q1]
    · rw [if_neg (fun h => q1 ((nI_eq (by omega) (by omega)).mp h))]
      by_cases q2 : 1 ≤ a_wd b (a_pl b g) r
      · rw [if_neg (show ¬ nI (a_wd b (a_pl b g) r) ≤ 0 from nI_ge (a := 0) (by omega) (by omega))]
        by_cases q3 : gn (a_pl b g) r + jam b (a_pl b g) r < a_wd b (a_pl b g) r
        · rw [if_pos (by rw [hx, Int32.lt_iff_toInt_lt, pk_sub_toInt (by omega) (by omega), nI_toInt (by omega)]; omega), J1]
          simp [q1, q2, q3]
        · rw [if_neg (by rw [hx, Int32.lt_iff_toInt_lt, pk_sub_toInt (by omega) (by omega), nI_toInt (by omega)]; omega)]
          have hlo := loose_dec hM (r := a_pl b g) (q := r) (by omega) (by omega)
          by_cases q4 : M_loose w = nI (6 * a_pl b g + r)
          · rw [if_pos q4, J1, hlo.mp (Or.inl q4)]; simp [q1, q2]
          · rw [if_neg q4]
            by_cases q5 : M_loose w = nI (6 * r + a_pl b g)
            · rw [if_pos q5, J1, hlo.mp (Or.inr q5)]; simp [q1, q2]
            · rw [if_neg q5, J0]
              have : lo (a_pl b g) r = false := by
                cases e : lo (a_pl b g) r
                · rfl
                · rcases hlo.mpr e with h | h
                  · exact absurd h q4
                  · exact absurd h q5
              rw [this]; simp [q3]
      · rw [if_pos (show nI (a_wd b (a_pl b g) r) ≤ 0 from nI_le (b := 0) (by omega) (by decide)), J0]; simp [q2]
  · intro k i x hi' hx hk
    have key0 : stn b (a_pl b g) r i = false → k w (nI r) (nI (a_pl b g)) (nI (6 * a_pl b g + r)) (x - 0) (nI (i + 1)) = some (if canA b gn lo g r then 1 else 0) := by
      intro hs
      rw [Int32.sub_zero]
      refine hk _ ?_
      rw [hx, cnt_s, hs]; simp
    have key1 : stn b (a_pl b g) r i = true → k w (nI r) (nI (a_pl b g)) (nI (6 * a_pl b g + r)) (x - 1) (nI (i + 1)) = some (if canA b gn lo g r then 1 else 0) := by
      intro hs
      refine hk _ ?_
      rw [hx, cnt_s, hs, if_pos rfl, ← nI_add, ← Int32.sub_sub]; rfl
    have hbs := bs_lt hI hi'
    have hpi := pl_lt hI hi'
    unfold X9_canGo_B27 X9_canGo_J79 X9_canGo_J101 X9_canGo_J105 X9_canGo_J106 X9_canGo_J120
    rw [if_neg (show ¬ (8 : Int32) ≤ nI i from nlit (by decide) hi'), et, has_b hT hi', Option.bind_some, nI_1]
    cases e : (a_T b).testBit i
    · have e' : a_is b i = false := e
      have hb0 := (hI.2.2.2.2.1 i hi' e').2.1
      exact key0 (by unfold stn; rw [hb0]; rfl)
    · have e' : a_is b i = true := e
      obtain ⟨p1, p2, -, p4, -⟩ := hM.1.2.2.2.2.2.1 i hi' e'
      have p1 : M_at w i = nI (a_pl b i) := p1
      have p2 : M_busyNow w i = nI (a_bs b i) := p2
      have p4 : a_bs b i = 1 ∨ a_bs b i = 3 → M_withNow w i = Int32.ofInt (a_mt b i) := p4
      simp only [chk_nI hi' (show 8 < 2 ^ 31 by decide), nI_clamp (show i < 2 ^ 31 by omega), p1, p2]
      rw [if_neg (by decide)]
      by_cases q1 : a_bs b i = 3
      · rw [if_pos (show nI (a_bs b i) = (3 : Int32) by rw [q1]; rfl), p4 (Or.inr q1)]
        have e1 : (Int32.ofInt (a_mt b i) = nI r) ↔ a_mt b i = (r : Int) := mt_eq hI hi' (by omega)
        have e2 : (Int32.ofInt (a_mt b i) = nI (a_pl b g)) ↔ a_mt b i = (a_pl b g : Int) := mt_eq hI hi' (by omega)
        have f1 : (nI (a_pl b i) = nI (a_pl b g)) ↔ a_pl b i = a_pl b g := nI_eq (by omega) (by omega)
        have f2 : (nI (a_pl b i) = nI r) ↔ a_pl b i = r := nI_eq (by omega) (by omega)
        have n10 : ¬ (1 : Int32) = 0 := by decide
        have T : ¬ (a_pl b i = a_pl b g ∧ a_mt b i = (r : Int)) → ∀ A0 A1 : Option Int32, (stn b (a_pl b g) r i = false → A0 = some (if canA b gn lo g r then 1 else 0)) → (stn b (a_pl b g) r i = true → A1 = some (if canA b gn lo g r then 1 else 0)) → (if nI (a_pl b i) = nI r then (if Int32.ofInt (a_mt b i) = nI (a_pl b g) then A1 else A0) else A0) = some (if canA b gn lo g r then 1 else 0) := by
          intro hn A0 A1 k0 k1
          by_cases c3 : a_pl b i = r
          · rw [if_pos (f2.mpr c3)]
            by_cases c4 : a_mt b i = (a_pl b g : Int)
            · rw [if_pos (e2.mpr c4)]; exact k1 (by unfold stn; rw [q1, c3, c4]; simp)
            · rw [if_neg (fun h => c4 (e2.mp h))]
              refine k0 ?_
              unfold stn
              simp only [Bool.and_eq_false_iff, Bool.or_eq_false_iff, beq_eq_false_iff_ne]
              exact Or.inr ⟨Classical.or_iff_not_imp_left.mpr (fun h => fun h' => hn ⟨Classical.not_not.mp h, h'⟩), Or.inr c4⟩
          · rw [if_neg (fun h => c3 (f2.mp h))]
            refine k0 ?_
            unfold stn
            simp only [Bool.and_eq_false_iff, Bool.or_eq_false_iff, beq_eq_false_iff_ne]
            exact Or.inr ⟨Classical.or_iff_not_imp_left.mpr (fun h => fun h' => hn ⟨Classical.not_not.mp h, h'⟩), Or.inl c3⟩
        simp only [if_neg n10, if_true]
        by_cases c1 : a_pl b i = a_pl b g
        · rw [if_pos (f1.mpr c1)]
          by_cases c2 : a_mt b i = (r : Int)
          · rw [if_pos (e1.mpr c2)]; exact key1 (by unfold stn; rw [q1, c1, c2]; simp)
          · rw [if_neg (fun h => c2 (e1.mp h))]; exact T (fun h => c2 h.2) _ _ key0 key1
        · rw [if_neg (fun h => c1 (f1.mp h))]; exact T (fun h => c1 h.1) _ _ key0 key1
      · rw [if_neg (show ¬ nI (a_bs b i) = (3 : Int32) from fun h => q1 ((nI_eq (by omega) (b := 3) (by decide)).mp h))]
        exact key0 (by unfold stn; simp [q1])
/-- where the reference says that one goes, liking so -/
theorem goal_spec {w : MS} {b : AS} {gn : Nat → Nat → Nat} {lo : Nat → Nat → Bool} (hI : Inv b) (hL : LoOk b lo) (hgn : ∀ r q, r < 6 → q < 6 → gn r q < 1000) (hM : Mx w b gn lo) {g : Nat} (hg : g < 8) (hi : a_is b g = true) (x3 x4 : Int32) : f_X9_goal w (nI g) x3 x4 = some (nI (gA (dr (fun k => if x3 = nI k then x4 else lkf b g k) b g) (canA b gn lo g) (a_pl b g) (a_R b)).1) := by
  obtain ⟨N, hN, hFU⟩ := FU_ex
  have hR6 := hI.1.2.1
  have hp : M_at w g = nI (a_pl b g) := (hM.1.2.2.2.2.2.1 g hg hi).1
  have hpl := (hI.2.2.2.2.2.1 g hg hi).1
  have er : M_rooms w = nI (a_R b) := hM.1.1
  unfold f_X9_goal
  rw [chk_nI hg (by decide), nI_clamp (by omega), hp, drawOf_spec hI hM.1 hg hi (by omega), Option.bind_some, hFU]
  generalize hD : dr (fun k => if x3 = nI k then x4 else lkf b g k) b g = D
  refine it_rule (bot := fun _ _ _ _ _ _ _ => none) (a_R b) (fun i (s : Nat × Int32) => s = gA D (canA b gn lo g) (a_pl b g) i) (fun k i s => k w (nI g) x3 x4 (nI s.1) s.2 (nI i) = some (nI (gA D (canA b gn lo g) (a_pl b g) (a_R b)).1)) ?_ ?_ N 0 (a_pl b g, D (a_pl b g)) (by omega) (by omega) rfl
  · intro k s hs
    unfold X9_goal_B22
    rw [er, if_pos (Int32.le_refl _), hs]
  · intro k i s hi' hs hk
    have hk' := hk (gA D (canA b gn lo g) (a_pl b g) (i + 1)) rfl
    rw [gA_s, ← hs] at hk'
    unfold X9_goal_B22 X9_goal_J67
    rw [er, if_neg (nI_ge hi' (by omega)), drawOf_spec hI hM.1 hg hi (by omega), Option.bind_some, canGo_spec hI hL hgn hM hg hi hi', Option.bind_some, hD, nI_1]
    by_cases q1 : D i ≤ s.2
    · rw [if_pos q1]
      rw [if_neg (fun h => h.1 q1)] at hk'
      exact hk'
    · rw [if_neg q1]
      cases e : canA b gn lo g i
      · rw [if_pos (by decide)]
        rw [if_neg (fun h => by rw [e] at h; cases h.2)] at hk'
        exact hk'
      · rw [if_neg (by decide)]
        rw [if_pos ⟨q1, e⟩] at hk'
        exact hk'
theorem gA_congr {D D' : Nat → Int32} (h : ∀ r, D r = D' r) (can : Nat → Bool) (own R : Nat) : gA D can own R = gA D' can own R := by
  rw [show D = D' from funext h]
theorem goal_none {w : MS} {b : AS} {gn : Nat → Nat → Nat} {lo : Nat → Nat → Bool} (hI : Inv b) (hL : LoOk b lo) (hgn : ∀ r q, r < 6 → q < 6 → gn r q < 1000) (hM : Mx w b gn lo) {g : Nat} (hg : g < 8) (hi : a_is b g = true) : f_X9_goal w (nI g) (-6) 0 = some (nI (gA (dr (lkf b g) b g) (canA b gn lo g) (a_pl b g) (a_R b)).1) := by
  rw [goal_spec hI hL hgn hM hg hi, gA_congr (fun r => none_lk b g (r := r))]
/-- where one goes is a room, and the road is open -/
theorem gA_room {D : Nat → Int32} {can : Nat → Bool} {own : Nat} : ∀ R, (gA D can own R).1 = own ∨ ((gA D can own R).1 < R ∧ can (gA D can own R).1 = true)
  | 0 => Or.inl rfl
  | R + 1 => by
    rw [gA_s]
    by_cases h : ¬ D R ≤ (gA D can own R).2 ∧ can R = true
    · rw [if_pos h]; exact Or.inr ⟨Nat.lt_succ_self _, h.2⟩
    · rw [if_neg h]
      rcases gA_room (D := D) (can := can) (own := own) R with q | q
      · exact Or.inl q
      · exact Or.inr ⟨by omega, q.2⟩
