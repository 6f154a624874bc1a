/-! 74.goal -/
section
/-! where one goes: both sides -/
/-- what is open of a door, on the class' side -/
def wdv (b : AS) (lo : Nat → Nat → Bool) (r q : Nat) : Int32 := if lo r q then 1000 else nI (a_wd b r q) - nI (jam b r q)
def canA (b : AS) (gn : Nat → Nat → Nat) (lo : Nat → Nat → Bool) (g r : Nat) : Bool := (!(a_pl b g == r) && decide (1 ≤ a_wd b (a_pl b g) r)) && ((decide (gn (a_pl b g) r + jam b (a_pl b g) r < a_wd b (a_pl b g) r) || lo (a_pl b g) r) && decide (a_in b r < a_sz b r))
/-- the first of the best rooms to which one can go -/
def gA (D : Nat → Int32) (can : Nat → Bool) (own : Nat) : Nat → Nat × Int32
  | 0 => (own, D own)
  | r + 1 => if ¬ D r ≤ (gA D can own r).2 ∧ can r = true then (r, D r) else gA D can own r
theorem gA_0 (D : Nat → Int32) (can : Nat → Bool) (own : Nat) : gA D can own 0 = (own, D own) := rfl
theorem gA_s (D : Nat → Int32) (can : Nat → Bool) (own r : Nat) : gA D can own (r + 1) = if ¬ D r ≤ (gA D can own r).2 ∧ can r = true then (r, D r) else gA D can own r := rfl
/-- the class' drift stands for b -/
def Dx (d : DS) (b : AS) (gn : Nat → Nat → Nat) (lo : Nat → Nat → Bool) : Prop := Hc (D_house d) b ∧ (∀ r, r < 6 → D_crowd d r = nI (a_in b r)) ∧ (∀ g r, g < 8 → a_is b g = true → r < a_R b → D_taste d (g * 6 + r) = pt (lkf b g) b r 4) ∧ (∀ r q, r < 6 → q < 6 → D_wide d (r * 6 + q) = wdv b lo r q) ∧ ∀ r q, r < 6 → q < 6 → D_gone d (r * 6 + q) = nI (gn r q)
/-- the reference's present stands for b -/
def Mx (w : MS) (b : AS) (gn : Nat → Nat → Nat) (lo : Nat → Nat → Bool) : Prop := Mc (mnow w) b ∧ (∀ r q, r < 6 → q < 6 → M_through w (6 * r + q) = nI (gn r q)) ∧ ∀ r q, r < 6 → q < 6 → ((M_loose w = nI (6 * r + q) ∨ M_loose w = nI (6 * q + r)) ↔ lo r q = true)
/-- which doors may be off their hinges -/
def LoOk (b : AS) (lo : Nat → Nat → Bool) : Prop := ∀ r q, r < 6 → q < 6 → lo r q = true → 1 ≤ a_wd b r q
theorem wdv_lt {b : AS} (hI : Inv b) {gn : Nat → Nat → Nat} {lo : Nat → Nat → Bool} (hL : LoOk b lo) {r q : Nat} (hr : r < 6) (hq : q < 6) (hgn : gn r q < 1000) : (wdv b lo r q ≤ nI (gn r q)) = ¬ ((!(r == q) && decide (1 ≤ a_wd b r q)) && (decide (gn r q + jam b r q < a_wd b r q) || lo r q)) = true := by
  have h3 := (hI.2.2.1 r q hr hq).1
  have h0 : r = q → a_wd b r q = 0 := fun e => by subst e; exact hI.2.2.2.1 r hr
  have hj := jam_le (a := b) (r := r) (q := q)
  unfold wdv
  cases e : lo r q
  · simp only [Bool.false_eq_true, if_false, Bool.or_false, Bool.and_eq_true, decide_eq_true_eq, Bool.not_eq_true', beq_eq_false_iff_ne]
    rw [Int32.le_iff_toInt_le, pk_sub_toInt (by omega) (by omega), nI_toInt (by omega)]
    apply propext
    constructor
    · intro h c; omega
    · intro h
      by_cases c : gn r q + jam b r q < a_wd b r q
      · exact absurd ⟨⟨fun e => by have := h0 e; omega, by omega⟩, c⟩ h
      · omega
  · have := hL r q hr hq e
    simp only [if_true, Bool.or_true, Bool.and_true, Bool.and_eq_true, decide_eq_true_eq, Bool.not_eq_true', beq_eq_false_iff_ne]
    rw [show (1000 : Int32) = nI 1000 from rfl, p_le (by omega) (by omega)]
    apply propext
    constructor
    · intro h; omega
    · intro h; exact absurd ⟨fun e => by have := h0 e; omega, this⟩ h
theorem oth_in {b : AS} {g r : Nat} (hg : g < 8) (hi : a_is b g = true) : a_in b r = oth b g r + (if a_pl b g = r then 1 else 0) := by
  rw [a_in_cnt, cnt_but _ g 8 hg]
  unfold oth
  rw [hi]; simp
theorem target_spec {d : DS} {b : AS} {gn : Nat → Nat → Nat} {lo : Nat → Nat → Bool} (hI : Inv b) (hL : LoOk b lo) (hgn : ∀ r q, r < 6 → q < 6 → gn r q < 1000) (hD : Dx d b gn lo) {g : Nat} (hg : g < 8) (hi : a_is b g = true) : f_X0_target d (nI g) = some (nI (gA (dr (lkf b g) b g) (canA b gn lo g) (a_pl b g) (a_R b)).1) := by
  obtain ⟨N, hN, hFU⟩ := FU_ex
  obtain ⟨hH, hc, ht, hw, hn⟩ := hD
  have hp : H_place (D_house d) g = nI (a_pl b g) := (hH.2.2.2.2.2.1 g hg).1
  have hpl := (hI.2.2.2.2.2.1 g hg hi).1
  have hR6 := hI.1.2.1
  have hl4 : H_likes (D_house d) (g * 5 + 4) = lkf b g 4 := hH.2.2.2.2.2.2.1 g 4 hg (by decide)
  have e0 : D_taste d (g * 6 + a_pl b g) + lkf b g 4 * (D_crowd d (a_pl b g) - 1) = dr (lkf b g) b g (a_pl b g) := by
    rw [ht g _ hg hi hpl, hc _ (by omega), oth_in hg hi, if_pos rfl, show nI (oth b g (a_pl b g) + 1) - (1 : Int32) = nI (oth b g (a_pl b g) + 1 - 1) from pk_sub (b := 1) (by omega), Nat.add_sub_cancel]
    rfl
  unfold f_X0_target
  rw [show (4 : Int32) = nI 4 from rfl, ix5, chk_nI hg (by decide), chk_nI (by omega) (by decide), nI_clamp (by omega), nI_clamp (by omega), hp, ix6, chk_nI (by omega) (by decide), chk_nI (by omega) (by decide), nI_clamp (by omega), nI_clamp (by omega), hl4, e0, hFU]
  refine it_rule (bot := fun _ _ _ _ _ _ _ => none) (a_R b) (fun i (s : Nat × Int32) => s = gA (dr (lkf b g) b g) (canA b gn lo g) (a_pl b g) i) (fun k i s => k d (nI g) (nI (a_pl b g)) (lkf b g 4) (nI s.1) s.2 (nI i) = some (nI (gA (dr (lkf b g) b g) (canA b gn lo g) (a_pl b g) (a_R b)).1)) ?_ ?_ N 0 (a_pl b g, dr (lkf b g) b g (a_pl b g)) (by omega) (by omega) rfl
  · intro k s hs
    unfold X0_target_B54
    rw [hH.1, if_pos (Int32.le_refl _), hs]
  · intro k i s hi' hs hk
    have hs4 : H_measure (D_house d) (i * 6 + 4) = nI (a_sz b i) := (hH.2.2.2.1 i (by omega)).2.1
    have s9 := (hI.2.1 i (by omega)).2.2.1
    have c8 : a_in b i ≤ 8 := cnt_le _ 8
    have hk' := hk (gA (dr (lkf b g) b g) (canA b gn lo g) (a_pl b g) (i + 1)) rfl
    rw [gA_s, ← hs] at hk'
    have e1 : (wdv b lo (a_pl b g) i ≤ nI (gn (a_pl b g) i)) = _ := wdv_lt hI hL (by omega) (by omega) (hgn _ _ (by omega) (by omega))
    unfold X0_target_B54 X0_target_J156
    rw [hH.1, if_neg (nI_ge hi' (by omega)), ix6, chk_nI (by omega) (by decide), chk_nI (by omega) (by decide), nI_clamp (by omega), hw _ _ (by omega) (by omega), hn _ _ (by omega) (by omega), chk_nI (show i < 6 by omega) (by decide), show (4 : Int32) = nI 4 from rfl, ix6, chk_nI (by omega) (by decide), nI_clamp (by omega), nI_clamp (by omega), hs4, hc i (by omega), ix6, chk_nI (by omega) (by decide), chk_nI (show i < 6 by omega) (by decide), nI_clamp (by omega), ht g i hg hi (by omega), nI_1]
    by_cases q1 : wdv b lo (a_pl b g) i ≤ nI (gn (a_pl b g) i)
    · rw [if_pos q1]
      rw [e1] at q1
      rw [if_neg (by
        rintro ⟨-, h⟩
        unfold canA at h
        rw [← Bool.and_assoc, Bool.and_eq_true] at h
        exact q1 h.1)] at hk'
      exact hk'
    · rw [if_neg q1]
      rw [e1, Classical.not_not] at q1
      by_cases q2 : a_sz b i ≤ a_in b i
      · rw [if_pos (nI_le q2 (by omega))]
        rw [if_neg (by
          rintro ⟨-, h⟩
          unfold canA at h
          simp only [Bool.and_eq_true, decide_eq_true_eq] at h
          omega)] at hk'
        exact hk'
      · rw [if_neg (nI_ge (by omega) (by omega))]
        have hne : ¬ a_pl b g = i := by
          simp only [Bool.and_eq_true, Bool.not_eq_true', beq_eq_false_iff_ne] at q1
          exact q1.1.1
        have ed : pt (lkf b g) b i 4 + lkf b g 4 * nI (a_in b i) = dr (lkf b g) b g i := by
          rw [oth_in hg hi, if_neg hne]; rfl
        rw [ed]
        by_cases q3 : dr (lkf b g) b g i ≤ s.2
        · rw [if_pos q3]
          rw [if_neg (fun h => h.1 q3)] at hk'
          exact hk'
        · rw [if_neg q3]
          rw [if_pos ⟨q3, by
            unfold canA
            rw [← Bool.and_assoc, q1]
            simp; omega⟩] at hk'
          exact hk'
theorem loose_dec {b : AS} {w : MS} {gn : Nat → Nat → Nat} {lo : Nat → Nat → Bool} (hM : Mx w b gn lo) {r q : Nat} (hr : r < 6) (hq : q < 6) : (M_loose w = nI (6 * r + q) ∨ M_loose w = nI (6 * q + r)) ↔ lo r q = true := hM.2.2 r q hr hq
theorem cin_all {b : AS} {w : MS} (hI : Inv b) (hM : Mc (mnow w) b) {r : Nat} (hr : r < 6) : f_X9_countIn w (nI r) (-6) = some (nI (a_in b r)) := by
  rw [countIn_spec hI hM (by omega) (-6), a_in_cnt]
  rw [cnt_congr (q := fun g => a_is b g && a_pl b g == r) (fun j hj => by
    have e : decide (nI j = (-6 : Int32)) = false := decide_eq_false (fun q => by have := nI_pos (n := j) (by omega); rw [q] at this; exact this (by decide))
    rw [e]; simp)]
theorem canGo_spec {w : MS} {b : AS} {gn : Nat → Nat → Nat} {lo : Nat → Nat → Bool} (hI : Inv b) (hL : LoOk b lo) (hgn : ∀ r q, r < 6 → q < 6 → gn r q < 1000) (hM : Mx w b gn lo) {g r : Nat} (hg : g < 8) (hi : a_is b g = true) (hr : r < a_R b) : f_X9_canGo w (nI g) (nI r) = some (if canA b gn lo g r then 1 else 0) := by
  obtain ⟨N, hN, hFU⟩ := FU_ex
  have hT := hI.1.2.2.1
  have hR6 := hI.1.2.1
  have et : M_there w = nI (a_T b) := hM.1.2.1
  have hp : M_at w g = nI (a_pl b g) := (hM.1.2.2.2.2.2.1 g hg hi).1
  have hpl := (hI.2.2.2.2.2.1 g hg hi).1
  have hwd : M_width w (6 * a_pl b g + r) = nI (a_wd b (a_pl b g) r) := hM.1.2.2.2.2.1 _ _ (by omega) (by omega)
  have hsz : M_size w r = nI (a_sz b r) := (hM.1.2.2.2.1 r (by omega)).2.1
  have hth : M_through w (6 * a_pl b g + r) = nI (gn (a_pl b g) r) := hM.2.1 _ _ (by omega) (by omega)
  have w3 := (hI.2.2.1 (a_pl b g) r (by omega) (by omega)).1
  have w0 : a_pl b g = r → a_wd b (a_pl b g) r = 0 := fun e => by rw [← e]; exact hI.2.2.2.1 _ (by omega)
  have hj := jam_le (a := b) (r := a_pl b g) (q := r)
  have s9 := (hI.2.1 r (by omega)).2.2.1
  have c8 : a_in b r ≤ 8 := cnt_le _ 8
  have hg1 := hgn (a_pl b g) r (by omega) (by omega)
  have J : ∀ v : Bool, X9_canGo_J183 w (nI r) (if v then 1 else 0) = some (if v && decide (a_in b r < a_sz b r) then 1 else 0) := by
    intro v
    unfold X9_canGo_J183
    cases v
    · rfl
    · rw [if_neg (by decide), cin_all hI hM.1 (by omega), Option.bind_some, chk_nI (show r < 6 by omega) (by decide), nI_clamp (by omega), hsz]
      by_cases q : a_in b r < a_sz b r
      · rw [if_neg (nI_ge q (by omega))]; simp [q]
      · rw [if_pos (nI_le (by omega) (by omega))]; simp [q]
  unfold f_X9_canGo
  rw [chk_nI hg (by decide), nI_clamp (by omega), hp, ix6', chk_nI (by omega) (by decide), nI_clamp (by omega), hwd, hFU]
  refine it_rule (bot := fun _ _ _ _ _ _ => none) 8 (fun i (x : Int32) => x = nI (a_wd b (a_pl b g) r) - nI (cnt (stn b (a_pl b g) r) i)) (fun k i x => k w (nI r) (nI (a_pl b g)) (nI (6 * a_pl b g + r)) x (nI i) = some (if canA b gn lo g r then 1 else 0)) ?_ ?_ N 0 (nI (a_wd b (a_pl b g) r)) (by omega) (by omega) (by rw [cnt_0]; exact (Int32.sub_zero _).symm)
  · intro k x hx
    have hx : x = nI (a_wd b (a_pl b g) r) - nI (jam b (a_pl b g) r) := hx
    unfold X9_canGo_B27 X9_canGo_J182 X9_canGo_J178
    rw [if_pos (by decide), chk_nI (by omega) (by decide), chk_nI (by omega) (by decide), nI_clamp (by omega), hwd, hth, ix6']
    have J0 := J false
    have J1 := J true
    simp only [Bool.false_eq_true, if_false, if_true, Bool.false_and, Bool.true_and] at J0 J1
    unfold canA
    by_cases q1 : a_pl b g = r
    · rw [if_pos (by rw [q1]), J0]; simp [q1]
    · rw [if_neg (fun h => q1 ((nI_eq (by omega) (by omega)).mp h))]
      by_cases q2 : 1 ≤ a_wd b (a_pl b g) r
      · rw [if_neg (show ¬ nI (a_wd b (a_pl b g) r) ≤ 0 from nI_ge (a := 0) (by omega) (by omega))]
        by_cases q3 : gn (a_pl b g) r + jam b (a_pl b g) r < a_wd b (a_pl b g) r
        · rw [if_pos (by rw [hx, Int32.lt_iff_toInt_lt, pk_sub_toInt (by omega) (by omega), nI_toInt (by omega)]; omega), J1]
          simp [q1, q2, q3]
        · rw [if_neg (by rw [hx, Int32.lt_iff_toInt_lt, pk_sub_toInt (by omega) (by omega), nI_toInt (by omega)]; omega)]
          have hlo := loose_dec hM (r := a_pl b g) (q := r) (by omega) (by omega)
          by_cases q4 : M_loose w = nI (6 * a_pl b g + r)
          · rw [if_pos q4, J1, hlo.mp (Or.inl q4)]; simp [q1, q2]
          · rw [if_neg q4]
            by_cases q5 : M_loose w = nI (6 * r + a_pl b g)
            · rw [if_pos q5, J1, hlo.mp (Or.inr q5)]; simp [q1, q2]
            · rw [if_neg q5, J0]
              have : lo (a_pl b g) r = false := by
                cases e : lo (a_pl b g) r
                · rfl
                · rcases hlo.mpr e with h | h
                  · exact absurd h q4
                  · exact absurd h q5
              rw [this]; simp [q3]
      · rw [if_pos (show nI (a_wd b (a_pl b g) r) ≤ 0 from nI_le (b := 0) (by omega) (by decide)), J0]; simp [q2]
  · intro k i x hi' hx hk
    have key0 : stn b (a_pl b g) r i = false → k w (nI r) (nI (a_pl b g)) (nI (6 * a_pl b g + r)) (x - 0) (nI (i + 1)) = some (if canA b gn lo g r then 1 else 0) := by
      intro hs
      rw [Int32.sub_zero]
      refine hk _ ?_
      rw [hx, cnt_s, hs]; simp
    have key1 : stn b (a_pl b g) r i = true → k w (nI r) (nI (a_pl b g)) (nI (6 * a_pl b g + r)) (x - 1) (nI (i + 1)) = some (if canA b gn lo g r then 1 else 0) := by
      intro hs
      refine hk _ ?_
      rw [hx, cnt_s, hs, if_pos rfl, ← nI_add, ← Int32.sub_sub]; rfl
    have hbs := bs_lt hI hi'
    have hpi := pl_lt hI hi'
    unfold X9_canGo_B27 X9_canGo_J79 X9_canGo_J101 X9_canGo_J105 X9_canGo_J106 X9_canGo_J120
    rw [if_neg (show ¬ (8 : Int32) ≤ nI i from nlit (by decide) hi'), et, has_b hT hi', Option.bind_some, nI_1]
    cases e : (a_T b).testBit i
    · have e' : a_is b i = false := e
      have hb0 := (hI.2.2.2.2.1 i hi' e').2.1
      exact key0 (by unfold stn; rw [hb0]; rfl)
    · have e' : a_is b i = true := e
      obtain ⟨p1, p2, -, p4, -⟩ := hM.1.2.2.2.2.2.1 i hi' e'
      have p1 : M_at w i = nI (a_pl b i) := p1
      have p2 : M_busyNow w i = nI (a_bs b i) := p2
      have p4 : a_bs b i = 1 ∨ a_bs b i = 3 → M_withNow w i = Int32.ofInt (a_mt b i) := p4
      simp only [chk_nI hi' (show 8 < 2 ^ 31 by decide), nI_clamp (show i < 2 ^ 31 by omega), p1, p2]
      rw [if_neg (by decide)]
      by_cases q1 : a_bs b i = 3
      · rw [if_pos (show nI (a_bs b i) = (3 : Int32) by rw [q1]; rfl), p4 (Or.inr q1)]
        have e1 : (Int32.ofInt (a_mt b i) = nI r) ↔ a_mt b i = (r : Int) := mt_eq hI hi' (by omega)
        have e2 : (Int32.ofInt (a_mt b i) = nI (a_pl b g)) ↔ a_mt b i = (a_pl b g : Int) := mt_eq hI hi' (by omega)
        have f1 : (nI (a_pl b i) = nI (a_pl b g)) ↔ a_pl b i = a_pl b g := nI_eq (by omega) (by omega)
        have f2 : (nI (a_pl b i) = nI r) ↔ a_pl b i = r := nI_eq (by omega) (by omega)
        have n10 : ¬ (1 : Int32) = 0 := by decide
        have T : ¬ (a_pl b i = a_pl b g ∧ a_mt b i = (r : Int)) → ∀ A0 A1 : Option Int32, (stn b (a_pl b g) r i = false → A0 = some (if canA b gn lo g r then 1 else 0)) → (stn b (a_pl b g) r i = true → A1 = some (if canA b gn lo g r then 1 else 0)) → (if nI (a_pl b i) = nI r then (if Int32.ofInt (a_mt b i) = nI (a_pl b g) then A1 else A0) else A0) = some (if canA b gn lo g r then 1 else 0) := by
          intro hn A0 A1 k0 k1
          by_cases c3 : a_pl b i = r
          · rw [if_pos (f2.mpr c3)]
            by_cases c4 : a_mt b i = (a_pl b g : Int)
            · rw [if_pos (e2.mpr c4)]; exact k1 (by unfold stn; rw [q1, c3, c4]; simp)
            · rw [if_neg (fun h => c4 (e2.mp h))]
              refine k0 ?_
              unfold stn
              simp only [Bool.and_eq_false_iff, Bool.or_eq_false_iff, beq_eq_false_iff_ne]
              exact Or.inr ⟨Classical.or_iff_not_imp_left.mpr (fun h => fun h' => hn ⟨Classical.not_not.mp h, h'⟩), Or.inr c4⟩
          · rw [if_neg (fun h => c3 (f2.mp h))]
            refine k0 ?_
            unfold stn
            simp only [Bool.and_eq_false_iff, Bool.or_eq_false_iff, beq_eq_false_iff_ne]
            exact Or.inr ⟨Classical.or_iff_not_imp_left.mpr (fun h => fun h' => hn ⟨Classical.not_not.mp h, h'⟩), Or.inl c3⟩
        simp only [if_neg n10, if_true]
        by_cases c1 : a_pl b i = a_pl b g
        · rw [if_pos (f1.mpr c1)]
          by_cases c2 : a_mt b i = (r : Int)
          · rw [if_pos (e1.mpr c2)]; exact key1 (by unfold stn; rw [q1, c1, c2]; simp)
          · rw [if_neg (fun h => c2 (e1.mp h))]; exact T (fun h => c2 h.2) _ _ key0 key1
        · rw [if_neg (fun h => c1 (f1.mp h))]; exact T (fun h => c1 h.1) _ _ key0 key1
      · rw [if_neg (show ¬ nI (a_bs b i) = (3 : Int32) from fun h => q1 ((nI_eq (by omega) (b := 3) (by decide)).mp h))]
        exact key0 (by unfold stn; simp [q1])
/-- where the reference says that one goes, liking so -/
theorem goal_spec {w : MS} {b : AS} {gn : Nat → Nat → Nat} {lo : Nat → Nat → Bool} (hI : Inv b) (hL : LoOk b lo) (hgn : ∀ r q, r < 6 → q < 6 → gn r q < 1000) (hM : Mx w b gn lo) {g : Nat} (hg : g < 8) (hi : a_is b g = true) (x3 x4 : Int32) : f_X9_goal w (nI g) x3 x4 = some (nI (gA (dr (fun k => if x3 = nI k then x4 else lkf b g k) b g) (canA b gn lo g) (a_pl b g) (a_R b)).1) := by
  obtain ⟨N, hN, hFU⟩ := FU_ex
  have hR6 := hI.1.2.1
  have hp : M_at w g = nI (a_pl b g) := (hM.1.2.2.2.2.2.1 g hg hi).1
  have hpl := (hI.2.2.2.2.2.1 g hg hi).1
  have er : M_rooms w = nI (a_R b) := hM.1.1
  unfold f_X9_goal
  rw [chk_nI hg (by decide), nI_clamp (by omega), hp, drawOf_spec hI hM.1 hg hi (by omega), Option.bind_some, hFU]
  generalize hD : dr (fun k => if x3 = nI k then x4 else lkf b g k) b g = D
  refine it_rule (bot := fun _ _ _ _ _ _ _ => none) (a_R b) (fun i (s : Nat × Int32) => s = gA D (canA b gn lo g) (a_pl b g) i) (fun k i s => k w (nI g) x3 x4 (nI s.1) s.2 (nI i) = some (nI (gA D (canA b gn lo g) (a_pl b g) (a_R b)).1)) ?_ ?_ N 0 (a_pl b g, D (a_pl b g)) (by omega) (by omega) rfl
  · intro k s hs
    unfold X9_goal_B22
    rw [er, if_pos (Int32.le_refl _), hs]
  · intro k i s hi' hs hk
    have hk' := hk (gA D (canA b gn lo g) (a_pl b g) (i + 1)) rfl
    rw [gA_s, ← hs] at hk'
    unfold X9_goal_B22 X9_goal_J67
    rw [er, if_neg (nI_ge hi' (by omega)), drawOf_spec hI hM.1 hg hi (by omega), Option.bind_some, canGo_spec hI hL hgn hM hg hi hi', Option.bind_some, hD, nI_1]
    by_cases q1 : D i ≤ s.2
    · rw [if_pos q1]
      rw [if_neg (fun h => h.1 q1)] at hk'
      exact hk'
    · rw [if_neg q1]
      cases e : canA b gn lo g i
      · rw [if_pos (by decide)]
        rw [if_neg (fun h => by rw [e] at h; cases h.2)] at hk'
        exact hk'
      · rw [if_neg (by decide)]
        rw [if_pos ⟨q1, e⟩] at hk'
        exact hk'
theorem gA_congr {D D' : Nat → Int32} (h : ∀ r, D r = D' r) (can : Nat → Bool) (own R : Nat) : gA D can own R = gA D' can own R := by
  rw [show D = D' from funext h]
theorem goal_none {w : MS} {b : AS} {gn : Nat → Nat → Nat} {lo : Nat → Nat → Bool} (hI : Inv b) (hL : LoOk b lo) (hgn : ∀ r q, r < 6 → q < 6 → gn r q < 1000) (hM : Mx w b gn lo) {g : Nat} (hg : g < 8) (hi : a_is b g = true) : f_X9_goal w (nI g) (-6) 0 = some (nI (gA (dr (lkf b g) b g) (canA b gn lo g) (a_pl b g) (a_R b)).1) := by
  rw [goal_spec hI hL hgn hM hg hi, gA_congr (fun r => none_lk b g (r := r))]
/-- where one goes is a room, and the road is open -/
theorem gA_room {D : Nat → Int32} {can : Nat → Bool} {own : Nat} : ∀ R, (gA D can own R).1 = own ∨ ((gA D can own R).1 < R ∧ can (gA D can own R).1 = true)
  | 0 => Or.inl rfl
  | R + 1 => by
    rw [gA_s]
    by_cases h : ¬ D R ≤ (gA D can own R).2 ∧ can R = true
    · rw [if_pos h]; exact Or.inr ⟨Nat.lt_succ_self _, h.2⟩
    · rw [if_neg h]
      rcases gA_room (D := D) (can := can) (own := own) R with q | q
      · exact Or.inl q
      · exact Or.inr ⟨by omega, q.2⟩
end
/-! 75.minute -/
section
/-! a minute -/
def setPl (a : AS) (g p : Nat) : AS := (a_R a, a_T a, a_k a, a_th a, a_sz a, a_ch a, a_wd a, a_lk a, (fun j => if j = g then p else a_pl a j), a_bs a, a_mt a, a_lf a, a_sg a, a_sr a)
theorem sp_R (a : AS) (g p : Nat) : a_R (setPl a g p) = a_R a := rfl
theorem sp_T (a : AS) (g p : Nat) : a_T (setPl a g p) = a_T a := rfl
theorem sp_k (a : AS) (g p : Nat) : a_k (setPl a g p) = a_k a := rfl
theorem sp_th (a : AS) (g p : Nat) : a_th (setPl a g p) = a_th a := rfl
theorem sp_sz (a : AS) (g p : Nat) : a_sz (setPl a g p) = a_sz a := rfl
theorem sp_ch (a : AS) (g p : Nat) : a_ch (setPl a g p) = a_ch a := rfl
theorem sp_wd (a : AS) (g p : Nat) : a_wd (setPl a g p) = a_wd a := rfl
theorem sp_lk (a : AS) (g p : Nat) : a_lk (setPl a g p) = a_lk a := rfl
theorem sp_bs (a : AS) (g p : Nat) : a_bs (setPl a g p) = a_bs a := rfl
theorem sp_mt (a : AS) (g p : Nat) : a_mt (setPl a g p) = a_mt a := rfl
theorem sp_lf (a : AS) (g p : Nat) : a_lf (setPl a g p) = a_lf a := rfl
theorem sp_sg (a : AS) (g p : Nat) : a_sg (setPl a g p) = a_sg a := rfl
theorem sp_sr (a : AS) (g p : Nat) : a_sr (setPl a g p) = a_sr a := rfl
theorem sp_pl (a : AS) (g p j : Nat) : a_pl (setPl a g p) j = if j = g then p else a_pl a j := rfl
theorem sp_is (a : AS) (g p j : Nat) : a_is (setPl a g p) j = a_is a j := rfl
def tkI (a : AS) (n : Nat) : AS := (a_R a, a_T a, a_k a, a_th a, a_sz a, a_ch a, a_wd a, a_lk a, a_pl a, (fun j => if j < n ∧ a_bs a j = 1 ∧ a_lf a j ≤ 1 then 0 else a_bs a j), (fun j => if j < n ∧ a_bs a j = 1 ∧ a_lf a j ≤ 1 then -6 else a_mt a j), (fun j => if j < n ∧ a_bs a j = 1 then a_lf a j - 1 else a_lf a j), a_sg a, a_sr a)
theorem tk_R (a : AS) (n : Nat) : a_R (tkI a n) = a_R a := rfl
theorem tk_T (a : AS) (n : Nat) : a_T (tkI a n) = a_T a := rfl
theorem tk_k (a : AS) (n : Nat) : a_k (tkI a n) = a_k a := rfl
theorem tk_th (a : AS) (n : Nat) : a_th (tkI a n) = a_th a := rfl
theorem tk_sz (a : AS) (n : Nat) : a_sz (tkI a n) = a_sz a := rfl
theorem tk_ch (a : AS) (n : Nat) : a_ch (tkI a n) = a_ch a := rfl
theorem tk_wd (a : AS) (n : Nat) : a_wd (tkI a n) = a_wd a := rfl
theorem tk_lk (a : AS) (n : Nat) : a_lk (tkI a n) = a_lk a := rfl
theorem tk_pl (a : AS) (n : Nat) : a_pl (tkI a n) = a_pl a := rfl
theorem tk_sg (a : AS) (n : Nat) : a_sg (tkI a n) = a_sg a := rfl
theorem tk_sr (a : AS) (n : Nat) : a_sr (tkI a n) = a_sr a := rfl
theorem tk_bs (a : AS) (n j : Nat) : a_bs (tkI a n) j = if j < n ∧ a_bs a j = 1 ∧ a_lf a j ≤ 1 then 0 else a_bs a j := rfl
theorem tk_mt (a : AS) (n j : Nat) : a_mt (tkI a n) j = if j < n ∧ a_bs a j = 1 ∧ a_lf a j ≤ 1 then -6 else a_mt a j := rfl
theorem tk_lf (a : AS) (n j : Nat) : a_lf (tkI a n) j = if j < n ∧ a_bs a j = 1 then a_lf a j - 1 else a_lf a j := rfl
theorem tk_is (a : AS) (n j : Nat) : a_is (tkI a n) j = a_is a j := rfl
theorem tk_in (a : AS) (n r : Nat) : a_in (tkI a n) r = a_in a r := rfl
theorem sp_in {a : AS} {g p r : Nat} (hg : g < 8) (hi : a_is a g = true) : a_in (setPl a g p) r = oth a g r + (if p = r then 1 else 0) := by
  rw [a_in_cnt, cnt_but _ g 8 hg]
  unfold oth
  simp only [sp_is, sp_pl, hi, if_true, Bool.true_and]
  congr 1
  · refine cnt_congr (fun j hj => ?_)
    by_cases c : j = g
    · simp [c]
    · simp [c]
  · by_cases c : p = r <;> simp [c]
theorem Inv_setPl {a : AS} (hI : Inv a) {g p : Nat} (hg : g < 8) (hi : a_is a g = true) (hb : a_bs a g = 0 ∨ a_bs a g = 2) (hp : p < a_R a) (hc : oth a g p < a_sz a p) : Inv (setPl a g p) := by
  obtain ⟨i1, i2, i3, i4, i5, i6, i7, i8, i9, i10, i11⟩ := id hI
  unfold Inv
  simp only [sp_R, sp_T, sp_k, sp_th, sp_sz, sp_ch, sp_wd, sp_lk, sp_bs, sp_mt, sp_lf, sp_sg, sp_sr, sp_pl, sp_is]
  refine ⟨i1, i2, i3, i4, ?_, ?_, i7, i8, ?_, ?_, i11⟩
  · intro j hj e
    have hjg : j ≠ g := fun q => by subst q; rw [hi] at e; cases e
    rw [if_neg hjg]; exact i5 j hj e
  · intro j hj e
    by_cases c : j = g
    · rw [if_pos c]; exact ⟨hp, (i6 j hj e).2⟩
    · rw [if_neg c]; exact i6 j hj e
  · intro j hj e
    have hjg : j ≠ g := fun q => by subst q; omega
    rw [if_neg hjg]; exact i9 j hj e
  · intro r hr
    rw [sp_in hg hi]
    by_cases c : p = r
    · subst c; rw [if_pos rfl]; omega
    · rw [if_neg c]
      have := oth_in (b := a) (r := r) hg hi
      have := i10 r hr
      omega
theorem Inv_tk {a : AS} (hI : Inv a) : Inv (tkI a 8) := by
  obtain ⟨i1, i2, i3, i4, i5, i6, i7, i8, i9, i10, i11⟩ := id hI
  unfold Inv
  simp only [tk_R, tk_T, tk_k, tk_th, tk_sz, tk_ch, tk_wd, tk_lk, tk_pl, tk_sg, tk_sr, tk_bs, tk_mt, tk_lf, tk_is, tk_in]
  refine ⟨i1, i2, i3, i4, ?_, ?_, ?_, ?_, ?_, i10, i11⟩
  · intro j hj e
    obtain ⟨q1, q2, q3⟩ := i5 j hj e
    exact ⟨q1, by rw [if_neg (by omega)]; exact q2, q3⟩
  · intro j hj e
    obtain ⟨q1, q2, q3⟩ := i6 j hj e
    exact ⟨q1, by split <;> omega, q3⟩
  · intro j hj e
    by_cases c : a_bs a j = 1 ∧ a_lf a j ≤ 1
    · rw [if_pos ⟨hj, c⟩, if_pos ⟨hj, c.1⟩]; exact ⟨rfl, by omega⟩
    · rw [if_neg (fun h => c h.2)] at e ⊢
      rw [if_neg (by omega)]; exact i7 j hj e
  · intro j hj e
    have hc : ¬ (a_bs a j = 1 ∧ a_lf a j ≤ 1) := fun h => by rw [if_pos ⟨hj, h⟩] at e; cases e
    rw [if_neg (fun h => hc h.2)] at e ⊢
    obtain ⟨i, k1, k2, k3, k4, k5, k6, k7, k8, k9⟩ := i8 j hj e
    refine ⟨i, k1, k2, k3, k4, ?_, ?_, ?_, ?_, ?_⟩
    · rw [if_neg (by omega)]; exact k5
    · rw [if_neg (by omega)]; exact k6
    · rw [if_pos ⟨k1, k5⟩, if_pos ⟨hj, e⟩]; omega
    · rw [if_pos ⟨hj, e⟩]; omega
    · rw [if_pos ⟨hj, e⟩]; omega
  · intro j hj e
    have hc : ¬ (a_bs a j = 1 ∧ a_lf a j ≤ 1) := fun h => by rw [if_pos ⟨hj, h⟩] at e; cases e
    rw [if_neg (fun h => hc h.2)] at e
    rw [if_neg (show ¬ (j < 8 ∧ a_bs a j = 1) by omega), if_neg (show ¬ (j < 8 ∧ a_bs a j = 1 ∧ a_lf a j ≤ 1) by omega)]
    exact i9 j hj e
theorem stn_sp {a : AS} {g p : Nat} (hb : a_bs a g ≠ 3) (r q j : Nat) : stn (setPl a g p) r q j = stn a r q j := by
  unfold stn
  simp only [sp_bs, sp_pl, sp_mt]
  by_cases c : j = g
  · subst c
    have : (a_bs a j == 3) = false := by simp [hb]
    rw [this]; rfl
  · rw [if_neg c]
theorem jam_sp {a : AS} {g p : Nat} (hb : a_bs a g ≠ 3) (r q : Nat) : jam (setPl a g p) r q = jam a r q := cnt_congr (fun j _ => stn_sp hb r q j)
theorem jam_tk {a : AS} (n r q : Nat) : jam (tkI a n) r q = jam a r q := cnt_congr (fun j _ => by
  unfold stn
  simp only [tk_bs, tk_pl, tk_mt]
  by_cases c : j < n ∧ a_bs a j = 1 ∧ a_lf a j ≤ 1
  · rw [if_pos c, if_pos c, c.2.1]; simp
  · rw [if_neg c, if_neg c])
theorem pt_th {f : Nat → Int32} {a b : AS} {r : Nat} (h : a_th a = a_th b) : ∀ i, pt f a r i = pt f b r i
  | 0 => rfl
  | i + 1 => by show pt f a r i + _ = pt f b r i + _; rw [pt_th h i, h]
/-- one more has gone through -/
def incG (gn : Nat → Nat → Nat) (f t r q : Nat) : Nat := gn r q + (if (r = f ∧ q = t) ∨ (r = t ∧ q = f) then 1 else 0)
/-- where g goes -/
def toA (b : AS) (gn : Nat → Nat → Nat) (lo : Nat → Nat → Bool) (g : Nat) : Nat := (gA (dr (lkf b g) b g) (canA b gn lo g) (a_pl b g) (a_R b)).1
theorem toA_ok {b : AS} {gn : Nat → Nat → Nat} {lo : Nat → Nat → Bool} {g : Nat} (h : toA b gn lo g ≠ a_pl b g) : toA b gn lo g < a_R b ∧ a_in b (toA b gn lo g) < a_sz b (toA b gn lo g) := by
  rcases gA_room (D := dr (lkf b g) b g) (can := canA b gn lo g) (own := a_pl b g) (a_R b) with q | ⟨q1, q2⟩
  · exact absurd q h
  · refine ⟨q1, ?_⟩
    have q2 : canA b gn lo g (toA b gn lo g) = true := q2
    unfold canA at q2
    simp only [Bool.and_eq_true, decide_eq_true_eq] at q2
    exact q2.2.2
theorem moves_spec {d : DS} {b : AS} {gn : Nat → Nat → Nat} {lo : Nat → Nat → Bool} (hI : Inv b) (hL : LoOk b lo) (hgn : ∀ r q, r < 6 → q < 6 → gn r q < 1000) (hD : Dx d b gn lo) {g : Nat} (hg : g < 8) (hi : a_is b g = true) (hb : a_bs b g = 0) : ∃ d', f_X0_moves d (nI g) = some (if toA b gn lo g = a_pl b g then 0 else 1, d') ∧ (toA b gn lo g = a_pl b g → d' = d) ∧ (toA b gn lo g ≠ a_pl b g → Dx d' (setPl b g (toA b gn lo g)) (incG gn (a_pl b g) (toA b gn lo g)) lo) := by
  have ht : f_X0_target d (nI g) = some (nI (toA b gn lo g)) := target_spec hI hL hgn hD hg hi
  obtain ⟨hH, hc, hta, hw, hn⟩ := hD
  have hp : H_place (D_house d) g = nI (a_pl b g) := (hH.2.2.2.2.2.1 g hg).1
  have hpl := (hI.2.2.2.2.2.1 g hg hi).1
  have hR6 := hI.1.2.1
  unfold f_X0_moves
  rw [chk_nI hg (by decide), ht, Option.bind_some, nI_clamp (by omega), hp]
  generalize hto : toA b gn lo g = t
  by_cases c : t = a_pl b g
  · exact ⟨d, by rw [if_pos (by rw [c]), if_pos c], fun _ => rfl, fun h => absurd c h⟩
  · have hok := toA_ok (b := b) (gn := gn) (lo := lo) (g := g) (by rw [hto]; exact c)
    rw [hto] at hok
    have c2 := oth_in (b := b) (g := g) (r := a_pl b g) hg hi
    rw [if_pos rfl] at c2
    have ct : a_in b t = oth b g t := by rw [oth_in hg hi, if_neg (fun h => c h.symm)]; rfl
    have c8 : a_in b t ≤ 8 := cnt_le _ 8
    have c8' : a_in b (a_pl b g) ≤ 8 := cnt_le _ 8
    refine ⟨_, by rw [if_neg (fun h => c ((nI_eq (by omega) (by omega)).mp h)), ix6, ix6, chk_nI (by omega) (by decide), chk_nI (by omega) (by decide), nI_clamp (by omega), nI_clamp (by omega), nI_clamp (by omega), nI_clamp (by omega), ltA_eq, chk_nI (by omega) (by decide), chk_nI (by omega) (by decide), ltA_eq, chk_nI (by omega) (by decide), chk_nI (by omega) (by decide), ltA_eq, chk_nI (by omega) (by decide), chk_nI (by omega) (by decide), ltA_eq, chk_nI hg (by decide), ltA_eq, if_neg c], fun h => absurd h c, fun _ => ?_⟩
    refine ⟨?_, ?_, ?_, ?_, ?_⟩
    · obtain ⟨b1, b2, b3, b4, b5, b6, b7, b8⟩ := hH
      refine ⟨b1, b2, b3, b4, b5, ?_, b7, b8⟩
      intro j hj
      simp only [sp_pl, sp_bs, sp_mt, sp_lf]
      refine ⟨?_, (b6 j hj).2⟩
      show upd (H_place (D_house d)) g (nI t) j = _
      by_cases q : j = g
      · rw [if_pos q, q, pk_us]
      · rw [if_neg q, pk_un q]; exact (b6 j hj).1
    · intro r hr
      show upd (upd (D_crowd d) (a_pl b g) (D_crowd d (a_pl b g) - 1)) t (upd (D_crowd d) (a_pl b g) (D_crowd d (a_pl b g) - 1) t + 1) r = _
      rw [sp_in hg hi, pk_un c]
      by_cases q1 : r = t
      · rw [q1, pk_us, hc t (by omega), if_pos rfl, ct, nI_1]
      · rw [pk_un q1, if_neg (fun h => q1 h.symm)]
        by_cases q2 : r = a_pl b g
        · rw [q2, pk_us, hc _ (by omega), c2, show nI (oth b g (a_pl b g) + 1) - (1 : Int32) = nI (oth b g (a_pl b g) + 1 - 1) from pk_sub (b := 1) (by omega)]; rfl
        · rw [pk_un q2, hc r hr, oth_in hg hi, if_neg (fun h => q2 h.symm)]
    · intro j r hj hij hr
      exact hta j r hj hij hr
    · intro r q hr hq
      refine (hw r q hr hq).trans ?_
      unfold wdv
      rw [jam_sp (by omega)]; rfl
    · intro r q hr hq
      show upd (upd (D_gone d) (a_pl b g * 6 + t) (D_gone d (a_pl b g * 6 + t) + 1)) (t * 6 + a_pl b g) (upd (D_gone d) (a_pl b g * 6 + t) (D_gone d (a_pl b g * 6 + t) + 1) (t * 6 + a_pl b g) + 1) (r * 6 + q) = nI (incG gn (a_pl b g) t r q)
      unfold incG
      rw [pk_un (show t * 6 + a_pl b g ≠ a_pl b g * 6 + t by omega)]
      by_cases q1 : r = t ∧ q = a_pl b g
      · rw [if_pos (Or.inr q1), q1.1, q1.2, pk_us, hn _ _ (by omega) (by omega), nI_1]
      · rw [pk_un (by omega)]
        by_cases q2 : r = a_pl b g ∧ q = t
        · rw [if_pos (Or.inl q2), q2.1, q2.2, pk_us, hn _ _ (by omega) (by omega), nI_1]
        · rw [pk_un (by omega), if_neg (by omega), hn r q hr hq]; rfl
end
/-! 76.minute2 -/
section
/-! the minute as a whole -/
def stp (lo : Nat → Nat → Bool) (g : Nat) (s : AS × (Nat → Nat → Nat) × Nat) : AS × (Nat → Nat → Nat) × Nat := if (a_is s.1 g = true ∧ a_bs s.1 g = 0) ∧ toA s.1 s.2.1 lo g ≠ a_pl s.1 g then (setPl s.1 g (toA s.1 s.2.1 lo g), incG s.2.1 (a_pl s.1 g) (toA s.1 s.2.1 lo g), s.2.2 + 1) else s
def mvA (lo : Nat → Nat → Bool) (b : AS) : Nat → AS × (Nat → Nat → Nat) × Nat
  | 0 => (b, (fun _ _ => 0), 0)
  | g + 1 => stp lo g (mvA lo b g)
theorem mvA_s (lo : Nat → Nat → Bool) (b : AS) (g : Nat) : mvA lo b (g + 1) = stp lo g (mvA lo b g) := rfl
/-- a minute later -/
def minA (lo : Nat → Nat → Bool) (b : AS) : AS := tkI (mvA lo b 8).1 8
def wentA (lo : Nat → Nat → Bool) (b : AS) : Nat := (mvA lo b 8).2.2
/-- what a minute's moves keep -/
def Kp (b : AS) (i : Nat) (s : AS × (Nat → Nat → Nat) × Nat) : Prop := Inv s.1 ∧ (∀ r q, s.2.1 r q ≤ i) ∧ s.2.2 ≤ i ∧ a_wd s.1 = a_wd b ∧ a_R s.1 = a_R b ∧ a_T s.1 = a_T b ∧ a_sz s.1 = a_sz b ∧ a_th s.1 = a_th b ∧ a_bs s.1 = a_bs b ∧ a_mt s.1 = a_mt b ∧ a_lf s.1 = a_lf b
theorem Kp_stp {b : AS} {lo : Nat → Nat → Bool} {g : Nat} {s : AS × (Nat → Nat → Nat) × Nat} (hg : g < 8) (h : Kp b g s) : Kp b (g + 1) (stp lo g s) := by
  obtain ⟨k1, k2, k3, k4, k5, k6, k7, k8, k9, k10, k11⟩ := h
  unfold stp
  by_cases c : (a_is s.1 g = true ∧ a_bs s.1 g = 0) ∧ toA s.1 s.2.1 lo g ≠ a_pl s.1 g
  · rw [if_pos c]
    obtain ⟨t1, t2⟩ := toA_ok c.2
    refine ⟨Inv_setPl k1 hg c.1.1 (Or.inl c.1.2) t1 ?_, ?_, ?_, k4, k5, k6, k7, k8, k9, k10, k11⟩
    · have := oth_in (b := s.1) (g := g) (r := toA s.1 s.2.1 lo g) hg c.1.1
      rw [if_neg (fun h => c.2 h.symm)] at this
      omega
    · intro r q
      show incG s.2.1 _ _ r q ≤ g + 1
      unfold incG
      have := k2 r q
      split <;> omega
    · show s.2.2 + 1 ≤ g + 1; omega
  · rw [if_neg c]
    exact ⟨k1, fun r q => Nat.le_succ_of_le (k2 r q), Nat.le_succ_of_le k3, k4, k5, k6, k7, k8, k9, k10, k11⟩
theorem Kp_mv {b : AS} (hI : Inv b) (lo : Nat → Nat → Bool) : ∀ i, i ≤ 8 → Kp b i (mvA lo b i)
  | 0, _ => ⟨hI, fun _ _ => Nat.le_refl _, Nat.le_refl _, rfl, rfl, rfl, rfl, rfl, rfl, rfl, rfl⟩
  | i + 1, h => by rw [mvA_s]; exact Kp_stp (by omega) (Kp_mv hI lo i (by omega))
theorem Inv_min {b : AS} (hI : Inv b) (lo : Nat → Nat → Bool) : Inv (minA lo b) := Inv_tk (Kp_mv hI lo 8 (Nat.le_refl _)).1
theorem LoOk.to {b b' : AS} {lo : Nat → Nat → Bool} (h : LoOk b lo) (e : a_wd b' = a_wd b) : LoOk b' lo := fun r q hr hq hl => by rw [e]; exact h r q hr hq hl
theorem Lo_min {b : AS} (hI : Inv b) {lo : Nat → Nat → Bool} (h : LoOk b lo) : LoOk (minA lo b) lo := h.to (Kp_mv hI lo 8 (Nat.le_refl _)).2.2.2.1
theorem upd_self (f : Nat → Int32) (i : Nat) : upd f i (f i) = f := funext fun j => by
  by_cases q : j = i
  · rw [q, pk_us]
  · rw [pk_un q]
theorem hEng_left (y : HS) (i : Nat) (X : Nat → Int32) (bs mt : Int32) (h : upd X i 0 = upd (H_left y) i 0) : hEng (H_set_left y X) i bs mt 0 = hEng y i bs mt 0 := by
  obtain ⟨y1, y2, y3, y4, y5, y6, y7, y8, y9, y10, y11, y12⟩ := y
  have h' : upd X i 0 = upd y9 i 0 := h
  show (y1, y2, y3, y4, y5, y6, upd y7 i bs, upd y8 i mt, upd X i 0, y10, y11, y12) = (y1, y2, y3, y4, y5, y6, upd y7 i bs, upd y8 i mt, upd y9 i 0, y10, y11, y12)
  rw [h']
theorem hEng_same (y : HS) (i : Nat) (v : Int32) : hEng y i (H_busy y i) (H_mate y i) v = H_set_left y (upd (H_left y) i v) := by
  obtain ⟨y1, y2, y3, y4, y5, y6, y7, y8, y9, y10, y11, y12⟩ := y
  show (y1, y2, y3, y4, y5, y6, upd y7 i (y7 i), upd y8 i (y8 i), upd y9 i v, y10, y11, y12) = (y1, y2, y3, y4, y5, y6, y7, y8, upd y9 i v, y10, y11, y12)
  rw [upd_self y7 i, upd_self y8 i]
theorem talkOn_spec {h : HS} {b : AS} (hI : Inv b) (hH : Hc h b) : ∃ h', f_X1_talkOn h = some h' ∧ Hc h' (tkI b 8) := by
  obtain ⟨N, hN, hFU⟩ := FU_ex
  unfold f_X1_talkOn
  rw [hFU]
  have h0 : Hc h (tkI b 0) := by
    unfold Hc at hH ⊢
    simp only [tk_R, tk_T, tk_k, tk_th, tk_sz, tk_ch, tk_wd, tk_lk, tk_pl, tk_sg, tk_sr, tk_bs, tk_mt, tk_lf, Nat.not_lt_zero, false_and, if_false]
    exact hH
  refine it_rule (bot := fun _ _ => none) 8 (fun i (y : HS) => Hc y (tkI b i)) (fun k i y => ∃ h', k y (nI i) = some h' ∧ Hc h' (tkI b 8)) ?_ ?_ N 0 h (by omega) (by omega) h0
  · intro k y hy
    exact ⟨y, by unfold X1_talkOn_B2; rw [if_pos (by decide)], hy⟩
  · intro k i y hi hy hk
    have hbs := bs_lt hI hi
    obtain ⟨p1, p2, p3, p4⟩ := hy.2.2.2.2.2.1 i hi
    simp only [tk_bs, tk_mt, tk_lf, Nat.lt_irrefl, false_and, if_false] at p2 p3 p4
    have eq : ∀ y' : HS, Hc y' (eng (tkI b i) i (if a_bs b i = 1 ∧ a_lf b i ≤ 1 then 0 else a_bs b i) (if a_bs b i = 1 ∧ a_lf b i ≤ 1 then -6 else a_mt b i) (if a_bs b i = 1 then a_lf b i - 1 else a_lf b i)) → Hc y' (tkI b (i + 1)) := by
      intro y' h
      unfold Hc at h ⊢
      simp only [eng_R, eng_T, eng_k, eng_th, eng_sz, eng_ch, eng_wd, eng_lk, eng_pl, eng_sg, eng_sr, eng_bs, eng_mt, eng_lf, tk_R, tk_T, tk_k, tk_th, tk_sz, tk_ch, tk_wd, tk_lk, tk_pl, tk_sg, tk_sr, tk_bs, tk_mt, tk_lf] at h ⊢
      obtain ⟨b1, b2, b3, b4, b5, b6, b7, b8⟩ := h
      refine ⟨b1, b2, b3, b4, b5, fun j hj => ?_, b7, b8⟩
      have q := b6 j hj
      by_cases c : j = i
      · subst c
        simp only [if_true, Nat.lt_succ_self, true_and] at q ⊢
        exact q
      · have e1 : (j < i + 1) ↔ j < i := by omega
        simp only [c, if_false] at q
        simp only [e1]
        exact q
    unfold X1_talkOn_B2 X1_talkOn_J46
    rw [if_neg (show ¬ (8 : Int32) ≤ nI i from nlit (by decide) hi), chk_nI hi (by decide), nI_clamp (by omega), p2, nI_1]
    by_cases c : a_bs b i = 1
    · obtain ⟨j, -, -, -, -, -, -, -, l1, l9⟩ := hI.2.2.2.2.2.2.2.1 i hi c
      rw [if_pos (show nI (a_bs b i) = (1 : Int32) by rw [c]; rfl), chk_nI hi (by decide), chk_nI hi (by decide), ltA_eq, chk_nI hi (by decide), p4, pk_us, show nI (a_lf b i) - (1 : Int32) = nI (a_lf b i - 1) from pk_sub (b := 1) (by omega)]
      by_cases c2 : a_lf b i ≤ 1
      · rw [if_neg (show ¬ (0 : Int32) < nI (a_lf b i - 1) from nI_nlt (a := 0) (by omega) (by omega)), engage_spec _ hi, Option.bind_some]
        obtain ⟨h', k1, k2⟩ := hk (hEng (H_set_left y (upd (H_left y) i (nI (a_lf b i - 1)))) i 0 (-6) 0) (eq _ (by
          rw [if_pos ⟨c, c2⟩, if_pos ⟨c, c2⟩, if_pos c, show a_lf b i - 1 = 0 by omega]
          have e : hEng (H_set_left y (upd (H_left y) i (nI 0))) i 0 (-6) 0 = hEng y i 0 (-6) 0 := hEng_left y i _ 0 (-6) (funext fun j => by
            by_cases q : j = i
            · rw [q, pk_us, pk_us]
            · rw [pk_un q, pk_un q, pk_un q])
          rw [e]; exact Hc_eng' hy rfl neg6 rfl))
        exact ⟨h', k1, k2⟩
      · rw [if_pos (show (0 : Int32) < nI (a_lf b i - 1) from nI_lt (a := 0) (by omega) (by omega))]
        refine hk _ (eq _ ?_)
        rw [if_neg (fun h => c2 h.2), if_neg (fun h => c2 h.2), if_pos c]
        have h1 := Hc_eng hy (g := i) (a_bs b i) (a_mt b i) (a_lf b i - 1)
        rw [← p2, ← p3, hEng_same] at h1
        exact h1
    · rw [if_neg (show ¬ nI (a_bs b i) = (1 : Int32) from fun h => c ((nI_eq (by omega) (b := 1) (by decide)).mp h))]
      refine hk _ ?_
      unfold Hc at hy ⊢
      simp only [tk_R, tk_T, tk_k, tk_th, tk_sz, tk_ch, tk_wd, tk_lk, tk_pl, tk_sg, tk_sr, tk_bs, tk_mt, tk_lf] at hy ⊢
      obtain ⟨b1, b2, b3, b4, b5, b6, b7, b8⟩ := hy
      refine ⟨b1, b2, b3, b4, b5, fun j hj => ?_, b7, b8⟩
      have q := b6 j hj
      by_cases cj : j = i
      · subst cj; simp [c] at q ⊢; exact q
      · have e1 : (j < i + 1) ↔ j < i := by omega
        simp only [e1]; exact q
theorem minute_spec {d : DS} {b : AS} {gn : Nat → Nat → Nat} {lo : Nat → Nat → Bool} (hI : Inv b) (hL : LoOk b lo) (hD : Dx d b gn lo) : ∃ d' gn', f_X0_minute d = some (nI (wentA lo b), d') ∧ Dx d' (minA lo b) gn' lo := by
  obtain ⟨N, hN, hFU⟩ := FU_ex
  unfold f_X0_minute
  rw [hFU, ltA_eq]
  have h0 : Dx (D_set_gone d (fillA 36 (0 : Int32) (D_gone d))) b (fun _ _ => 0) lo := ⟨hD.1, hD.2.1, hD.2.2.1, hD.2.2.2.1, fun r q hr hq => fill_at (by omega)⟩
  refine it_rule (bot := fun _ _ _ => none) 8 (fun i (s : DS) => Dx s (mvA lo b i).1 (mvA lo b i).2.1 lo) (fun k i s => ∃ d' gn', k s (nI (mvA lo b i).2.2) (nI i) = some (nI (wentA lo b), d') ∧ Dx d' (minA lo b) gn' lo) ?_ ?_ N 0 (D_set_gone d (fillA 36 (0 : Int32) (D_gone d))) (by omega) (by omega) h0
  · intro k s hs
    have hK := Kp_mv hI lo 8 (Nat.le_refl _)
    obtain ⟨h', e1, e2⟩ := talkOn_spec hK.1 hs.1
    refine ⟨D_set_house s h', (mvA lo b 8).2.1, ?_, e2, hs.2.1, hs.2.2.1, ?_, hs.2.2.2.2⟩
    · unfold X0_minute_B12
      rw [if_pos (by decide), e1, Option.bind_some]; rfl
    · intro r q hr hq
      refine (hs.2.2.2.1 r q hr hq).trans ?_
      unfold wdv minA
      rw [jam_tk]; rfl
  · intro k i s hi hs hk
    have hK := Kp_mv hI lo i (by omega)
    have hk' := hk
    rw [mvA_s] at hk'
    unfold stp at hk'
    have hL' : LoOk (mvA lo b i).1 lo := hL.to hK.2.2.2.1
    have hgn : ∀ r q, r < 6 → q < 6 → (mvA lo b i).2.1 r q < 1000 := fun r q _ _ => by have := hK.2.1 r q; omega
    have hbs := bs_lt hK.1 hi
    unfold X0_minute_B12 X0_minute_J52
    rw [if_neg (show ¬ (8 : Int32) ≤ nI i from nlit (by decide) hi), th_at hK.1 hs.1 hi, Option.bind_some, nI_1]
    have hb : H_busy (D_house s) i = nI (a_bs (mvA lo b i).1 i) := (hs.1.2.2.2.2.2.1 i hi).2.1
    cases e : a_is (mvA lo b i).1 i
    · rw [if_pos (by decide)]
      rw [if_neg (fun h => by rw [e] at h; cases h.1.1)] at hk'
      exact hk' s hs
    · rw [if_neg (by decide), chk_nI hi (by decide), nI_clamp (by omega), hb]
      by_cases c : a_bs (mvA lo b i).1 i = 0
      · obtain ⟨d', m1, m2, m3⟩ := moves_spec hK.1 hL' hgn hs hi e c
        rw [if_pos (show nI (a_bs (mvA lo b i).1 i) = 0 by rw [c]; rfl), m1, Option.bind_some]
        by_cases c2 : toA (mvA lo b i).1 (mvA lo b i).2.1 lo i = a_pl (mvA lo b i).1 i
        · rw [if_neg (fun h => h.2 c2)] at hk'
          show ∃ d'_1 gn', (if (if toA (mvA lo b i).1 (mvA lo b i).2.1 lo i = a_pl (mvA lo b i).1 i then (0 : Int32) else 1) = 0 then k d' (nI (mvA lo b i).2.2) (nI (i + 1)) else k d' (nI (mvA lo b i).2.2 + 1) (nI (i + 1))) = _ ∧ _
          rw [if_pos (show (if toA (mvA lo b i).1 (mvA lo b i).2.1 lo i = a_pl (mvA lo b i).1 i then (0 : Int32) else 1) = 0 by rw [if_pos c2]), m2 c2]
          exact hk' s hs
        · rw [if_pos ⟨⟨e, c⟩, c2⟩] at hk'
          show ∃ d'_1 gn', (if (if toA (mvA lo b i).1 (mvA lo b i).2.1 lo i = a_pl (mvA lo b i).1 i then (0 : Int32) else 1) = 0 then k d' (nI (mvA lo b i).2.2) (nI (i + 1)) else k d' (nI (mvA lo b i).2.2 + 1) (nI (i + 1))) = _ ∧ _
          rw [if_neg (show ¬ (if toA (mvA lo b i).1 (mvA lo b i).2.1 lo i = a_pl (mvA lo b i).1 i then (0 : Int32) else 1) = 0 by rw [if_neg c2]; decide), nI_1]
          exact hk' d' (m3 c2)
      · rw [if_neg (show ¬ nI (a_bs (mvA lo b i).1 i) = 0 from fun h => c ((nI_eq (by omega) (b := 0) (by decide)).mp h))]
        rw [if_neg (fun h => c h.1.2)] at hk'
        exact hk' s hs
end
/-! 77.pass -/
section
/-! the reference's minute -/
theorem gp_keep {w w' : MS} (h : mkeep w' = mkeep w) : M_rooms w' = M_rooms w ∧ M_size w' = M_size w ∧ M_chairs w' = M_chairs w ∧ M_width w' = M_width w ∧ M_there w' = M_there w ∧ M_likes w' = M_likes w ∧ M_sights w' = M_sights w ∧ M_sight w' = M_sight w := ⟨congrArg (fun m => m.1.1) h, congrArg (fun m => m.1.2.2.1) h, congrArg (fun m => m.1.2.2.2.1) h, congrArg (fun m => m.1.2.2.2.2.1) h, congrArg (fun m => m.1.2.2.2.2.2.1) h, congrArg (fun m => m.1.2.2.2.2.2.2.1) h, congrArg (fun m => m.1.2.2.2.2.2.2.2.2.2.2.2.1) h, congrArg (fun m => m.1.2.2.2.2.2.2.2.2.2.2.2.2) h⟩
/-- the present, out of what lasts and what is now -/
theorem mnow_eq {w w' : MS} (h : mkeep w' = mkeep w) : mnow w' = ((mnow w).1, M_thingsNow w', (mnow w).2.2.1, (mnow w).2.2.2.1, (mnow w).2.2.2.2.1, (mnow w).2.2.2.2.2.1, (mnow w).2.2.2.2.2.2.1, M_at w', M_busyNow w', M_withNow w', M_leftNow w', (mnow w).2.2.2.2.2.2.2.2.2.2.2.1, (mnow w).2.2.2.2.2.2.2.2.2.2.2.2) := by
  obtain ⟨e1, e2, e3, e4, e5, e6, e7, e8⟩ := gp_keep h
  unfold mnow
  rw [e1, e2, e3, e4, e5, e6, e7, e8]
/-- a change of the present -/
theorem Mc_now {w w' : MS} {b b' : AS} (h : mkeep w' = mkeep w) (hM : Mc (mnow w) b) (eR : a_R b' = a_R b) (eT : a_T b' = a_T b) (ek : a_k b' = a_k b) (esz : a_sz b' = a_sz b) (ech : a_ch b' = a_ch b) (ewd : a_wd b' = a_wd b) (esg : a_sg b' = a_sg b) (esr : a_sr b' = a_sr b) (hth : ∀ r s, r < 6 → s < 4 → M_thingsNow w' (4 * r + s) = nI (a_th b' r s)) (hlk : ∀ g k, g < 8 → k < 5 → a_is b g = true → lkf b' g k = lkf b g k) (hg : ∀ g, g < 8 → a_is b g = true → M_at w' g = nI (a_pl b' g) ∧ M_busyNow w' g = nI (a_bs b' g) ∧ M_leftNow w' g = nI (a_lf b' g) ∧ (a_bs b' g = 1 ∨ a_bs b' g = 3 → M_withNow w' g = Int32.ofInt (a_mt b' g))) : Mc (mnow w') b' := by
  rw [mnow_eq h]
  obtain ⟨m1, m2, m3, m4, m5, m6, m7⟩ := hM
  refine ⟨?_, ?_, ?_, fun r hr => ⟨fun s hs => hth r s hr hs, ?_, ?_⟩, fun r q hr hq => ?_, fun g hg' hi => ?_, fun s hs => ?_⟩
  · rw [eR]; exact m1
  · rw [eT]; exact m2
  · rw [ek]; exact m3
  · rw [esz]; exact (m4 r hr).2.1
  · rw [ech]; exact (m4 r hr).2.2
  · rw [ewd]; exact m5 r q hr hq
  · have hi' : a_is b g = true := by unfold a_is at hi ⊢; rw [← eT]; exact hi
    obtain ⟨q1, q2, q3, q4⟩ := hg g hg' hi'
    exact ⟨q1, q2, q3, q4, fun k hk => ((m6 g hg' hi').2.2.2.2 k hk).trans (hlk g k hg' hk hi').symm⟩
  · rw [ek] at hs; rw [esg, esr]; exact m7 s hs
theorem gt_now {w : MS} {b : AS} (hM : Mc (mnow w) b) {g : Nat} (hg : g < 8) (hi : a_is b g = true) : M_at w g = nI (a_pl b g) ∧ M_busyNow w g = nI (a_bs b g) ∧ M_leftNow w g = nI (a_lf b g) ∧ (a_bs b g = 1 ∨ a_bs b g = 3 → M_withNow w g = Int32.ofInt (a_mt b g)) := ⟨(hM.2.2.2.2.2.1 g hg hi).1, (hM.2.2.2.2.2.1 g hg hi).2.1, (hM.2.2.2.2.2.1 g hg hi).2.2.1, (hM.2.2.2.2.2.1 g hg hi).2.2.2.1⟩
theorem gt_th {w : MS} {b : AS} (hM : Mc (mnow w) b) {r s : Nat} (hr : r < 6) (hs : s < 4) : M_thingsNow w (4 * r + s) = nI (a_th b r s) := (hM.2.2.2.1 r hr).1 s hs
end
/-! 77b.shut -/
section
/-- the reference's present, but for who has gone through -/
def Mx0 (w : MS) (b : AS) (lo : Nat → Nat → Bool) : Prop := Mc (mnow w) b ∧ ∀ r q, r < 6 → q < 6 → ((M_loose w = nI (6 * r + q) ∨ M_loose w = nI (6 * q + r)) ↔ lo r q = true)
theorem Mx.to0 {w : MS} {b : AS} {gn : Nat → Nat → Nat} {lo : Nat → Nat → Bool} (h : Mx w b gn lo) : Mx0 w b lo := ⟨h.1, h.2.2⟩
theorem Mx_shut {w : MS} {b : AS} {lo : Nat → Nat → Bool} (hM : Mx0 w b lo) : ∃ w', f_X9_shut w = some w' ∧ mkeep w' = mkeep w ∧ Mx w' b (fun _ _ => 0) lo := by
  obtain ⟨w', f, e1, e2, e3, e4⟩ := shut_spec w
  have q1 : M_at w' = M_at w := congrArg (fun m => m.1) e3
  have q2 : M_busyNow w' = M_busyNow w := congrArg (fun m => m.2.1) e3
  have q3 : M_withNow w' = M_withNow w := congrArg (fun m => m.2.2.1) e3
  have q4 : M_leftNow w' = M_leftNow w := congrArg (fun m => m.2.2.2.1) e3
  have q5 : M_thingsNow w' = M_thingsNow w := congrArg (fun m => m.2.2.2.2.1) e3
  have q6 : M_loose w' = M_loose w := congrArg (fun m => m.2.2.2.2.2.1) e3
  have q7 : M_through w' = f := congrArg (fun m => m.2.2.2.2.2.2) e3
  refine ⟨w', e1, e2, Mc_now e2 hM.1 rfl rfl rfl rfl rfl rfl rfl rfl (fun r s hr hs => by rw [q5]; exact gt_th hM.1 hr hs) (fun _ _ _ _ _ => rfl) (fun g hg hi => by rw [q1, q2, q3, q4]; exact gt_now hM.1 hg hi), fun r q hr hq => by rw [q7]; exact e4 _ (by omega), fun r q hr hq => by rw [q6]; exact hM.2 r q hr hq⟩
end
/-! 78.passin -/
section
theorem pass_in {w : MS} {b : AS} {gn : Nat → Nat → Nat} {lo : Nat → Nat → Bool} {n : Nat} (hI : Inv b) (hM : Mx w b gn lo) : ∃ w', it X9_pass_B108 (fun _ _ _ => none) FU w (nI n) 0 = some (nI n, w') ∧ mkeep w' = mkeep w ∧ Mx w' (tkI b 8) gn lo := by
  obtain ⟨N, hN, hFU⟩ := FU_ex
  have hT := hI.1.2.2.1
  rw [hFU]
  have h0 : Mc (mnow w) (tkI b 0) := Mc_now rfl hM.1 (tk_R b 0) (tk_T b 0) (tk_k b 0) (tk_sz b 0) (tk_ch b 0) (tk_wd b 0) (tk_sg b 0) (tk_sr b 0) (fun r s hr hs => by rw [tk_th]; exact gt_th hM.1 hr hs) (fun g k _ _ _ => by unfold lkf; rw [tk_lk]) (fun g hg hi => by
    simp only [tk_pl, tk_bs, tk_mt, tk_lf, Nat.not_lt_zero, false_and, if_false]; exact gt_now hM.1 hg hi)
  refine it_rule (bot := fun _ _ _ => none) 8 (fun i (y : MS) => mkeep y = mkeep w ∧ Mx y (tkI b i) gn lo) (fun k i y => ∃ w', k y (nI n) (nI i) = some (nI n, w') ∧ mkeep w' = mkeep w ∧ Mx w' (tkI b 8) gn lo) ?_ ?_ N 0 w (by omega) (by omega) ⟨rfl, h0, hM.2⟩
  · intro k y hy
    exact ⟨y, by unfold X9_pass_B108; rw [if_pos (by decide)], hy⟩
  · intro k i y hi ⟨hy, hMy⟩ hk
    have et : M_there y = nI (a_T b) := hMy.1.2.1
    have hbs := bs_lt hI hi
    unfold X9_pass_B108 X9_pass_J165
    rw [if_neg (show ¬ (8 : Int32) ≤ nI i from nlit (by decide) hi), et, has_b hT hi, Option.bind_some, nI_1]
    have skip : (a_is b i = true → a_bs b i ≠ 1) → Mx y (tkI b (i + 1)) gn lo := by
      intro h
      refine ⟨Mc_now rfl hMy.1 ((tk_R b (i + 1)).trans (tk_R b i).symm) ((tk_T b (i + 1)).trans (tk_T b i).symm) ((tk_k b (i + 1)).trans (tk_k b i).symm) ((tk_sz b (i + 1)).trans (tk_sz b i).symm) ((tk_ch b (i + 1)).trans (tk_ch b i).symm) ((tk_wd b (i + 1)).trans (tk_wd b i).symm) ((tk_sg b (i + 1)).trans (tk_sg b i).symm) ((tk_sr b (i + 1)).trans (tk_sr b i).symm) (fun r s hr hs => by rw [tk_th]; exact (gt_th hMy.1 hr hs).trans (by rw [tk_th])) (fun g k _ _ _ => by unfold lkf; rw [tk_lk, tk_lk]) (fun g hg hig => ?_), hMy.2⟩
      have q := gt_now hMy.1 hg hig
      simp only [tk_pl, tk_bs, tk_mt, tk_lf] at q ⊢
      by_cases c : g = i
      · subst c; have := h hig; simp [this] at q ⊢; exact q
      · have e1 : (g < i + 1) ↔ g < i := by omega
        simp only [e1]; exact q
    cases e : (a_T b).testBit i
    · have e' : a_is b i = false := e
      rw [if_pos (by decide)]
      exact hk y ⟨hy, skip (fun h => by rw [e'] at h; cases h)⟩
    · have e' : a_is b i = true := e
      obtain ⟨p1, p2, p3, p4⟩ := gt_now hMy.1 hi (show a_is (tkI b i) i = true from e')
      simp only [tk_pl, tk_bs, tk_mt, tk_lf, Nat.lt_irrefl, false_and, if_false] at p1 p2 p3 p4
      rw [if_neg (by decide), chk_nI hi (by decide), nI_clamp (by omega), p2]
      by_cases c : a_bs b i = 1
      · obtain ⟨j, -, -, -, -, -, -, -, l1, l9⟩ := hI.2.2.2.2.2.2.2.1 i hi c
        obtain ⟨y1, ey1⟩ : ∃ x, x = M_set_leftNow y (upd (M_leftNow y) i (nI (a_lf b i - 1))) := ⟨_, rfl⟩
        obtain ⟨a1, b1⟩ := set_leftNow ey1
        obtain ⟨y2, ey2⟩ : ∃ x, x = M_set_busyNow y1 (upd (M_busyNow y1) i (nI (if a_lf b i ≤ 1 then 0 else 1))) := ⟨_, rfl⟩
        obtain ⟨a2, b2⟩ := set_busyNow ey2
        have hl1 : M_leftNow y1 = upd (M_leftNow y) i (nI (a_lf b i - 1)) := congrArg (fun m => m.2.2.2.1) b1
        have t1 : M_at y2 = M_at y := (congrArg (fun m => m.1) b2).trans (congrArg (fun m => m.1) b1)
        have t2 : M_busyNow y2 = upd (M_busyNow y) i (nI (if a_lf b i ≤ 1 then 0 else 1)) := by
          have : M_busyNow y1 = M_busyNow y := congrArg (fun m => m.2.1) b1
          have q : M_busyNow y2 = upd (M_busyNow y1) i (nI (if a_lf b i ≤ 1 then 0 else 1)) := congrArg (fun m => m.2.1) b2
          rw [q, this]
        have t3 : M_withNow y2 = M_withNow y := (congrArg (fun m => m.2.2.1) b2).trans (congrArg (fun m => m.2.2.1) b1)
        have t4 : M_leftNow y2 = upd (M_leftNow y) i (nI (a_lf b i - 1)) := (congrArg (fun m => m.2.2.2.1) b2).trans hl1
        have t5 : M_thingsNow y2 = M_thingsNow y := (congrArg (fun m => m.2.2.2.2.1) b2).trans (congrArg (fun m => m.2.2.2.2.1) b1)
        have t6 : M_loose y2 = M_loose y := (congrArg (fun m => m.2.2.2.2.2.1) b2).trans (congrArg (fun m => m.2.2.2.2.2.1) b1)
        have t7 : M_through y2 = M_through y := (congrArg (fun m => m.2.2.2.2.2.2) b2).trans (congrArg (fun m => m.2.2.2.2.2.2) b1)
        obtain ⟨w', k1, k2⟩ := hk y2 ⟨(a2.trans a1).trans hy, Mc_now (a2.trans a1) hMy.1 ((tk_R b (i + 1)).trans (tk_R b i).symm) ((tk_T b (i + 1)).trans (tk_T b i).symm) ((tk_k b (i + 1)).trans (tk_k b i).symm) ((tk_sz b (i + 1)).trans (tk_sz b i).symm) ((tk_ch b (i + 1)).trans (tk_ch b i).symm) ((tk_wd b (i + 1)).trans (tk_wd b i).symm) ((tk_sg b (i + 1)).trans (tk_sg b i).symm) ((tk_sr b (i + 1)).trans (tk_sr b i).symm) (fun r s hr hs => by rw [t5, tk_th]; exact (gt_th hMy.1 hr hs).trans (by rw [tk_th])) (fun g k _ _ _ => by unfold lkf; rw [tk_lk, tk_lk]) (fun g hg hig => by
            rw [t1, t2, t3, t4]
            have q := gt_now hMy.1 hg hig
            simp only [tk_pl, tk_bs, tk_mt, tk_lf] at q ⊢
            by_cases cg : g = i
            · subst cg
              rw [pk_us, pk_us]
              simp only [Nat.lt_succ_self, true_and, c, if_true] at q ⊢
              refine ⟨q.1, fun h => ?_⟩
              by_cases c2 : a_lf b g ≤ 1
              · rw [if_pos c2] at h; omega
              · rw [if_neg c2]; exact p4 (Or.inl c)
            · have e1 : (g < i + 1) ↔ g < i := by omega
              rw [pk_un cg, pk_un cg]
              simp only [e1]; exact q), fun r q hr hq => by rw [t7]; exact hMy.2.1 r q hr hq, fun r q hr hq => by rw [t6]; exact hMy.2.2 r q hr hq⟩
        refine ⟨w', ?_, k2⟩
        unfold X9_pass_J164
        rw [if_pos (show nI (a_bs b i) = (1 : Int32) by rw [c]; rfl), chk_nI hi (by decide), chk_nI hi (by decide), p3, show nI (a_lf b i) - (1 : Int32) = nI (a_lf b i - 1) from pk_sub (b := 1) (by omega), ltA_eq, ← ey1, chk_nI hi (by decide), hl1, pk_us]
        by_cases c2 : a_lf b i ≤ 1
        · rw [if_pos c2] at ey2
          rw [if_pos (show nI (a_lf b i - 1) = 0 by rw [show a_lf b i - 1 = 0 by omega]; rfl), chk_nI hi (by decide), nI_clamp (by omega), ltA_eq, show M_set_busyNow y1 (upd (M_busyNow y1) i 0) = y2 from ey2.symm]
          unfold X9_pass_J165
          rw [nI_1]; exact k1
        · rw [if_neg c2] at ey2
          rw [if_neg (show ¬ nI (a_lf b i - 1) = 0 from fun h => by have := (nI_eq (by omega) (b := 0) (by decide)).mp h; omega), chk_nI hi (by decide), nI_clamp (by omega), ltA_eq, show M_set_busyNow y1 (upd (M_busyNow y1) i 1) = y2 from ey2.symm]
          unfold X9_pass_J165
          rw [nI_1]; exact k1
      · rw [if_neg (show ¬ nI (a_bs b i) = (1 : Int32) from fun h => c ((nI_eq (by omega) (b := 1) (by decide)).mp h))]
        exact hk y ⟨hy, skip (fun _ => c)⟩
end
/-! 79.passall -/
section
theorem pass_spec {w : MS} {b : AS} {lo : Nat → Nat → Bool} (hI : Inv b) (hL : LoOk b lo) (hM : Mx0 w b lo) : ∃ w' gn', f_X9_pass w = some (nI (wentA lo b), w') ∧ mkeep w' = mkeep w ∧ Mx w' (minA lo b) gn' lo := by
  obtain ⟨N, hN, hFU⟩ := FU_ex
  obtain ⟨w0, s1, s2, s3⟩ := Mx_shut hM
  unfold f_X9_pass
  rw [s1, Option.bind_some, hFU]
  refine it_rule (bot := fun _ _ _ => none) 8 (fun i (y : MS) => mkeep y = mkeep w ∧ Mx y (mvA lo b i).1 (mvA lo b i).2.1 lo) (fun k i y => ∃ w' gn', k y (nI (mvA lo b i).2.2) (nI i) = some (nI (wentA lo b), w') ∧ mkeep w' = mkeep w ∧ Mx w' (minA lo b) gn' lo) ?_ ?_ N 0 w0 (by omega) (by omega) ⟨s2, s3⟩
  · intro k y ⟨hy, hMy⟩
    obtain ⟨w', e1, e2, e3⟩ := pass_in (n := (mvA lo b 8).2.2) (Kp_mv hI lo 8 (Nat.le_refl _)).1 hMy
    refine ⟨w', _, ?_, e2.trans hy, e3⟩
    unfold X9_pass_B8
    rw [if_pos (by decide)]; exact e1
  · intro k i y hi ⟨hy, hMy⟩ hk
    have hK := Kp_mv hI lo i (by omega)
    have hk' := hk
    rw [mvA_s] at hk'
    unfold stp at hk'
    generalize hs : mvA lo b i = s at *
    obtain ⟨c, gn, n⟩ := s
    have hMy : Mx y c gn lo := hMy
    have hIc : Inv c := hK.1
    have hL' : LoOk c lo := hL.to hK.2.2.2.1
    have hgn : ∀ r q, r < 6 → q < 6 → gn r q < 1000 := fun r q _ _ => by have := hK.2.1 r q; simp only at this; omega
    have hbs := bs_lt hIc hi
    have hT := hIc.1.2.2.1
    have hR6 := hIc.1.2.1
    have et : M_there y = nI (a_T c) := hMy.1.2.1
    show ∃ w' gn', X9_pass_B8 k y (nI n) (nI i) = _ ∧ _
    unfold X9_pass_B8 X9_pass_J100
    rw [if_neg (show ¬ (8 : Int32) ≤ nI i from nlit (by decide) hi), et, has_b hT hi, Option.bind_some, nI_1]
    cases e : (a_T c).testBit i
    · have e' : a_is c i = false := e
      rw [if_pos (by decide)]
      rw [if_neg (fun h => by have h := h.1.1; simp only at h; rw [e'] at h; cases h)] at hk'
      exact hk' y ⟨hy, hMy⟩
    · have e' : a_is c i = true := e
      obtain ⟨p1, p2, p3, p4⟩ := gt_now hMy.1 hi e'
      have hpl := (hIc.2.2.2.2.2.1 i hi e').1
      rw [if_neg (by decide), chk_nI hi (by decide), nI_clamp (by omega), p2]
      by_cases cb : a_bs c i = 0
      · have hgo : f_X9_goal y (nI i) (-6) 0 = some (nI (toA c gn lo i)) := goal_none hIc hL' hgn hMy hi e'
        rw [if_pos (show nI (a_bs c i) = 0 by rw [cb]; rfl), chk_nI hi (by decide), hgo, Option.bind_some, p1]
        simp only at hk'
        generalize hto : toA c gn lo i = t at hk'
        by_cases c2 : t = a_pl c i
        · rw [if_neg (fun h => h.2 c2)] at hk'
          rw [if_pos (by rw [c2])]
          exact hk' y ⟨hy, hMy⟩
        · have hok := toA_ok (b := c) (gn := gn) (lo := lo) (g := i) (by rw [hto]; exact c2)
          rw [hto] at hok
          rw [if_pos ⟨⟨e', cb⟩, c2⟩] at hk'
          obtain ⟨y1, ey1⟩ : ∃ x, x = M_set_through y (upd (M_through y) (6 * a_pl c i + t) (M_through y (6 * a_pl c i + t) + 1)) := ⟨_, rfl⟩
          obtain ⟨a1, b1⟩ := set_through ey1
          obtain ⟨y2, ey2⟩ : ∃ x, x = M_set_through y1 (upd (M_through y1) (6 * t + a_pl c i) (M_through y1 (6 * t + a_pl c i) + 1)) := ⟨_, rfl⟩
          obtain ⟨a2, b2⟩ := set_through ey2
          obtain ⟨y3, ey3⟩ : ∃ x, x = M_set_at y2 (upd (M_at y2) i (nI t)) := ⟨_, rfl⟩
          obtain ⟨a3, b3⟩ := set_at ey3
          have kk := (a3.trans a2).trans a1
          have r1 : M_through y1 = upd (M_through y) (6 * a_pl c i + t) (M_through y (6 * a_pl c i + t) + 1) := congrArg (fun m => m.2.2.2.2.2.2) b1
          have r2 : M_through y2 = upd (M_through y1) (6 * t + a_pl c i) (M_through y1 (6 * t + a_pl c i) + 1) := congrArg (fun m => m.2.2.2.2.2.2) b2
          have r3 : M_through y3 = M_through y2 := congrArg (fun m => m.2.2.2.2.2.2) b3
          have u1 : M_at y2 = M_at y := (congrArg (fun m => m.1) b2).trans (congrArg (fun m => m.1) b1)
          have u2 : M_at y3 = upd (M_at y) i (nI t) := by rw [← u1]; exact congrArg (fun m => m.1) b3
          have u3 : M_busyNow y3 = M_busyNow y := ((congrArg (fun m => m.2.1) b3).trans (congrArg (fun m => m.2.1) b2)).trans (congrArg (fun m => m.2.1) b1)
          have u4 : M_withNow y3 = M_withNow y := ((congrArg (fun m => m.2.2.1) b3).trans (congrArg (fun m => m.2.2.1) b2)).trans (congrArg (fun m => m.2.2.1) b1)
          have u5 : M_leftNow y3 = M_leftNow y := ((congrArg (fun m => m.2.2.2.1) b3).trans (congrArg (fun m => m.2.2.2.1) b2)).trans (congrArg (fun m => m.2.2.2.1) b1)
          have u6 : M_thingsNow y3 = M_thingsNow y := ((congrArg (fun m => m.2.2.2.2.1) b3).trans (congrArg (fun m => m.2.2.2.2.1) b2)).trans (congrArg (fun m => m.2.2.2.2.1) b1)
          have u7 : M_loose y3 = M_loose y := ((congrArg (fun m => m.2.2.2.2.2.1) b3).trans (congrArg (fun m => m.2.2.2.2.2.1) b2)).trans (congrArg (fun m => m.2.2.2.2.2.1) b1)
          obtain ⟨w', gn', k1, k2⟩ := hk' y3 ⟨kk.trans hy, Mc_now kk hMy.1 rfl rfl rfl rfl rfl rfl rfl rfl (fun r s hr hs => by rw [u6]; exact gt_th hMy.1 hr hs) (fun _ _ _ _ _ => rfl) (fun g hg hig => by
              rw [u2, u3, u4, u5]
              simp only [sp_pl, sp_bs, sp_mt, sp_lf]
              obtain ⟨q1, q2, q3, q4⟩ := gt_now hMy.1 hg hig
              refine ⟨?_, q2, q3, q4⟩
              by_cases cg : g = i
              · rw [if_pos cg, cg, pk_us]
              · rw [if_neg cg, pk_un cg]; exact q1), fun r q hr hq => by
              rw [r3, r2, r1, pk_un (show 6 * t + a_pl c i ≠ 6 * a_pl c i + t by omega)]
              show _ = nI (incG gn (a_pl c i) t r q)
              unfold incG
              by_cases q1 : r = t ∧ q = a_pl c i
              · rw [if_pos (Or.inr q1), q1.1, q1.2, pk_us, hMy.2.1 _ _ (by omega) (by omega), nI_1]
              · rw [pk_un (by omega)]
                by_cases q2 : r = a_pl c i ∧ q = t
                · rw [if_pos (Or.inl q2), q2.1, q2.2, pk_us, hMy.2.1 _ _ (by omega) (by omega), nI_1]
                · rw [pk_un (by omega), if_neg (by omega), hMy.2.1 r q hr hq]; rfl, fun r q hr hq => by rw [u7]; exact hMy.2.2 r q hr hq⟩
          refine ⟨w', gn', ?_, k2⟩
          rw [if_neg (fun h => c2 ((nI_eq (by omega) (by omega)).mp h)), ix6', ix6', chk_nI (by omega) (by decide), chk_nI (by omega) (by decide), nI_clamp (by omega), nI_clamp (by omega), ltA_eq, ← ey1, chk_nI (by omega) (by decide), chk_nI (by omega) (by decide), ltA_eq, ← ey2, chk_nI hi (by decide), ltA_eq, ← ey3, nI_1]
          exact k1
      · rw [if_neg (show ¬ nI (a_bs c i) = 0 from fun h => cb ((nI_eq (by omega) (b := 0) (by decide)).mp h))]
        rw [if_neg (fun h => cb h.1.2)] at hk'
        exact hk' y ⟨hy, hMy⟩
end
/-! 80.begin -/
section
/-! the class makes ready -/
def lo0 : Nat → Nat → Bool := fun _ _ => false
theorem Lo0 (b : AS) : LoOk b lo0 := fun _ _ _ _ h => by cases h
theorem tastes_in {d : DS} {b : AS} (hI : Inv b) (hH : Hc (D_house d) b) {g : Nat} (hg : g < 8) : ∃ f, f_X0_readyTastes d (nI g) = some (D_set_taste d f) ∧ (∀ r, r < a_R b → f (g * 6 + r) = pt (lkf b g) b r 4) ∧ ∀ j r, j ≠ g → r < 6 → f (j * 6 + r) = D_taste d (j * 6 + r) := by
  obtain ⟨N, hN, hFU⟩ := FU_ex
  have hR6 := hI.1.2.1
  unfold f_X0_readyTastes
  rw [hFU]
  have key := it_rule (B := X0_readyTastes_B2) (bot := fun _ _ _ => none) (a_R b) (fun i (f : Nat → Int32) => (∀ r, r < i → f (g * 6 + r) = pt (lkf b g) b r 4) ∧ ∀ j r, j ≠ g → r < 6 → f (j * 6 + r) = D_taste d (j * 6 + r)) (fun k i f => ∃ f', k (D_set_taste d f) (nI g) (nI i) = some (D_set_taste d f') ∧ (∀ r, r < a_R b → f' (g * 6 + r) = pt (lkf b g) b r 4) ∧ ∀ j r, j ≠ g → r < 6 → f' (j * 6 + r) = D_taste d (j * 6 + r)) (by
      intro k f hf
      refine ⟨f, ?_, hf⟩
      unfold X0_readyTastes_B2
      show (if H_rooms (D_house d) ≤ nI (a_R b) then _ else _) = _
      rw [hH.1, if_pos (Int32.le_refl _)]) (by
      intro k i f hi ⟨f1, f2⟩ hk
      obtain ⟨f', k1, k2⟩ := hk (upd f (g * 6 + i) (pt (lkf b g) b i 4)) ⟨fun r hr => by
        by_cases c : r = i
        · subst c; exact pk_us
        · rw [pk_un (by omega)]; exact f1 r (by omega), fun j r hj hr => by rw [pk_un (by omega)]; exact f2 j r hj hr⟩
      refine ⟨f', ?_, k2⟩
      unfold X0_readyTastes_B2
      show (if H_rooms (D_house d) ≤ nI i then _ else (f_X1_pullOfThings (D_house d) (nI g) (nI i)).bind _) = _
      rw [hH.1, if_neg (nI_ge hi (by omega)), things_spec hH hg (by omega), Option.bind_some, ix6, chk_nI (by omega) (by decide), nI_clamp (by omega), ltA_eq, nI_1]
      exact k1) N 0 (D_taste d) (by omega) (by omega) ⟨fun r hr => absurd hr (Nat.not_lt_zero _), fun _ _ _ _ => rfl⟩
  exact key
theorem jam_in {d : DS} {b : AS} (hI : Inv b) (hH : Hc (D_house d) b) {g : Nat} (hg : g < 8) (hi : a_is b g = true) : ∃ f, f_X0_readyJam d (nI g) = some (D_set_wide d f) ∧ ∀ r q, r < 6 → q < 6 → f (r * 6 + q) = D_wide d (r * 6 + q) - nI (if stn b r q g then 1 else 0) := by
  have hbs := bs_lt hI hg
  obtain ⟨p1, p2, p3, p4⟩ := hH.2.2.2.2.2.1 g hg
  have hpl := (hI.2.2.2.2.2.1 g hg hi).1
  have hR6 := hI.1.2.1
  unfold f_X0_readyJam
  rw [chk_nI hg (by decide), chk_nI hg (by decide), chk_nI hg (by decide), nI_clamp (by omega), p1, p2, p3]
  by_cases c : a_bs b g = 3
  · obtain ⟨-, t, t1, t2, t3, t4⟩ := hI.2.2.2.2.2.2.2.2.1 g hg c
    have er : f_X1_isRoom (D_house d) (nI t) = some 1 := by
      unfold f_X1_isRoom; rw [if_neg (nI_pos (by omega)), hH.1, if_neg (nI_ge t1 (by omega))]
    rw [if_pos (show nI (a_bs b g) = (3 : Int32) by rw [c]; rfl), t3, oI_nat, er, Option.bind_some, if_neg (by decide), ix6, ix6, chk_nI (by omega) (by decide), chk_nI (by omega) (by decide), nI_clamp (by omega), nI_clamp (by omega), ltA_eq, chk_nI (by omega) (by decide), chk_nI (by omega) (by decide), ltA_eq]
    refine ⟨_, rfl, fun r q hr hq => ?_⟩
    have es : stn b r q g = decide ((r = a_pl b g ∧ q = t) ∨ (r = t ∧ q = a_pl b g)) := by
      unfold stn; rw [c, t3]
      have e1 : ((t : Int) == (q : Int)) = decide (t = q) := by rw [Bool.eq_iff_iff, beq_iff_eq, decide_eq_true_eq]; omega
      have e2 : ((t : Int) == (r : Int)) = decide (t = r) := by rw [Bool.eq_iff_iff, beq_iff_eq, decide_eq_true_eq]; omega
      rw [e1, e2, Bool.eq_iff_iff]
      simp only [Bool.and_eq_true, Bool.or_eq_true, beq_iff_eq, decide_eq_true_eq, true_and]
      constructor
      · rintro (⟨h1, h2⟩ | ⟨h1, h2⟩)
        · exact Or.inl ⟨h1.symm, h2.symm⟩
        · exact Or.inr ⟨h2.symm, h1.symm⟩
      · rintro (⟨h1, h2⟩ | ⟨h1, h2⟩)
        · exact Or.inl ⟨h1.symm, h2.symm⟩
        · exact Or.inr ⟨h2.symm, h1.symm⟩
    rw [es, pk_un (show t * 6 + a_pl b g ≠ a_pl b g * 6 + t by omega)]
    by_cases q1 : r = t ∧ q = a_pl b g
    · rw [q1.1, q1.2, pk_us]; simp; rfl
    · rw [pk_un (by omega)]
      by_cases q2 : r = a_pl b g ∧ q = t
      · rw [q2.1, q2.2, pk_us]; simp; rfl
      · rw [pk_un (by omega)]; simp [q1, q2]; exact (Int32.sub_zero _).symm
  · rw [if_neg (show ¬ nI (a_bs b g) = (3 : Int32) from fun h => c ((nI_eq (by omega) (b := 3) (by decide)).mp h))]
    refine ⟨D_wide d, rfl, fun r q hr hq => ?_⟩
    have es : stn b r q g = false := by unfold stn; simp [c]
    rw [es]; exact (Int32.sub_zero _).symm
theorem ready_spec {d : DS} {b : AS} (hI : Inv b) (hH : Hc (D_house d) b) : ∃ d', f_X0_ready d = some d' ∧ Dx d' b (fun _ _ => 0) lo0 := by
  obtain ⟨N, hN, hFU⟩ := FU_ex
  have hR6 := hI.1.2.1
  unfold f_X0_ready
  rw [hFU, ltA_eq, ltA_eq, ltA_eq]
  refine it_rule (bot := fun _ _ => none) 8 (fun i (s : DS) => D_house s = D_house d ∧ (∀ r, r < 6 → D_crowd s r = nI (cnt (fun j => a_is b j && a_pl b j == r) i)) ∧ (∀ g r, g < i → a_is b g = true → r < a_R b → D_taste s (g * 6 + r) = pt (lkf b g) b r 4) ∧ (∀ r q, r < 6 → q < 6 → D_wide s (r * 6 + q) = nI (a_wd b r q) - nI (cnt (stn b r q) i)) ∧ ∀ r q, r < 6 → q < 6 → D_gone s (r * 6 + q) = 0) (fun k i s => ∃ d', k s (nI i) = some d' ∧ Dx d' b (fun _ _ => 0) lo0) ?_ ?_ N 0 (D_set_wide (D_set_crowd (D_set_gone d (fillA 36 (0 : Int32) (D_gone d))) (fillA 6 (0 : Int32) (D_crowd d))) (va_cpy (H_width (D_house d)) (D_wide d) ((0 : Int32)).toNatClampNeg ((0 : Int32)).toNatClampNeg ((36 : Int32)).toNatClampNeg)) (by omega) (by omega) ⟨rfl, fun r hr => fill_at hr, fun g r hg => absurd hg (Nat.not_lt_zero _), fun r q hr hq => ?_, fun r q hr hq => fill_at (by omega)⟩
  · intro k s ⟨h1, h2, h3, h4, h5⟩
    refine ⟨s, by unfold X0_ready_B39; rw [if_pos (by decide)], by rw [h1]; exact hH, fun r hr => by rw [h2 r hr]; rfl, fun g r hg hi hr => h3 g r hg hi hr, fun r q hr hq => by rw [h4 r q hr hq]; rfl, h5⟩
  · intro k i s hi ⟨h1, h2, h3, h4, h5⟩ hk
    have hHs : Hc (D_house s) b := by rw [h1]; exact hH
    unfold X0_ready_B39 X0_ready_J84
    rw [if_neg (show ¬ (8 : Int32) ≤ nI i from nlit (by decide) hi), th_at hI hHs hi, Option.bind_some, nI_1]
    cases e : a_is b i
    · rw [if_pos (by decide)]
      refine hk s ⟨h1, fun r hr => ?_, fun g r hg hig hr => ?_, fun r q hr hq => ?_, h5⟩
      · rw [h2 r hr, cnt_s, e]; rfl
      · by_cases c : g = i
        · subst c; rw [e] at hig; cases hig
        · exact h3 g r (by omega) hig hr
      · have es : stn b r q i = false := by unfold stn; rw [(hI.2.2.2.2.1 i hi e).2.1]; rfl
        rw [h4 r q hr hq, cnt_s, es]; rfl
    · have hp : H_place (D_house s) i = nI (a_pl b i) := (hHs.2.2.2.2.2.1 i hi).1
      have hpl := (hI.2.2.2.2.2.1 i hi e).1
      rw [if_neg (by decide), chk_nI hi (by decide), nI_clamp (by omega), hp, chk_nI (show a_pl b i < 6 by omega) (by decide), chk_nI (show a_pl b i < 6 by omega) (by decide), nI_clamp (by omega), ltA_eq]
      obtain ⟨s1, es1⟩ : ∃ x, x = D_set_crowd s (upd (D_crowd s) (a_pl b i) (D_crowd s (a_pl b i) + 1)) := ⟨_, rfl⟩
      rw [← es1]
      have a1 : D_house s1 = D_house s := by rw [es1]; rfl
      have a2 : D_crowd s1 = upd (D_crowd s) (a_pl b i) (D_crowd s (a_pl b i) + 1) := by rw [es1]; rfl
      have a3 : D_taste s1 = D_taste s := by rw [es1]; rfl
      have a4 : D_wide s1 = D_wide s := by rw [es1]; rfl
      have a5 : D_gone s1 = D_gone s := by rw [es1]; rfl
      obtain ⟨f, t1, t2, t3⟩ := tastes_in hI (d := s1) (by rw [a1]; exact hHs) hi
      obtain ⟨f', j1, j2⟩ := jam_in hI (d := D_set_taste s1 f) (by show Hc (D_house s1) b; rw [a1]; exact hHs) hi e
      rw [t1, Option.bind_some, j1, Option.bind_some]
      refine hk _ ⟨?_, fun r hr => ?_, fun g r hg hig hr => ?_, fun r q hr hq => ?_, fun r q hr hq => ?_⟩
      · show D_house s1 = _; rw [a1]; exact h1
      · show D_crowd s1 r = _
        rw [a2, cnt_s, e]
        by_cases c : r = a_pl b i
        · rw [c, pk_us, h2 _ (by omega)]; simp; exact nI_1 _
        · rw [pk_un c, h2 r hr]; simp [show ¬ a_pl b i = r from fun h => c h.symm]
      · show f (g * 6 + r) = _
        by_cases c : g = i
        · rw [c]; exact t2 r hr
        · rw [t3 g r c (by omega), a3]; exact h3 g r (by omega) hig hr
      · show f' (r * 6 + q) = _
        rw [j2 r q hr hq]
        show D_wide s1 (r * 6 + q) - _ = _
        rw [a4, h4 r q hr hq, cnt_s, Int32.sub_sub, nI_add]
      · show D_gone s1 (r * 6 + q) = 0
        rw [a5]; exact h5 r q hr hq
  · show va_cpy (H_width (D_house d)) (D_wide d) 0 0 36 (r * 6 + q) = _
    rw [cpy_at (by omega), hH.2.2.2.2.1 r q hr hq, cnt_0]; exact (Int32.sub_zero _).symm
theorem begin_spec {d : DS} {h : HS} {b : AS} (hI : Inv b) (hH : Hc h b) : ∃ d', f_X0_begin d h = some d' ∧ Dx d' b (fun _ _ => 0) lo0 := by
  obtain ⟨y, e1, e2⟩ := copy_Hc (h := D_house d) hI.1.2.2.2 hH
  obtain ⟨d', e3, e4⟩ := ready_spec (d := D_set_house d y) hI e2
  refine ⟨d', ?_, e4⟩
  unfold f_X0_begin
  rw [e1, Option.bind_some, e3, Option.bind_some]
/-- the reference begins with what is -/
theorem asNow_Mx {z : MS} {a : AS} (hM : Mc (mcore z) a) : ∃ w, f_X9_asNow z = some w ∧ mkeep w = mkeep z ∧ Mx0 w a lo0 := by
  obtain ⟨w, e1, e2, e3⟩ := asNow_spec z
  refine ⟨w, e1, e2.1, asNow_Mc hM e2, fun r t hr ht => ?_⟩
  rw [e3]
  refine ⟨fun h => ?_, fun h => by cases h⟩
  rcases h with h | h
  · exact absurd h.symm (fun q => by have := nI_pos (n := 6 * r + t) (by omega); rw [q] at this; exact this (by decide))
  · exact absurd h.symm (fun q => by have := nI_pos (n := 6 * t + r) (by omega); rw [q] at this; exact this (by decide))
end
/-! 81.simple -/
section
/-! what is told of minutes to come -/
/-- m minutes later -/
def minN (lo : Nat → Nat → Bool) (b : AS) : Nat → AS
  | 0 => b
  | m + 1 => minA lo (minN lo b m)
theorem minN_s (lo : Nat → Nat → Bool) (b : AS) (m : Nat) : minN lo b (m + 1) = minA lo (minN lo b m) := rfl
theorem Inv_minN {b : AS} (hI : Inv b) (lo : Nat → Nat → Bool) : ∀ m, Inv (minN lo b m)
  | 0 => hI
  | m + 1 => Inv_min (Inv_minN hI lo m) lo
theorem Lo_minN {b : AS} (hI : Inv b) {lo : Nat → Nat → Bool} (h : LoOk b lo) : ∀ m, LoOk (minN lo b m) lo
  | 0 => h
  | m + 1 => Lo_min (Inv_minN hI lo m) (Lo_minN hI h m)
/-- what a minute leaves as it is -/
theorem min_keep {b : AS} (hI : Inv b) (lo : Nat → Nat → Bool) : a_R (minA lo b) = a_R b ∧ a_T (minA lo b) = a_T b ∧ a_sz (minA lo b) = a_sz b ∧ a_th (minA lo b) = a_th b ∧ a_wd (minA lo b) = a_wd b := by
  obtain ⟨-, -, -, k4, k5, k6, k7, k8, -⟩ := Kp_mv hI lo 8 (Nat.le_refl _)
  exact ⟨k5, k6, k7, k8, k4⟩
theorem minN_keep {b : AS} (hI : Inv b) (lo : Nat → Nat → Bool) : ∀ m, a_R (minN lo b m) = a_R b ∧ a_T (minN lo b m) = a_T b ∧ a_sz (minN lo b m) = a_sz b
  | 0 => ⟨rfl, rfl, rfl⟩
  | m + 1 => by
    obtain ⟨h1, h2, h3⟩ := minN_keep hI lo m
    obtain ⟨g1, g2, g3, -⟩ := min_keep (Inv_minN hI lo m) lo
    exact ⟨g1.trans h1, g2.trans h2, g3.trans h3⟩
theorem goMin_spec {w : MS} {b : AS} {lo : Nat → Nat → Bool} (hI : Inv b) (hL : LoOk b lo) (hM : Mx0 w b lo) {m : Nat} (hm : m < 1000) : ∃ w', f_X9_goMinutes w (nI m) = some w' ∧ mkeep w' = mkeep w ∧ Mx0 w' (minN lo b m) lo := by
  obtain ⟨N, hN, hFU⟩ := FU_ex
  unfold f_X9_goMinutes
  rw [hFU]
  refine it_rule (bot := fun _ _ _ => none) m (fun i (y : MS) => mkeep y = mkeep w ∧ Mx0 y (minN lo b i) lo) (fun k i y => ∃ w', k y (nI m) (nI i) = some w' ∧ mkeep w' = mkeep w ∧ Mx0 w' (minN lo b m) lo) ?_ ?_ N 0 w (by omega) (by omega) ⟨rfl, hM⟩
  · intro k y hy
    exact ⟨y, by unfold X9_goMinutes_B2; rw [if_pos (Int32.le_refl _)], hy⟩
  · intro k i y hi ⟨hy, hMy⟩ hk
    obtain ⟨w1, gn, e1, e2, e3⟩ := pass_spec (Inv_minN hI lo i) (Lo_minN hI hL i) hMy
    obtain ⟨w', k1, k2⟩ := hk w1 ⟨e2.trans hy, e3.to0⟩
    refine ⟨w', ?_, k2⟩
    unfold X9_goMinutes_B2
    rw [if_neg (nI_ge hi (by omega)), e1, Option.bind_some, nI_1]
    exact k1
/-- somebody talks -/
def anyT (b : AS) : Bool := (List.range 8).any (fun g => a_bs b g == 1)
theorem anyT_1 {b : AS} {g : Nat} (hg : g < 8) (h : a_bs b g = 1) : anyT b = true := List.any_eq_true.mpr ⟨g, List.mem_range.mpr hg, by simp [h]⟩
theorem anyT_0 {b : AS} (h : ∀ g, g < 8 → a_bs b g ≠ 1) : anyT b = false := List.any_eq_false.mpr (fun g hg => by simp [h g (List.mem_range.mp hg)])
theorem anyT_not {b : AS} (h : anyT b = false) {g : Nat} (hg : g < 8) : a_bs b g ≠ 1 := fun q => by rw [anyT_1 hg q] at h; cases h
theorem anyTalks_spec {h : HS} {b : AS} (hI : Inv b) (hH : Hc h b) : f_X1_anyTalks h = some (if anyT b then 1 else 0) := by
  obtain ⟨N, hN, hFU⟩ := FU_ex
  unfold f_X1_anyTalks
  rw [hFU]
  refine it_rule (bot := fun _ _ => none) 8 (fun i (_ : Unit) => ∀ g, g < i → a_bs b g ≠ 1) (fun k i _ => k h (nI i) = some (if anyT b then 1 else 0)) ?_ ?_ N 0 () (by omega) (by omega) (fun g hg => absurd hg (Nat.not_lt_zero _))
  · intro k _ hn
    unfold X1_anyTalks_B2
    rw [if_pos (by decide), anyT_0 hn]; rfl
  · intro k i _ hi hn hk
    have hbs := bs_lt hI hi
    unfold X1_anyTalks_B2
    rw [if_neg (show ¬ (8 : Int32) ≤ nI i from nlit (by decide) hi), chk_nI hi (by decide), nI_clamp (by omega), (hH.2.2.2.2.2.1 i hi).2.1, nI_1]
    by_cases c : a_bs b i = 1
    · rw [if_pos (show nI (a_bs b i) = (1 : Int32) by rw [c]; rfl), anyT_1 hi c]; rfl
    · rw [if_neg (show ¬ nI (a_bs b i) = (1 : Int32) from fun h => c ((nI_eq (by omega) (b := 1) (by decide)).mp h))]
      exact hk () (fun g hg => by
        by_cases q : g = i
        · rw [q]; exact c
        · exact hn g (by omega))
/-- nobody goes, nobody talks -/
def stil (lo : Nat → Nat → Bool) (b : AS) : Bool := wentA lo b == 0 && !anyT b
theorem stillMin_spec {d : DS} {b : AS} {gn : Nat → Nat → Nat} {lo : Nat → Nat → Bool} (hI : Inv b) (hL : LoOk b lo) (hD : Dx d b gn lo) : ∃ d' gn', f_X0_stillMinute d = some (if stil lo b then 1 else 0, d') ∧ Dx d' (minA lo b) gn' lo := by
  obtain ⟨d', gn', e1, e2⟩ := minute_spec hI hL hD
  have hw : wentA lo b ≤ 8 := (Kp_mv hI lo 8 (Nat.le_refl _)).2.2.1
  refine ⟨d', gn', ?_, e2⟩
  unfold f_X0_stillMinute stil
  rw [anyTalks_spec hI hD.1, Option.bind_some, e1, Option.bind_some]
  by_cases c : wentA lo b = 0
  · rw [if_pos (show nI (wentA lo b) = 0 by rw [c]; rfl), c]
    cases anyT b <;> rfl
  · rw [if_neg (show ¬ nI (wentA lo b) = 0 from fun h => c ((nI_eq (by omega) (b := 0) (by decide)).mp h))]
    simp [c]
/-- a still minute changes nothing at all -/
theorem mvA_0 {b : AS} {lo : Nat → Nat → Bool} : ∀ i, (mvA lo b i).2.2 = 0 → mvA lo b i = (b, (fun _ _ => 0), 0)
  | 0, _ => rfl
  | i + 1, h => by
    rw [mvA_s] at h ⊢
    unfold stp at h ⊢
    by_cases c : (a_is (mvA lo b i).1 i = true ∧ a_bs (mvA lo b i).1 i = 0) ∧ toA (mvA lo b i).1 (mvA lo b i).2.1 lo i ≠ a_pl (mvA lo b i).1 i
    · rw [if_pos c] at h; simp at h
    · rw [if_neg c] at h ⊢; exact mvA_0 i h
theorem stil_fix {lo : Nat → Nat → Bool} {b : AS} (h : stil lo b = true) : (∀ j, j < 8 → a_pl (minA lo b) j = a_pl b j ∧ a_bs (minA lo b) j = a_bs b j ∧ a_mt (minA lo b) j = a_mt b j ∧ a_lf (minA lo b) j = a_lf b j) := by
  unfold stil at h
  simp only [Bool.and_eq_true, beq_iff_eq, Bool.not_eq_true'] at h
  intro j hj
  have e := mvA_0 8 (show (mvA lo b 8).2.2 = 0 from h.1)
  unfold minA
  rw [e]
  simp only [tk_pl, tk_bs, tk_mt, tk_lf]
  have := anyT_not h.2 hj
  simp [this]
end
/-! 82.run -/
section
theorem tk_fix {b : AS} (h : ∀ j, j < 8 → a_bs b j ≠ 1) : tkI b 8 = b := by
  have e1 : (fun j => if j < 8 ∧ a_bs b j = 1 ∧ a_lf b j ≤ 1 then 0 else a_bs b j) = a_bs b := funext fun j => if_neg (fun q => h j q.1 q.2.1)
  have e2 : (fun j => if j < 8 ∧ a_bs b j = 1 ∧ a_lf b j ≤ 1 then -6 else a_mt b j) = a_mt b := funext fun j => if_neg (fun q => h j q.1 q.2.1)
  have e3 : (fun j => if j < 8 ∧ a_bs b j = 1 then a_lf b j - 1 else a_lf b j) = a_lf b := funext fun j => if_neg (fun q => h j q.1 q.2)
  unfold tkI
  rw [e1, e2, e3]
  rfl
theorem stil_min {lo : Nat → Nat → Bool} {b : AS} (h : stil lo b = true) : minA lo b = b := by
  unfold stil at h
  simp only [Bool.and_eq_true, beq_iff_eq, Bool.not_eq_true'] at h
  have e := mvA_0 8 (show (mvA lo b 8).2.2 = 0 from h.1)
  unfold minA
  rw [e]
  exact tk_fix (fun j hj => anyT_not h.2 hj)
theorem minN_fix {lo : Nat → Nat → Bool} {b : AS} {i : Nat} (h : minA lo (minN lo b i) = minN lo b i) : ∀ k, minN lo b (i + k) = minN lo b i
  | 0 => rfl
  | k + 1 => by rw [show i + (k + 1) = (i + k) + 1 by omega, minN_s, minN_fix h k, h]
theorem run_spec {d : DS} {b : AS} {gn : Nat → Nat → Nat} {lo : Nat → Nat → Bool} (hI : Inv b) (hL : LoOk b lo) (hD : Dx d b gn lo) {m : Nat} (hm : m < 1000) : ∃ d' gn', f_X0_run d (nI m) = some d' ∧ Dx d' (minN lo b m) gn' lo := by
  obtain ⟨N, hN, hFU⟩ := FU_ex
  unfold f_X0_run
  rw [hFU]
  refine it_rule (bot := fun _ _ _ => none) m (fun i (s : DS) => ∃ gn, Dx s (minN lo b i) gn lo) (fun k i s => ∃ d' gn', k s (nI m) (nI i) = some d' ∧ Dx d' (minN lo b m) gn' lo) ?_ ?_ N 0 d (by omega) (by omega) ⟨gn, hD⟩
  · intro k s ⟨gn, hs⟩
    exact ⟨s, gn, by unfold X0_run_B2; rw [if_pos (Int32.le_refl _)], hs⟩
  · intro k i s hi ⟨gn, hs⟩ hk
    obtain ⟨d1, gn1, e1, e2⟩ := stillMin_spec (Inv_minN hI lo i) (Lo_minN hI hL i) hs
    unfold X0_run_B2
    rw [if_neg (nI_ge hi (by omega)), e1, Option.bind_some, nI_1]
    cases c : stil lo (minN lo b i)
    · exact hk d1 ⟨gn1, e2⟩
    · refine ⟨d1, gn1, rfl, ?_⟩
      have q := stil_min c
      rw [q] at e2
      have := minN_fix q (m - i)
      rw [show i + (m - i) = m by omega] at this
      rw [this]; exact e2
/-- the fullest of the first n rooms -/
def mxA (b : AS) : Nat → Nat
  | 0 => 0
  | r + 1 => if mxA b r < a_in b r then a_in b r else mxA b r
theorem mxA_s (b : AS) (r : Nat) : mxA b (r + 1) = if mxA b r < a_in b r then a_in b r else mxA b r := rfl
theorem mxA_le (b : AS) : ∀ r, mxA b r ≤ 8
  | 0 => Nat.zero_le _
  | r + 1 => by
    rw [mxA_s]
    have h1 : a_in b r ≤ 8 := cnt_le _ 8
    have h2 := mxA_le b r
    split <;> omega
theorem cfull_spec {d : DS} {b : AS} {gn : Nat → Nat → Nat} {lo : Nat → Nat → Bool} (hI : Inv b) (hD : Dx d b gn lo) : f_X0_fullest d = some (nI (mxA b (a_R b))) := by
  obtain ⟨N, hN, hFU⟩ := FU_ex
  have hR6 := hI.1.2.1
  unfold f_X0_fullest
  rw [hFU]
  refine it_rule (bot := fun _ _ _ => none) (a_R b) (fun i (x : Int32) => x = nI (mxA b i)) (fun k i x => k d x (nI i) = some (nI (mxA b (a_R b)))) ?_ ?_ N 0 0 (by omega) (by omega) rfl
  · intro k x hx
    unfold X0_fullest_B4
    rw [hD.1.1, if_pos (Int32.le_refl _), hx]
  · intro k i x hi hx hk
    have h1 : a_in b i ≤ 8 := cnt_le _ 8
    have h2 := mxA_le b i
    unfold X0_fullest_B4
    rw [hD.1.1, if_neg (nI_ge hi (by omega)), chk_nI (show i < 6 by omega) (by decide), nI_clamp (by omega), hD.2.1 i (by omega), hx, nI_1]
    refine hk _ ?_
    rw [mxA_s]
    by_cases c : mxA b i < a_in b i
    · rw [if_pos (nI_lt c (by omega)), if_pos c]
    · rw [if_neg (nI_nlt (by omega) (by omega)), if_neg c]
theorem rfull_spec {w : MS} {b : AS} (hI : Inv b) (hM : Mc (mnow w) b) : f_X9_fullest w = some (nI (mxA b (a_R b))) := by
  obtain ⟨N, hN, hFU⟩ := FU_ex
  have hR6 := hI.1.2.1
  have er : M_rooms w = nI (a_R b) := hM.1
  unfold f_X9_fullest
  rw [hFU]
  refine it_rule (bot := fun _ _ _ => none) (a_R b) (fun i (x : Int32) => x = nI (mxA b i)) (fun k i x => k w x (nI i) = some (nI (mxA b (a_R b)))) ?_ ?_ N 0 0 (by omega) (by omega) rfl
  · intro k x hx
    unfold X9_fullest_B4
    rw [er, if_pos (Int32.le_refl _), hx]
  · intro k i x hi hx hk
    have h1 : a_in b i ≤ 8 := cnt_le _ 8
    have h2 := mxA_le b i
    unfold X9_fullest_B4 X9_fullest_J30
    rw [er, if_neg (nI_ge hi (by omega)), cin_all hI hM (by omega), Option.bind_some, hx, nI_1]
    by_cases c : mxA b i < a_in b i
    · rw [if_neg (nI_ge c (by omega))]
      exact hk _ (by rw [mxA_s, if_pos c])
    · rw [if_pos (nI_le (by omega) (by omega))]
      exact hk _ (by rw [mxA_s, if_neg c])
/-- the guests of a room, as bits, in the reference's present -/
theorem crowdIn_spec {w : MS} {b : AS} (hI : Inv b) (hM : Mc (mnow w) b) {r : Nat} (hr : r < 6) : f_X9_crowdIn w (nI r) = some (nI (msk (fun g => a_is b g && a_pl b g == r) 8)) := by
  obtain ⟨N, hN, hFU⟩ := FU_ex
  have hT := hI.1.2.2.1
  have et : M_there w = nI (a_T b) := hM.2.1
  unfold f_X9_crowdIn
  rw [hFU]
  refine it_rule (bot := fun _ _ _ _ => none) 8 (fun i (x : Int32) => x = nI (msk (fun g => a_is b g && a_pl b g == r) i)) (fun k i x => k w (nI r) x (nI i) = some (nI (msk (fun g => a_is b g && a_pl b g == r) 8))) ?_ ?_ N 0 0 (by omega) (by omega) rfl
  · intro k x hx
    unfold X9_crowdIn_B4
    rw [if_pos (by decide), hx]
  · intro k i x hi hx hk
    have k0 : (a_is b i && a_pl b i == r) = false → k w (nI r) (x ||| 0) (nI (i + 1)) = some (nI (msk (fun g => a_is b g && a_pl b g == r) 8)) := by
      intro h
      refine hk _ ?_
      rw [Int32.or_zero, hx]
      conv => rhs; unfold msk
      rw [h]; rfl
    unfold X9_crowdIn_B4 X9_crowdIn_J38 X9_crowdIn_J39
    rw [if_neg (show ¬ (8 : Int32) ≤ nI i from nlit (by decide) hi), et, has_b hT hi, Option.bind_some, nI_1]
    cases e : (a_T b).testBit i
    · have e' : a_is b i = false := e
      rw [if_pos (by decide)]; exact k0 (by rw [e']; rfl)
    · have e' : a_is b i = true := e
      have hpl := (hI.2.2.2.2.2.1 i hi e').1
      have hR6 := hI.1.2.1
      rw [if_neg (by decide), chk_nI hi (by decide), nI_clamp (by omega), (gt_now hM hi e').1]
      by_cases c : a_pl b i = r
      · rw [if_pos (by rw [c])]
        refine hk _ ?_
        rw [hx, or_bit hi (msk_lt _ i)]
        conv => rhs; unfold msk
        rw [e', c]; simp
      · rw [if_neg (fun h => c ((nI_eq (by omega) (by omega)).mp h))]; exact k0 (by rw [e']; simp [c])
theorem sim_goes : Sim_goes Rel := by
  intro S z x1 h
  obtain ⟨⟨a, hI, hH, hM⟩, h3⟩ := id h
  have hH : Hc (K_now S) a := hH
  have hM : Mc (mcore z) a := hM
  rcases th_cases hI hH hM x1 with ⟨g, hg, rfl, hg1, t1, t2⟩ | ⟨t1, t2⟩
  · obtain ⟨w, e1, e2, e3⟩ := asNow_Mx hM
    obtain ⟨w', s1, s2, s3⟩ := Mx_shut e3
    have hb := (hH.2.2.2.2.2.1 g hg).2.1
    have hb' : M_busyNow w' g = nI (a_bs a g) := (gt_now s3.1 hg hg1).2.1
    have hbs := bs_lt hI hg
    by_cases c : a_bs a g = 0
    · obtain ⟨d', b1, b2⟩ := begin_spec (d := K_drift S) hI hH
      refine ⟨(nI (toA a (fun _ _ => 0) lo0 g), d'), (nI (toA a (fun _ _ => 0) lo0 g), w'), ?_, ?_, rfl, h.to rfl (s2.trans e2)⟩
      · unfold f_X8_goes
        rw [t1, Option.bind_some, if_neg (show ¬ (1 : Int32) = 0 by decide), chk_nI hg (by decide), nI_clamp (by omega), hb, if_pos (show nI (a_bs a g) = 0 by rw [c]; rfl), b1, Option.bind_some, target_spec hI (Lo0 a) (fun _ _ _ _ => by decide) b2 hg hg1, Option.bind_some]
        rfl
      · unfold f_X9_goes f_X9_isBusy
        rw [t2, Option.bind_some, if_neg (show ¬ (1 : Int32) = 0 by decide), e1, Option.bind_some, s1, Option.bind_some, chk_nI hg (by decide), nI_clamp (by omega), hb', if_pos (show nI (a_bs a g) ≤ 0 by rw [c]; decide), Option.bind_some, if_pos rfl, goal_none hI (Lo0 a) (fun _ _ _ _ => by decide) s3 hg hg1, Option.bind_some]
        rfl
    · refine ⟨(-3, K_drift S), (-3, w'), ?_, ?_, rfl, h.to rfl (s2.trans e2)⟩
      · unfold f_X8_goes
        rw [t1, Option.bind_some, if_neg (show ¬ (1 : Int32) = 0 by decide), chk_nI hg (by decide), nI_clamp (by omega), hb, if_neg (show ¬ nI (a_bs a g) = 0 from fun h => c ((nI_eq (by omega) (b := 0) (by decide)).mp h))]
      · unfold f_X9_goes f_X9_isBusy
        rw [t2, Option.bind_some, if_neg (show ¬ (1 : Int32) = 0 by decide), e1, Option.bind_some, s1, Option.bind_some, chk_nI hg (by decide), nI_clamp (by omega), hb', if_neg (show ¬ nI (a_bs a g) ≤ 0 from nI_ge (a := 0) (by omega) (by omega)), Option.bind_some, if_neg (show ¬ (1 : Int32) = 0 by decide)]
  · refine ⟨(-1, K_drift S), (-1, z), ?_, ?_, rfl, h⟩
    · unfold f_X8_goes; rw [t1, Option.bind_some, if_pos rfl]
    · unfold f_X9_goes; rw [t2, Option.bind_some, if_pos rfl]
theorem sim_after : Sim_after Rel := by
  intro S z x1 x2 h
  obtain ⟨⟨a, hI, hH, hM⟩, h3⟩ := id h
  have hH : Hc (K_now S) a := hH
  have hM : Mc (mcore z) a := hM
  rcases th_cases hI hH hM x1 with ⟨g, hg, rfl, hg1, t1, t2⟩ | ⟨t1, t2⟩
  · rcases num_cases x2 (n := 100) (by decide) with ⟨m, hm, rfl⟩ | hx
    · obtain ⟨w, e1, e2, e3⟩ := asNow_Mx hM
      obtain ⟨w', s1, s2, s3⟩ := goMin_spec hI (Lo0 a) e3 (m := m) (by omega)
      obtain ⟨d', b1, b2⟩ := begin_spec (d := K_drift S) hI hH
      obtain ⟨d2, gn, c1, c2⟩ := run_spec hI (Lo0 a) b2 (m := m) (by omega)
      have hg2 : a_is (minN lo0 a m) g = true := by unfold a_is; rw [(minN_keep hI lo0 m).2.1]; exact hg1
      refine ⟨(nI (a_pl (minN lo0 a m) g), d2), (nI (a_pl (minN lo0 a m) g), w'), ?_, ?_, rfl, h.to rfl (s2.trans e2)⟩
      · unfold f_X8_after
        rw [t1, Option.bind_some, if_neg (show ¬ (1 : Int32) = 0 by decide), if_neg (nI_pos (by omega)), if_pos (show nI m ≤ (99 : Int32) from nI_le (b := 99) (by omega) (by decide)), b1, Option.bind_some, c1, Option.bind_some, chk_nI hg (by decide), nI_clamp (by omega), (c2.1.2.2.2.2.2.1 g hg).1]
      · unfold f_X9_after
        rw [t2, Option.bind_some, if_neg (show ¬ (1 : Int32) = 0 by decide), show f_X9_in (nI m) 0 99 = some 1 from in_nI (n := 100) hm (by decide), Option.bind_some, if_neg (show ¬ (1 : Int32) = 0 by decide), e1, Option.bind_some, s1, Option.bind_some, chk_nI hg (by decide), nI_clamp (by omega), (gt_now s3.1 hg hg2).1]
    · refine ⟨(-2, K_drift S), (-2, z), ?_, ?_, rfl, h⟩
      · unfold f_X8_after
        rw [t1, Option.bind_some, if_neg (show ¬ (1 : Int32) = 0 by decide)]
        by_cases c : x2 < 0
        · rw [if_pos c]
        · rw [if_neg c, if_neg (show ¬ x2 ≤ (99 : Int32) from fun q => absurd (hx.resolve_left c) (Int32.not_le.mpr (Int32.lt_of_le_of_lt q (by decide))))]
      · unfold f_X9_after
        rw [t2, Option.bind_some, if_neg (show ¬ (1 : Int32) = 0 by decide), show f_X9_in x2 0 99 = some 0 from in_no (n := 100) (by decide) (by decide) hx, Option.bind_some, if_pos rfl]
  · refine ⟨(-1, K_drift S), (-1, z), ?_, ?_, rfl, h⟩
    · unfold f_X8_after; rw [t1, Option.bind_some, if_pos rfl]
    · unfold f_X9_after; rw [t2, Option.bind_some, if_pos rfl]
theorem sim_crowd : Sim_crowd Rel := by
  intro S z x1 x2 h
  obtain ⟨⟨a, hI, hH, hM⟩, h3⟩ := id h
  have hH : Hc (K_now S) a := hH
  have hM : Mc (mcore z) a := hM
  have hR6 := hI.1.2.1
  rcases rm_cases hI hH hM x1 with ⟨r, hr, rfl, t1, t2⟩ | ⟨-, t1, t2⟩
  · rcases num_cases x2 (n := 100) (by decide) with ⟨m, hm, rfl⟩ | hx
    · obtain ⟨w, e1, e2, e3⟩ := asNow_Mx hM
      obtain ⟨w', s1, s2, s3⟩ := goMin_spec hI (Lo0 a) e3 (m := m) (by omega)
      obtain ⟨d', b1, b2⟩ := begin_spec (d := K_drift S) hI hH
      obtain ⟨d2, gn, c1, c2⟩ := run_spec hI (Lo0 a) b2 (m := m) (by omega)
      have hIm := Inv_minN hI lo0 m
      refine ⟨(nI (msk (fun g => a_is (minN lo0 a m) g && a_pl (minN lo0 a m) g == r) 8), d2), (nI (msk (fun g => a_is (minN lo0 a m) g && a_pl (minN lo0 a m) g == r) 8), w'), ?_, ?_, rfl, h.to rfl (s2.trans e2)⟩
      · unfold f_X8_crowd
        rw [t1, Option.bind_some, if_neg (show ¬ (1 : Int32) = 0 by decide), if_neg (nI_pos (by omega)), if_pos (show nI m ≤ (99 : Int32) from nI_le (b := 99) (by omega) (by decide)), b1, Option.bind_some, c1, Option.bind_some, bitsIn_spec hIm c2.1 (by omega), Option.bind_some]
      · unfold f_X9_crowd
        rw [t2, Option.bind_some, if_neg (show ¬ (1 : Int32) = 0 by decide), show f_X9_in (nI m) 0 99 = some 1 from in_nI (n := 100) hm (by decide), Option.bind_some, if_neg (show ¬ (1 : Int32) = 0 by decide), e1, Option.bind_some, s1, Option.bind_some, crowdIn_spec hIm s3.1 (by omega), Option.bind_some]
    · refine ⟨(-2, K_drift S), (-2, z), ?_, ?_, rfl, h⟩
      · unfold f_X8_crowd
        rw [t1, Option.bind_some, if_neg (show ¬ (1 : Int32) = 0 by decide)]
        by_cases c : x2 < 0
        · rw [if_pos c]
        · rw [if_neg c, if_neg (show ¬ x2 ≤ (99 : Int32) from fun q => absurd (hx.resolve_left c) (Int32.not_le.mpr (Int32.lt_of_le_of_lt q (by decide))))]
      · unfold f_X9_crowd
        rw [t2, Option.bind_some, if_neg (show ¬ (1 : Int32) = 0 by decide), show f_X9_in x2 0 99 = some 0 from in_no (n := 100) (by decide) (by decide) hx, Option.bind_some, if_pos rfl]
  · refine ⟨(-1, K_drift S), (-1, z), ?_, ?_, rfl, h⟩
    · unfold f_X8_crowd; rw [t1, Option.bind_some, if_pos rfl]
    · unfold f_X9_crowd; rw [t2, Option.bind_some, if_pos rfl]
end
