/-! a minute -/
def setPl (a : AS) (g p : Nat) : AS := (a_R a, a_T a, a_k a, a_th a, a_sz a, a_ch a, a_wd a, a_lk a, (fun j => if j = g then p else a_pl a j), a_bs a, a_mt a, a_lf a, a_sg a, a_sr a)
theorem sp_R (a : AS) (g p : Nat) : a_R (setPl a g p) = a_R a := rfl
theorem sp_T (a : AS) (g p : Nat) : a_T (setPl a g p) = a_T a := rfl
theorem sp_k (a : AS) (g p : Nat) : a_k (setPl a g p) = a_k a := rfl
theorem sp_th (a : AS) (g p : Nat) : a_th (setPl a g p) = a_th a := rfl
theorem sp_sz (a : AS) (g p : Nat) : a_sz (setPl a g p) = a_sz a := rfl
theorem sp_ch (a : AS) (g p : Nat) : a_ch (setPl a g p) = a_ch a := rfl
theorem sp_wd (a : AS) (g p : Nat) : a_wd (setPl a g p) = a_wd a := rfl
theorem sp_lk (a : AS) (g p : Nat) : a_lk (setPl a g p) = a_lk a := rfl
theorem sp_bs (a : AS) (g p : Nat) : a_bs (setPl a g p) = a_bs a := rfl
theorem sp_mt (a : AS) (g p : Nat) : a_mt (setPl a g p) = a_mt a := rfl
theorem sp_lf (a : AS) (g p : Nat) : a_lf (setPl a g p) = a_lf a := rfl
theorem sp_sg (a : AS) (g p : Nat) : a_sg (setPl a g p) = a_sg a := rfl
theorem sp_sr (a : AS) (g p : Nat) : a_sr (setPl a g p) = a_sr a := rfl
theorem sp_pl (a : AS) (g p j : Nat) : a_pl (setPl a g p) j = if j = g then p else a_pl a j := rfl
theorem sp_is (a : AS) (g p j : Nat) : a_is (setPl a g p) j = a_is a j := rfl
def tkI (a : AS) (n : Nat) : AS := (a_R a, a_T a, a_k a, a_th a, a_sz a, a_ch a, a_wd a, a_lk a, a_pl a, (fun j => if j < n ∧ a_bs a j = 1 ∧ a_lf a j ≤ 1 then 0 else a_bs a j), (fun j => if j < n ∧ a_bs a j = 1 ∧ a_lf a j ≤ 1 then -6 else a_mt a j), (fun j => if j < n ∧ a_bs a j = 1 then a_lf a j - 1 else a_lf a j), a_sg a, a_sr a)
theorem tk_R (a : AS) (n : Nat) : a_R (tkI a n) = a_R a := rfl
theorem tk_T (a : AS) (n : Nat) : a_T (tkI a n) = a_T a := rfl
theorem tk_k (a : AS) (n : Nat) : a_k (tkI a n) = a_k a := rfl
theorem tk_th (a : AS) (n : Nat) : a_th (tkI a n) = a_th a := rfl
theorem tk_sz (a : AS) (n : Nat) : a_sz (tkI a n) = a_sz a := rfl
theorem tk_ch (a : AS) (n : Nat) : a_ch (tkI a n) = a_ch a := rfl
theorem tk_wd (a : AS) (n : Nat) : a_wd (tkI a n) = a_wd a := rfl
theorem tk_lk (a : AS) (n : Nat) : a_lk (tkI a n) = a_lk a := rfl
theorem tk_pl (a : AS) (n : Nat) : a_pl (tkI a n) = a_pl a := rfl
theorem tk_sg (a : AS) (n : Nat) : a_sg (tkI a n) = a_sg a := rfl
theorem tk_sr (a : AS) (n : Nat) : a_sr (tkI a n) = a_sr a := rfl
theorem tk_bs (a : AS) (n j : Nat) : a_bs (tkI a n) j = if j < n ∧ a_bs a j = 1 ∧ a_lf a j ≤ 1 then 0 else a_bs a j := rfl
theorem tk_mt (a : AS) (n j : Nat) : a_mt (tkI a n) j = if j < n ∧ a_bs a j = 1 ∧ a_lf a j ≤ 1 then -6 else a_mt a j := rfl
theorem tk_lf (a : AS) (n j : Nat) : a_lf (tkI a n) j = if j < n ∧ a_bs a j = 1 then a_lf a j - 1 else a_lf a j := rfl
theorem tk_is (a : AS) (n j : Nat) : a_is (tkI a n) j = a_is a j := rfl
theorem tk_in (a : AS) (n r : Nat) : a_in (tkI a n) r = a_in a r := rfl
theorem sp_in {a : AS} {g p r : Nat} (hg : g < 8) (hi : a_is a g = true) : a_in (setPl a g p) r = oth a g r + (if p = r then 1 else 0) := by
  rw [a_in_cnt, cnt_but _ g 8 hg]
  unfold oth
  simp only [sp_is, sp_pl, hi, if_true, Bool.true_and]
  congr 1
  · refine cnt_congr (fun j hj => ?_)
    by_cases c : j = g
    · simp [c]
    · simp [c]
  · by_cases c : p = r <;> simp [c]
theorem Inv_setPl {a : AS} (hI : Inv a) {g p : Nat} (hg : g < 8) (hi : a_is a g = true) (hb : a_bs a g = 0 ∨ a_bs a g = 2) (hp : p < a_R a) (hc : oth a g p < a_sz a p) : Inv (setPl a g p) := by
  obtain ⟨i1, i2, i3, i4, i5, i6, i7, i8, i9, i10, i11⟩ := id hI
  unfold Inv
  simp only [sp_R, sp_T, sp_k, sp_th, sp_sz, sp_ch, sp_wd, sp_lk, sp_bs, sp_mt, sp_lf, sp_sg, sp_sr, sp_pl, sp_is]
  refine ⟨i1, i2, i3, i4, ?_, ?_, i7, i8, ?_, ?_, i11⟩
  · intro j hj e
    have hjg : j ≠ g := fun q => by subst q; rw [hi] at e; cases e
    rw [if_neg hjg]; exact i5 j hj e
  · intro j hj e
    by_cases c : j = g
    · rw [if_pos c]; exact ⟨hp, (i6 j hj e).2⟩
    · rw [if_neg c]; exact i6 j hj e
  · intro j hj e
    have hjg : j ≠ g := fun q => by subst q; omega
    rw [if_neg hjg]; exact i9 j hj e
  · intro r hr
    rw [sp_in hg hi]
    by_cases c : p = r
    · subst c; rw [if_pos rfl]; omega
    · rw [if_neg c]
      have := oth_in (b := a) (r := r) hg hi
      have := i10 r hr
      omega
theorem Inv_tk {a : AS} (hI : Inv a) : Inv (tkI a 8) := by
  obtain ⟨i1, i2, i3, i4, i5, i6, i7, i8, i9, i10, i11⟩ := id hI
  unfold Inv
  simp only [tk_R, tk_T, tk_k, tk_th, tk_sz, tk_ch, tk_wd, tk_lk, tk_pl, tk_sg, tk_sr, tk_bs, tk_mt, tk_lf, tk_is, tk_in]
  refine ⟨i1, i2, i3, i4, ?_, ?_, ?_, ?_, ?_, i10, i11⟩
  · intro j hj e
    obtain ⟨q1, q2, q3⟩ := i5 j hj e
    exact ⟨q1, by rw [if_neg (by omega)]; exact q2, q3⟩
  · intro j hj e
    obtain ⟨q1, q2, q3⟩ := i6 j hj e
    exact ⟨q1, by split <;> omega, q3⟩
  · intro j hj e
    by_cases c : a_bs a j = 1 ∧ a_lf a j ≤ 1
    · rw [if_pos ⟨hj, c⟩, if_pos ⟨hj, c.1⟩]; exact ⟨rfl, by omega⟩
    · rw [if_neg (fun h => c h.2)] at e ⊢
      rw [if_neg (by omega)]; exact i7 j hj e
  · intro j hj e
    have hc : ¬ (a_bs a j = 1 ∧ a_lf a j ≤ 1) := fun h => by rw [if_pos ⟨hj, h⟩] at e; cases e
    rw [if_neg (fun h => hc h.2)] at e ⊢
    obtain ⟨i, k1, k2, k3, k4, k5, k6, k7, k8, k9⟩ := i8 j hj e
    refine ⟨i, k1, k2, k3, k4, ?_, ?_, ?_, ?_, ?_⟩
    · rw [if_neg (by omega)]; exact k5
    · rw [if_neg (by omega)]; exact k6
    · rw [if_pos ⟨k1, k5⟩, if_pos ⟨hj, e⟩]; omega
    · rw [if_pos ⟨hj, e⟩]; omega
    · rw [if_pos ⟨hj, e⟩]; omega
  · intro j hj e
    have hc : ¬ (a_bs a j = 1 ∧ a_lf a j ≤ 1) := fun h => by rw [if_pos ⟨hj, h⟩] at e; cases e
    rw [if_neg (fun h => hc h.2)] at e
    rw [if_neg (show ¬ (j < 8 ∧ a_bs a j = 1) by omega), if_neg (show ¬ (j < 8 ∧ a_bs a j = 1 ∧ a_lf a j ≤ 1) by omega)]
    exact i9 j hj e
theorem stn_sp {a : AS} {g p : Nat} (hb : a_bs a g ≠ 3) (r q j : Nat) : stn (setPl a g p) r q j = stn a r q j := by
  unfold stn
  simp only [sp_bs, sp_pl, sp_mt]
  by_cases c : j = g
  · subst c
    have : (a_bs a j == 3) = false := by simp [hb]
    rw [this]; rfl
  · rw [if_neg c]
theorem jam_sp {a : AS} {g p : Nat} (hb : a_bs a g ≠ 3) (r q : Nat) : jam (setPl a g p) r q = jam a r q := cnt_congr (fun j _ => stn_sp hb r q j)
theorem jam_tk {a : AS} (n r q : Nat) : jam (tkI a n) r q = jam a r q := cnt_congr (fun j _ => by
  unfold stn
  simp only [tk_bs, tk_pl, tk_mt]
  by_cases c : j < n ∧ a_bs a j = 1 ∧ a_lf a j ≤ 1
  · rw [if_pos c, if_pos c, c.2.1]; simp
  · rw [if_neg c, if_neg c])
theorem pt_th {f : Nat → Int32} {a b : AS} {r : Nat} (h : a_th a = a_th b) : ∀ i, pt f a r i = pt f b r i
  | 0 => rfl
  | i + 1 => by show pt f a r i + _ = pt f b r i + _; rw [pt_th h i, h]
/-- one more has gone through -/
def incG (gn : Nat → Nat → Nat) (f t r q : Nat) : Nat := gn r q + (if (r = f ∧ q = t) ∨ (r = t ∧ q = f) then 1 else 0)
/-- where g goes -/
def toA (b : AS) (gn : Nat → Nat → Nat) (lo : Nat → Nat → Bool) (g : Nat) : Nat := (gA (dr (lkf b g) b g) (canA b gn lo g) (a_pl b g) (a_R b)).1
theorem toA_ok {b : AS} {gn : Nat → Nat → Nat} {lo : Nat → Nat → Bool} {g : Nat} (h : toA b gn lo g ≠ a_pl b g) : toA b gn lo g < a_R b ∧ a_in b (toA b gn lo g) < a_sz b (toA b gn lo g) := by
  rcases gA_room (D := dr (lkf b g) b g) (can := canA b gn lo g) (own := a_pl b g) (a_R b) with q | ⟨q1, q2⟩
  · exact absurd q h
  · refine ⟨q1, ?_⟩
    have q2 : canA b gn lo g (toA b gn lo g) = true := q2
    unfold canA at q2
    simp only [Bool.and_eq_true, decide_eq_true_eq] at q2
    exact q2.2.2
theorem moves_spec {d : DS} {b : AS} {gn : Nat → Nat → Nat} {lo : Nat → Nat → Bool} (hI : Inv b) (hL : LoOk b lo) (hgn : ∀ r q, r < 6 → q < 6 → gn r q < 1000) (hD : Dx d b gn lo) {g : Nat} (hg : g < 8) (hi : a_is b g = true) (hb : a_bs b g = 0) : ∃ d', f_X0_moves d (nI g) = some (if toA b gn lo g = a_pl b g then 0 else 1, d') ∧ (toA b gn lo g = a_pl b g → d' = d) ∧ (toA b gn lo g ≠ a_pl b g → Dx d' (setPl b g (toA b gn lo g)) (incG gn (a_pl b g) (toA b gn lo g)) lo) := by
  have ht : f_X0_target d (nI g) = some (nI (toA b gn lo g)) := target_spec hI hL hgn hD hg hi
  obtain ⟨hH, hc, hta, hw, hn⟩ := hD
  have hp : H_place (D_house d) g = nI (a_pl b g) := (hH.2.2.2.2.2.1 g hg).1
  have hpl := (hI.2.2.2.2.2.1 g hg hi).1
  have hR6 := hI.1.2.1
  unfold f_X0_moves
  rw [chk_nI hg (by decide), ht, Option.bind_some, nI_clamp (by omega), hp]
  generalize hto : toA b gn lo g = t
  by_cases c : t = a_pl b g
  · exact ⟨d, by rw [if_pos (by rw [c]), if_pos c], fun _ => rfl, fun h => absurd c h⟩
  · have hok := toA_ok (b := b) (gn := gn) (lo := lo) (g := g) (by rw [hto]; exact c)
    rw [hto] at hok
    have c2 := oth_in (b := b) (g := g) (r := a_pl b g) hg hi
    rw [if_pos rfl] at c2
    have ct : a_in b t = oth b g t := by rw [oth_in hg hi, if_neg (fun h => c h.symm)]; rfl
    have c8 : a_in b t ≤ 8 := cnt_le _ 8
    have c8' : a_in b (a_pl b g) ≤ 8 := cnt_le _ 8
    refine ⟨_, by rw [if_neg (fun h => c ((nI_eq (by omega) (by omega)).mp h)), ix6, ix6, chk_nI (by omega) (by decide), chk_nI (by omega) (by decide), nI_clamp (by omega), nI_clamp (by omega), nI_clamp (by omega), nI_clamp (by omega), ltA_eq, chk_nI (by omega) (by decide), chk_nI (by omega) (by decide), ltA_eq, chk_nI (by omega) (by decide), chk_nI (by omega) (by decide), ltA_eq, chk_nI (by omega) (by decide), chk_nI (by omega) (by decide), ltA_eq, chk_nI hg (by decide), ltA_eq, if_neg c], fun h => absurd h c, fun _ => ?_⟩
    refine ⟨?_, ?_, ?_, ?_, ?_⟩
    · obtain ⟨b1, b2, b3, b4, b5, b6, b7, b8⟩ := hH
      refine ⟨b1, b2, b3, b4, b5, ?_, b7, b8⟩
      intro j hj
      simp only [sp_pl, sp_bs, sp_mt, sp_lf]
      refine ⟨?_, (b6 j hj).2⟩
      show upd (H_place (D_house d)) g (nI t) j = _
      by_cases q : j = g
      · rw [if_pos q, q, pk_us]
      · rw [if_neg q, pk_un q]; exact (b6 j hj).1
    · intro r hr
      show upd (upd (D_crowd d) (a_pl b g) (D_crowd d (a_pl b g) - 1)) t (upd (D_crowd d) (a_pl b g) (D_crowd d (a_pl b g) - 1) t + 1) r = _
      rw [sp_in hg hi, pk_un c]
      by_cases q1 : r = t
      · rw [q1, pk_us, hc t (by omega), if_pos rfl, ct, nI_1]
      · rw [pk_un q1, if_neg (fun h => q1 h.symm)]
        by_cases q2 : r = a_pl b g
        · rw [q2, pk_us, hc _ (by omega), c2, show nI (oth b g (a_pl b g) + 1) - (1 : Int32) = nI (oth b g (a_pl b g) + 1 - 1) from pk_sub (b := 1) (by omega)]; rfl
        · rw [pk_un q2, hc r hr, oth_in hg hi, if_neg (fun h => q2 h.symm)]
    · intro j r hj hij hr
      exact hta j r hj hij hr
    · intro r q hr hq
      refine (hw r q hr hq).trans ?_
      unfold wdv
      rw [jam_sp (by omega)]; rfl
    · intro r q hr hq
      show upd (upd (D_gone d) (a_pl b g * 6 + t) (D_gone d (a_pl b g * 6 + t) + 1)) (t * 6 + a_pl b g) (upd (D_gone d) (a_pl b g * 6 + t) (D_gone d (a_pl b g * 6 + t) + 1) (t * 6 + a_pl b g) + 1) (r * 6 + q) = nI (incG gn (a_pl b g) t r q)
      unfold incG
      rw [pk_un (show t * 6 + a_pl b g ≠ a_pl b g * 6 + t by omega)]
      by_cases q1 : r = t ∧ q = a_pl b g
      · rw [if_pos (Or.inr q1), q1.1, q1.2, pk_us, hn _ _ (by omega) (by omega), nI_1]
      · rw [pk_un (by omega)]
        by_cases q2 : r = a_pl b g ∧ q = t
        · rw [if_pos (Or.inl q2), q2.1, q2.2, pk_us, hn _ _ (by omega) (by omega), nI_1]
        · rw [pk_un (by omega), if_neg (by omega), hn r q hr hq]; rfl
