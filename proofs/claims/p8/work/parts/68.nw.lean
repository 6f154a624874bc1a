/-- as a, but g is (or isn't) there by T, in room p, likes nothing, and has left off -/
def nw (a : AS) (g T p : Nat) : AS := (a_R a, T, a_k a, a_th a, a_sz a, a_ch a, a_wd a, (fun j k => if j = g then 0 else a_lk a j k), (fun j => if j = g then p else a_pl a j), (fun j => if offp a g j then 0 else a_bs a j), (fun j => if offp a g j then -6 else a_mt a j), (fun j => if offp a g j then 0 else a_lf a j), a_sg a, a_sr a)
theorem nw_R (a : AS) (g T p : Nat) : a_R (nw a g T p) = a_R a := rfl
theorem nw_k (a : AS) (g T p : Nat) : a_k (nw a g T p) = a_k a := rfl
theorem nw_th (a : AS) (g T p : Nat) : a_th (nw a g T p) = a_th a := rfl
theorem nw_sz (a : AS) (g T p : Nat) : a_sz (nw a g T p) = a_sz a := rfl
theorem nw_ch (a : AS) (g T p : Nat) : a_ch (nw a g T p) = a_ch a := rfl
theorem nw_wd (a : AS) (g T p : Nat) : a_wd (nw a g T p) = a_wd a := rfl
theorem nw_sg (a : AS) (g T p : Nat) : a_sg (nw a g T p) = a_sg a := rfl
theorem nw_sr (a : AS) (g T p : Nat) : a_sr (nw a g T p) = a_sr a := rfl
theorem nw_T (a : AS) (g T p : Nat) : a_T (nw a g T p) = T := rfl
theorem nw_is (a : AS) (g T p j : Nat) : a_is (nw a g T p) j = T.testBit j := rfl
theorem nw_lk (a : AS) (g T p j k : Nat) : a_lk (nw a g T p) j k = if j = g then 0 else a_lk a j k := rfl
theorem nw_pl (a : AS) (g T p j : Nat) : a_pl (nw a g T p) j = if j = g then p else a_pl a j := rfl
theorem nw_bs (a : AS) (g T p j : Nat) : a_bs (nw a g T p) j = if offp a g j then 0 else a_bs a j := rfl
theorem nw_mt (a : AS) (g T p j : Nat) : a_mt (nw a g T p) j = if offp a g j then -6 else a_mt a j := rfl
theorem nw_lf (a : AS) (g T p j : Nat) : a_lf (nw a g T p) j = if offp a g j then 0 else a_lf a j := rfl
theorem nw_in (a : AS) (g T p r : Nat) : a_in (nw a g T p) r = cnt (fun j => T.testBit j && (if j = g then p else a_pl a j) == r) 8 := rfl
theorem a_in_cnt (a : AS) (r : Nat) : a_in a r = cnt (fun j => a_is a j && a_pl a j == r) 8 := rfl
theorem cnt_mono {p q : Nat → Bool} : ∀ i, (∀ j, j < i → p j = true → q j = true) → cnt p i ≤ cnt q i
  | 0, _ => Nat.le_refl _
  | i + 1, h => by
    rw [cnt_s, cnt_s]
    have h1 := cnt_mono i (fun j hj => h j (by omega))
    cases e : p i
    · simp; omega
    · rw [h i (by omega) e]; simp; omega
theorem cnt_but (p : Nat → Bool) (g : Nat) : ∀ i, g < i → cnt p i = cnt (fun j => p j && !(j == g)) i + (if p g then 1 else 0)
  | 0, h => absurd h (Nat.not_lt_zero _)
  | i + 1, h => by
    rw [cnt_s, cnt_s]
    by_cases c : g = i
    · subst c
      have : cnt (fun j => p j && !(j == g)) g = cnt p g := cnt_congr (fun j hj => by simp [show j ≠ g by omega])
      rw [this]; simp
    · rw [cnt_but p g i (by omega)]
      simp [show ¬ i = g by omega]; omega
theorem offp_sym {a : AS} (hI : Inv a) {g j : Nat} (hj : j < 8) (hb : a_bs a j = 1) (hm : a_mt a j = (g : Int)) (hg : g < 8) : offp a g j = true := by
  obtain ⟨i, i1, i2, i3, i4, i5, i6, -⟩ := hI.2.2.2.2.2.2.2.1 j hj hb
  have e : i = g := by omega
  subst e
  unfold offp; rw [i5, i6]; simp
theorem Inv_nw {a : AS} (hI : Inv a) {g T p : Nat} (hg : g < 8) (hT : T < 256) (ho : ∀ j, j < 8 → j ≠ g → T.testBit j = a_is a j) (h1 : T.testBit g = true → p < a_R a ∧ cnt (fun j => (a_is a j && a_pl a j == p) && !(j == g)) 8 < a_sz a p) (h0 : T.testBit g = false → p = 0) : Inv (nw a g T p) := by
  obtain ⟨i1, i2, i3, i4, i5, i6, i7, i8, i9, i10, i11⟩ := id hI
  unfold Inv
  simp only [nw_R, nw_T, nw_k, nw_th, nw_sz, nw_ch, nw_wd, nw_sg, nw_sr, nw_is, nw_lk, nw_pl, nw_bs, nw_mt, nw_lf, nw_in]
  have hgg : offp a g g = true := by unfold offp; simp
  refine ⟨⟨i1.1, i1.2.1, hT, i1.2.2.2⟩, i2, i3, i4, ?_, ?_, ?_, ?_, ?_, ?_, i11⟩
  · intro j hj e
    by_cases c : j = g
    · subst c; simp only [if_true, hgg]; exact ⟨h0 e, trivial, fun k _ => trivial⟩
    · rw [ho j hj c] at e
      obtain ⟨q1, q2, q3⟩ := i5 j hj e
      simp only [c, if_false, q1, q2]
      refine ⟨trivial, by split <;> rfl, fun k hk => q3 k hk⟩
  · intro j hj e
    by_cases c : j = g
    · subst c; simp only [if_true, hgg]; exact ⟨(h1 e).1, by decide, fun k _ => by decide⟩
    · rw [ho j hj c] at e
      obtain ⟨q1, q2, q3⟩ := i6 j hj e
      simp only [c, if_false]
      refine ⟨q1, by split <;> omega, fun k hk => q3 k hk⟩
  · intro j hj e
    cases c : offp a g j
    · rw [c] at e; simp only [Bool.false_eq_true, if_false] at e ⊢; exact i7 j hj e
    · simp only [if_true]; exact ⟨trivial, trivial⟩
  · intro j hj e
    cases c : offp a g j
    · rw [c] at e
      simp only [Bool.false_eq_true, if_false] at e ⊢
      obtain ⟨i, k1, k2, k3, k4, k5, k6, k7⟩ := i8 j hj e
      have hjg : j ≠ g := fun q => by subst q; rw [hgg] at c; cases c
      have hig : i ≠ g := fun q => by
        subst q
        have := offp_sym hI hj e k3 hg; rw [this] at c; cases c
      have hio : offp a g i = false := by
        cases q : offp a g i
        · rfl
        · exfalso
          unfold offp at q
          simp only [Bool.or_eq_true, Bool.and_eq_true, beq_iff_eq] at q
          rcases q with q | ⟨q1, q2⟩
          · exact hig q
          · obtain ⟨i', l1, l2, l3, l4, l5, l6, -⟩ := i8 g hg q1
            have : i' = i := by omega
            subst this
            omega
      refine ⟨i, k1, k2, k3, ?_, ?_⟩
      · rw [ho i k1 hig]; exact k4
      · rw [hio]; simp only [Bool.false_eq_true, if_false]; exact ⟨k5, k6, k7⟩
    · rw [c] at e; simp at e
  · intro j hj e
    cases c : offp a g j
    · rw [c] at e
      simp only [Bool.false_eq_true, if_false] at e ⊢
      have hjg : j ≠ g := fun q => by subst q; rw [hgg] at c; cases c
      rw [if_neg hjg]; exact i9 j hj e
    · rw [c] at e; simp at e
  · intro r hr
    rw [cnt_but _ g 8 hg]
    have e1 : cnt (fun j => (T.testBit j && (if j = g then p else a_pl a j) == r) && !(j == g)) 8 = cnt (fun j => (a_is a j && a_pl a j == r) && !(j == g)) 8 := cnt_congr (fun j hj => by
      by_cases c : j = g
      · simp [c]
      · rw [ho j hj c]; simp [c])
    rw [e1]
    cases e : T.testBit g
    · simp only [Bool.false_and, Bool.false_eq_true, if_false, Nat.add_zero]
      have := cnt_mono (p := fun j => (a_is a j && a_pl a j == r) && !(j == g)) (q := fun j => a_is a j && a_pl a j == r) 8 (fun j _ h => by simp at h ⊢; exact h.1)
      exact Nat.le_trans this (i10 r hr)
    · simp only [if_true, Bool.true_and]
      by_cases c : p = r
      · subst c; simp; have := (h1 e).2; omega
      · simp [c]
        have := cnt_mono (p := fun j => (a_is a j && a_pl a j == r) && !(j == g)) (q := fun j => a_is a j && a_pl a j == r) 8 (fun j _ h => by simp at h ⊢; exact h.1)
        exact Nat.le_trans this (i10 r hr)
