/-! guest, leave -/
def orb (T g : Nat) : Nat := T ||| (1 <<< g)
def clr (T g : Nat) : Nat := T - (if T.testBit g then 2 ^ g else 0)
set_option maxRecDepth 100000 in
theorem orb_dec : ∀ T : Fin 256, ∀ g : Fin 8, (nI T.val ||| ((1 : Int32) <<< (nI g.val &&& 31))) = nI (orb T.val g.val) ∧ ((nI T.val &&& (((1 : Int32) <<< (nI g.val &&& 31)) ^^^ (-1 : Int32))) ||| ((1 : Int32) <<< (nI g.val &&& 31))) = nI (orb T.val g.val) ∧ (nI T.val &&& (((1 : Int32) <<< (nI g.val &&& 31)) ^^^ (-1 : Int32))) = nI (clr T.val g.val) ∧ orb T.val g.val < 256 ∧ clr T.val g.val < 256 := by decide +kernel
set_option maxRecDepth 100000 in
theorem orb_bit : ∀ T : Fin 256, ∀ g j : Fin 8, (orb T.val g.val).testBit j.val = (T.val.testBit j.val || decide (j = g)) ∧ (clr T.val g.val).testBit j.val = (T.val.testBit j.val && !(decide (j = g))) := by decide +kernel
theorem orb_1 {T g : Nat} (hT : T < 256) (hg : g < 8) : (nI T ||| ((1 : Int32) <<< (nI g &&& 31))) = nI (orb T g) ∧ ((nI T &&& (((1 : Int32) <<< (nI g &&& 31)) ^^^ (-1 : Int32))) ||| ((1 : Int32) <<< (nI g &&& 31))) = nI (orb T g) ∧ (nI T &&& (((1 : Int32) <<< (nI g &&& 31)) ^^^ (-1 : Int32))) = nI (clr T g) ∧ orb T g < 256 ∧ clr T g < 256 := orb_dec ⟨T, hT⟩ ⟨g, hg⟩
theorem orb_at {T g j : Nat} (hT : T < 256) (hg : g < 8) (hj : j < 8) : (orb T g).testBit j = (T.testBit j || decide (j = g)) := by
  have := (orb_bit ⟨T, hT⟩ ⟨g, hg⟩ ⟨j, hj⟩).1
  rw [this]; simp
theorem clr_at {T g j : Nat} (hT : T < 256) (hg : g < 8) (hj : j < 8) : (clr T g).testBit j = (T.testBit j && !(decide (j = g))) := by
  have := (orb_bit ⟨T, hT⟩ ⟨g, hg⟩ ⟨j, hj⟩).2
  rw [this]; simp
/-- the class' dismiss -/
theorem dismiss_spec {a : AS} {h : HS} (hI : Inv a) (hH : Hc h a) {g : Nat} (hg : g < 8) : ∃ h', f_X1_dismiss h (nI g) = some h' ∧ Hc h' (nw a g (clr (a_T a) g) 0) := by
  obtain ⟨N, hN, hFU⟩ := FU_ex
  obtain ⟨h1, e1, H1⟩ := rise_spec hI hH hg
  have hT := hI.1.2.2.1
  unfold f_X1_dismiss
  rw [e1, Option.bind_some, chk_nI hg (by decide), nI_clamp (by omega), ltA_eq, hFU]
  obtain ⟨h2, e2⟩ : ∃ y, y = H_set_place (H_set_there h1 ((H_there h1) &&& (((1 : Int32) <<< (nI g &&& 31)) ^^^ (-1 : Int32)))) (upd (H_place h1) g (0 : Int32)) := ⟨_, rfl⟩
  rw [← e2]
  unfold Hc at H1
  simp only [rs_R, rs_T, rs_k, rs_th, rs_sz, rs_ch, rs_wd, rs_lk, rs_pl, rs_sg, rs_sr, rs_bs, rs_mt, rs_lf] at H1
  obtain ⟨b1, b2, b3, b4, b5, b6, b7, b8⟩ := H1
  have c1 : H_rooms h2 = H_rooms h1 := by rw [e2]; rfl
  have c2 : H_there h2 = (H_there h1) &&& (((1 : Int32) <<< (nI g &&& 31)) ^^^ (-1 : Int32)) := by rw [e2]; rfl
  have c3 : H_sights h2 = H_sights h1 := by rw [e2]; rfl
  have c4 : H_measure h2 = H_measure h1 := by rw [e2]; rfl
  have c5 : H_width h2 = H_width h1 := by rw [e2]; rfl
  have c6 : H_place h2 = upd (H_place h1) g (0 : Int32) := by rw [e2]; rfl
  have c7 : H_busy h2 = H_busy h1 := by rw [e2]; rfl
  have c8 : H_mate h2 = H_mate h1 := by rw [e2]; rfl
  have c9 : H_left h2 = H_left h1 := by rw [e2]; rfl
  have c10 : H_likes h2 = H_likes h1 := by rw [e2]; rfl
  have c11 : H_sightGuest h2 = H_sightGuest h1 := by rw [e2]; rfl
  have c12 : H_sightRoom h2 = H_sightRoom h1 := by rw [e2]; rfl
  have key := it_rule (B := X1_dismiss_B28) (bot := fun _ _ _ => none) 5 (fun i (f : Nat → Int32) => (∀ k, k < i → f (g * 5 + k) = 0) ∧ ∀ j k, j < 8 → k < 5 → j ≠ g → f (j * 5 + k) = Int32.ofInt (a_lk a j k)) (fun k i f => ∃ f', k (H_set_likes h2 f) (nI g) (nI i) = some (H_set_likes h2 f') ∧ (∀ k, k < 5 → f' (g * 5 + k) = 0) ∧ ∀ j k, j < 8 → k < 5 → j ≠ g → f' (j * 5 + k) = Int32.ofInt (a_lk a j k)) (by
      intro k f hf
      exact ⟨f, by unfold X1_dismiss_B28; rw [if_pos (by decide)], hf⟩) (by
      intro k i f hi ⟨hf1, hf2⟩ hk
      obtain ⟨f', k1, k2⟩ := hk (upd f (g * 5 + i) 0) ⟨fun k hk' => by
        by_cases c : k = i
        · subst c; exact pk_us
        · rw [pk_un (by omega)]; exact hf1 k (by omega), fun j k hj hk' hjg => by
        rw [pk_un (by omega)]; exact hf2 j k hj hk' hjg⟩
      refine ⟨f', ?_, k2⟩
      unfold X1_dismiss_B28
      rw [if_neg (show ¬ (5 : Int32) ≤ nI i from nlit (by decide) hi), ix5, chk_nI (by omega) (by decide), nI_clamp (by omega), ltA_eq, nI_1]
      exact k1) N 0 (H_likes h2) (by omega) (by omega) ⟨fun k hk => absurd hk (Nat.not_lt_zero _), fun j k hj hk _ => by rw [c10]; exact b7 j k hj hk⟩
  obtain ⟨f', k1, k2, k3⟩ := key
  have es : H_set_likes h2 (H_likes h2) = h2 := rfl
  rw [es] at k1
  refine ⟨H_set_likes h2 f', k1, ?_⟩
  unfold Hc
  simp only [nw_R, nw_T, nw_k, nw_th, nw_sz, nw_ch, nw_wd, nw_sg, nw_sr, nw_lk, nw_pl, nw_bs, nw_mt, nw_lf]
  refine ⟨c1.trans b1, ?_, c3.trans b3, ?_, ?_, ?_, ?_, ?_⟩
  · show H_there h2 = _
    rw [c2, b2, (orb_1 hT hg).2.2.1]
  · show ∀ r, r < 6 → (∀ s, s < 4 → H_measure h2 (r * 6 + s) = _) ∧ H_measure h2 (r * 6 + 4) = _ ∧ H_measure h2 (r * 6 + 5) = _
    rw [c4]; exact b4
  · show ∀ r q, r < 6 → q < 6 → H_width h2 (r * 6 + q) = _
    rw [c5]; exact b5
  · intro j hj
    show H_place h2 j = _ ∧ H_busy h2 j = _ ∧ H_mate h2 j = _ ∧ H_left h2 j = _
    rw [c6, c7, c8, c9]
    refine ⟨?_, (b6 j hj).2⟩
    by_cases c : j = g
    · rw [if_pos c, c, pk_us]; rfl
    · rw [if_neg c, pk_un c]; exact (b6 j hj).1
  · intro j k hj hk
    show f' (j * 5 + k) = _
    by_cases c : j = g
    · rw [if_pos c, c]; exact k2 k hk
    · rw [if_neg c]; exact k3 j k hj hk c
  · show ∀ s, s < a_k a → H_sightGuest h2 s = _ ∧ H_sightRoom h2 s = _
    rw [c11, c12]; exact b8
/-- what the reference holds, after leaving off, by its parts -/
theorem Mc_nw {a : AS} {z : MS} (hI : Inv a) (hM : Mc (mcore z) a) {g T p : Nat} (hg : g < 8) (ho : ∀ j, j < 8 → j ≠ g → T.testBit j = a_is a j) {lk pl bs lf : Nat → Int32} (hb : ∀ j, j < 8 → bs j = (if offp a g j then 0 else M_busy z j) ∧ lf j = (if offp a g j then 0 else M_left z j)) (hp : T.testBit g = true → pl g = nI p ∧ ∀ k, k < 5 → lk (5 * g + k) = 0) (hq : ∀ j, j < 8 → j ≠ g → pl j = M_place z j ∧ ∀ k, k < 5 → lk (5 * j + k) = M_likes z (5 * j + k)) : Mc (M_rooms z, M_things z, M_size z, M_chairs z, M_width z, nI T, lk, pl, bs, M_with z, lf, M_sights z, M_sight z) (nw a g T p) := by
  obtain ⟨m1, m2, m3, m4, m5, m6, m7⟩ := hM
  unfold Mc
  simp only [nw_R, nw_T, nw_k, nw_th, nw_sz, nw_ch, nw_wd, nw_sg, nw_sr, nw_is, nw_lk, nw_pl, nw_bs, nw_mt, nw_lf]
  refine ⟨m1, trivial, m3, m4, m5, ?_, m7⟩
  intro j hj hi
  by_cases c : j = g
  · subst c
    have hgg : offp a j j = true := by unfold offp; simp
    have q := hb j hj
    rw [hgg] at q
    simp only [if_true, hgg]
    refine ⟨(hp hi).1, q.1, q.2, fun h => absurd h (by decide), fun k hk => (hp hi).2 k hk⟩
  · rw [ho j hj c] at hi
    obtain ⟨p1, p2, p3, p4, p5⟩ := m6 j hj hi
    have q := hb j hj
    simp only [c, if_false]
    refine ⟨(hq j hj c).1.trans p1, ?_, ?_, ?_, fun k hk => ((hq j hj c).2 k hk).trans (p5 k hk)⟩
    · rw [q.1]; split
      · rfl
      · exact p2
    · rw [q.2]; split
      · rfl
      · exact p3
    · intro h
      cases e : offp a g j
      · rw [e] at h; simp only [Bool.false_eq_true, if_false] at h ⊢; exact p4 h
      · rw [e] at h; simp at h
def sLk (m : MKK) (f : Nat → Int32) : MKK := ((m.1.1, m.1.2.1, m.1.2.2.1, m.1.2.2.2.1, m.1.2.2.2.2.1, m.1.2.2.2.2.2.1, f, m.1.2.2.2.2.2.2.2), m.2)
theorem guest_lk {z : MS} {T g : Nat} (ht : M_there z = nI T) (hT : T < 256) (hg : g < 8) : ∃ w f, it X9_guest_B65 (fun _ _ _ => none) FU z (nI g) 0 = some (nI (cnt (fun j => T.testBit j) 8), w) ∧ mkeep w = sLk (mkeep z) f ∧ (∀ k, k < 5 → f (5 * g + k) = 0) ∧ ∀ j k, j < 8 → k < 5 → j ≠ g → f (5 * j + k) = M_likes z (5 * j + k) := by
  obtain ⟨N, hN, hFU⟩ := FU_ex
  rw [hFU]
  refine it_rule (bot := fun _ _ _ => none) 5 (fun i (y : MS) => ∃ f, mkeep y = sLk (mkeep z) f ∧ (∀ k, k < i → f (5 * g + k) = 0) ∧ ∀ j k, j < 8 → k < 5 → j ≠ g → f (5 * j + k) = M_likes z (5 * j + k)) (fun k i y => ∃ w f, k y (nI g) (nI i) = some (nI (cnt (fun j => T.testBit j) 8), w) ∧ mkeep w = sLk (mkeep z) f ∧ (∀ k, k < 5 → f (5 * g + k) = 0) ∧ ∀ j k, j < 8 → k < 5 → j ≠ g → f (5 * j + k) = M_likes z (5 * j + k)) ?_ ?_ N 0 z (by omega) (by omega) ⟨M_likes z, rfl, fun k hk => absurd hk (Nat.not_lt_zero _), fun _ _ _ _ _ => rfl⟩
  · intro k y ⟨f, e, h1, h2⟩
    have et : M_there y = nI T := (congrArg (fun m => m.1.2.2.2.2.2.1) e).trans ht
    refine ⟨y, f, ?_, e, h1, h2⟩
    unfold X9_guest_B65
    rw [if_pos (by decide), et, bits_spec hT, Option.bind_some]
  · intro k i y hi ⟨f, e, h1, h2⟩ hk
    obtain ⟨y1, ey1⟩ : ∃ x, x = M_set_likes y (upd (M_likes y) (5 * g + i) 0) := ⟨_, rfl⟩
    have k1 := mk_likes y (upd (M_likes y) (5 * g + i) 0)
    rw [← ey1] at k1
    have hl : M_likes y = f := congrArg (fun m => m.1.2.2.2.2.2.2.1) e
    obtain ⟨w, f', a1, a2⟩ := hk y1 ⟨upd f (5 * g + i) 0, by rw [k1, hl]; exact congrArg (fun m => sLk m (upd f (5 * g + i) 0)) e, fun k hk' => by
      by_cases c : k = i
      · subst c; exact pk_us
      · rw [pk_un (by omega)]; exact h1 k (by omega), fun j k hj hk' hjg => by
      rw [pk_un (by omega)]; exact h2 j k hj hk' hjg⟩
    refine ⟨w, f', ?_, a2⟩
    unfold X9_guest_B65
    rw [if_neg (show ¬ (5 : Int32) ≤ nI i from nlit (by decide) hi), ix5', chk_nI (by omega) (by decide), nI_clamp (by omega), ltA_eq, ← ey1, nI_1]
    exact a1
