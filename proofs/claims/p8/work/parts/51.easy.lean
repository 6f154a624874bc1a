theorem i_nle {x y : Int32} : ¬ x ≤ y ↔ y < x := Int32.not_le
theorem i_nlt {x y : Int32} : ¬ x < y ↔ y ≤ x := Int32.not_lt
/-- a number between 0 and n less 1 is a small natural -/
theorem i_small {x : Int32} {n : Nat} (hn : n < 2 ^ 31) (h0 : ¬ x < 0) (h1 : x < nI n) : ∃ j, j < n ∧ x = nI j := by
  obtain ⟨j, hj, rfl⟩ := nI_of h0
  exact ⟨j, (nI_ltI hj hn).mp h1, rfl⟩
theorem in_1 {x a b : Int32} (h1 : ¬ x < a) (h2 : ¬ b < x) : f_X9_in x a b = some 1 := by unfold f_X9_in; rw [if_neg h1, if_neg h2]
theorem in_0 {x a b : Int32} (h : x < a ∨ b < x) : f_X9_in x a b = some 0 := by
  unfold f_X9_in
  by_cases h1 : x < a
  · rw [if_pos h1]
  · rw [if_neg h1, if_pos (h.resolve_left h1)]
theorem chk_nI {α : Type} {n N : Nat} {x : Option α} (h : n < N) (hN : N < 2 ^ 31) : chk (nI n) N x = x := chk_ok (vp_in_nI h hN)
theorem sim_say : Sim_say Rel := by
  intro S z x h
  obtain ⟨h1, ⟨n, hn, e1, e2, e3⟩, h3⟩ := h
  have e1 : P_used (K_pad S) = nI n := e1
  have e2 : M_signs z = nI n := e2
  have e3 : ∀ i, i < n → P_signs (K_pad S) i = M_pad z i ∧ ∃ c, 33 ≤ c ∧ c ≤ 126 ∧ M_pad z i = nI c := e3
  by_cases c1 : x < 33
  · refine ⟨(-2, K_pad S), (-2, z), ?_, ?_, rfl, h1, ⟨n, hn, e1, e2, e3⟩, h3⟩
    · unfold f_X8_say; rw [if_pos c1]
    · unfold f_X9_say; rw [in_0 (Or.inl c1)]; rfl
  · by_cases c2 : x ≤ 126
    · have hi : f_X9_in x 33 126 = some 1 := in_1 c1 (Int32.not_lt.mpr c2)
      obtain ⟨c, hc, rfl⟩ := nI_of (x := x) (fun q => c1 (Int32.lt_of_lt_of_le q (by decide)))
      have hc1 : 33 ≤ c := by
        rcases Nat.lt_or_ge c 33 with q | q
        · exact absurd (nI_lt q (by decide)) c1
        · exact q
      have hc2 : c ≤ 126 := (nI_leI hc (b := 126) (by decide)).mp c2
      by_cases c3 : n = 60
      · subst c3
        refine ⟨(-4, K_pad S), (-4, z), ?_, ?_, rfl, h1, ⟨60, hn, e1, e2, e3⟩, h3⟩
        · unfold f_X8_say f_X2_add
          rw [if_neg c1, if_pos c2, e1, if_neg (by decide)]; rfl
        · unfold f_X9_say
          rw [hi, Option.bind_some, if_neg (by decide), e2]; rfl
      · have hn' : n < 60 := by omega
        obtain ⟨z1, ez1⟩ : ∃ y, y = M_set_pad z (upd (M_pad z) n (nI c)) := ⟨_, rfl⟩
        have k1 : mkeep z1 = (mcore z, M_signs z, upd (M_pad z) n (nI c), M_image z, M_isKept z) := by rw [ez1]; exact mk_pad _ _
        have s1 : M_signs z1 = nI n := (congrArg (fun m => m.2.1) k1).trans e2
        obtain ⟨z2, ez2⟩ : ∃ y, y = M_set_signs z1 (nI n + 1) := ⟨_, rfl⟩
        have k2 : mkeep z2 = (mcore z, nI n + 1, upd (M_pad z) n (nI c), M_image z, M_isKept z) := by
          rw [ez2, mk_signs]
          exact congrArg (fun m : MKK => (m.1, nI n + 1, m.2.2.1, m.2.2.2.1, m.2.2.2.2)) k1
        refine ⟨(nI n + 1, P_set_used (P_set_signs (K_pad S) (upd (P_signs (K_pad S)) n (nI c))) (nI n + 1)), (nI n + 1, z2), ?_, ?_, rfl, ?_⟩
        · unfold f_X8_say f_X2_add
          rw [if_neg c1, if_pos c2, e1, if_pos (show nI n < (60 : Int32) from nI_lt hn' (by decide)), chk_nI hn' (by decide), nI_clamp (by omega)]; rfl
        · unfold f_X9_say ltA
          rw [hi, Option.bind_some, if_neg (by decide), e2, if_neg (show ¬ nI n = (60 : Int32) from fun q => c3 ((nI_eq (by omega) (b := 60) (by decide)).mp q)), chk_nI hn' (by decide), nI_clamp (by omega)]
          show (fun z35 : MS => (fun z43 : MS => some (M_signs z43, z43)) (M_set_signs z35 (M_signs z35 + 1))) (M_set_pad z (upd (M_pad z) n (nI c))) = _
          rw [← ez1]
          show (fun z43 : MS => some (M_signs z43, z43)) (M_set_signs z1 (M_signs z1 + 1)) = _
          rw [s1, ← ez2]
          show some (M_signs z2, z2) = _
          rw [show M_signs z2 = nI n + 1 from congrArg (fun m => m.2.1) k2]
        unfold Rel
        rw [k2]
        refine ⟨h1, ⟨n + 1, by omega, nI_1 n, nI_1 n, ?_⟩, h3⟩
        · intro i hi
          show upd (P_signs (K_pad S)) n (nI c) i = upd (M_pad z) n (nI c) i ∧ ∃ c', 33 ≤ c' ∧ c' ≤ 126 ∧ upd (M_pad z) n (nI c) i = nI c'
          by_cases q : i = n
          · subst q; rw [pk_us, pk_us]; exact ⟨rfl, c, hc1, hc2, rfl⟩
          · rw [pk_un q, pk_un q]; exact e3 i (by omega)
    · refine ⟨(-2, K_pad S), (-2, z), ?_, ?_, rfl, h1, ⟨n, hn, e1, e2, e3⟩, h3⟩
      · unfold f_X8_say; rw [if_neg c1, if_neg c2]
      · unfold f_X9_say; rw [in_0 (Or.inr (Int32.not_le.mp c2))]; rfl
theorem sim_forget : Sim_forget Rel := by
  intro S z h
  obtain ⟨⟨a, hI, hH, hM⟩, h3⟩ := h
  refine ⟨_, _, rfl, rfl, ?_, ?_⟩
  · exact hH.2.2.1.trans hM.2.2.1.symm
  · unfold Rel
    rw [mk_sights]
    obtain ⟨i1, i2, i3, i4, i5, i6, i7, i8, i9, i10, i11⟩ := hI
    obtain ⟨b1, b2, b3, b4, b5, b6, b7, b8⟩ := hH
    obtain ⟨m1, m2, m3, m4, m5, m6, m7⟩ := hM
    refine ⟨⟨(a_R a, a_T a, 0, a_th a, a_sz a, a_ch a, a_wd a, a_lk a, a_pl a, a_bs a, a_mt a, a_lf a, a_sg a, a_sr a), ⟨⟨i1.1, i1.2.1, i1.2.2.1, Nat.zero_le _⟩, i2, i3, i4, i5, i6, i7, i8, i9, i10, fun s hs => absurd hs (Nat.not_lt_zero _)⟩, ⟨b1, b2, rfl, b4, b5, b6, b7, fun s hs => absurd hs (Nat.not_lt_zero _)⟩, ⟨m1, m2, rfl, m4, m5, m6, fun s hs => absurd hs (Nat.not_lt_zero _)⟩⟩, h3⟩
theorem mk_size (z : MS) (f : Nat → Int32) : mkeep (M_set_size z f) = ((M_rooms z, M_things z, f, M_chairs z, M_width z, M_there z, M_likes z, M_place z, M_busy z, M_with z, M_left z, M_sights z, M_sight z), M_signs z, M_pad z, M_image z, M_isKept z) := rfl
theorem mk_chairs (z : MS) (f : Nat → Int32) : mkeep (M_set_chairs z f) = ((M_rooms z, M_things z, M_size z, f, M_width z, M_there z, M_likes z, M_place z, M_busy z, M_with z, M_left z, M_sights z, M_sight z), M_signs z, M_pad z, M_image z, M_isKept z) := rfl
theorem mk_things (z : MS) (f : Nat → Int32) : mkeep (M_set_things z f) = ((M_rooms z, f, M_size z, M_chairs z, M_width z, M_there z, M_likes z, M_place z, M_busy z, M_with z, M_left z, M_sights z, M_sight z), M_signs z, M_pad z, M_image z, M_isKept z) := rfl
theorem mk_width (z : MS) (f : Nat → Int32) : mkeep (M_set_width z f) = ((M_rooms z, M_things z, M_size z, M_chairs z, f, M_there z, M_likes z, M_place z, M_busy z, M_with z, M_left z, M_sights z, M_sight z), M_signs z, M_pad z, M_image z, M_isKept z) := rfl
theorem mk_there (z : MS) (v : Int32) : mkeep (M_set_there z v) = ((M_rooms z, M_things z, M_size z, M_chairs z, M_width z, v, M_likes z, M_place z, M_busy z, M_with z, M_left z, M_sights z, M_sight z), M_signs z, M_pad z, M_image z, M_isKept z) := rfl
theorem mk_rooms (z : MS) (v : Int32) : mkeep (M_set_rooms z v) = ((v, M_things z, M_size z, M_chairs z, M_width z, M_there z, M_likes z, M_place z, M_busy z, M_with z, M_left z, M_sights z, M_sight z), M_signs z, M_pad z, M_image z, M_isKept z) := rfl
def emT (m : MKK) (th sz ch wd : Nat → Int32) : MKK := ((m.1.1, th, sz, ch, wd, 0, m.1.2.2.2.2.2.2.1, m.1.2.2.2.2.2.2.2.1, m.1.2.2.2.2.2.2.2.2.1, m.1.2.2.2.2.2.2.2.2.2.1, m.1.2.2.2.2.2.2.2.2.2.2.1, 0, m.1.2.2.2.2.2.2.2.2.2.2.2.2), m.2.1, m.2.2.1, m.2.2.2.1, m.2.2.2.2)
/-- what the reference's empty() leaves: the rest of what lasts is as it was -/
def EmptyOf (m w : MKK) : Prop := ∃ th sz ch wd, w = emT m th sz ch wd ∧ (∀ k, k < 24 → th k = 0) ∧ (∀ r, r < 6 → sz r = 8 ∧ ch r = 0) ∧ ∀ k, k < 36 → wd k = 0
theorem ltA_eq {α β : Type} (x : α) (k : α → Option β) : ltA x k = k x := by rw [ltA]
theorem FU_ex : ∃ N, 60000 < N ∧ FU = N := ⟨FU, by decide, rfl⟩
theorem nlit {a b : Nat} (hb : b < 2 ^ 31) (h : a < b) : ¬ nI b ≤ nI a := nI_ge h hb
theorem empty_3 {N : Nat} (hFU : FU = N) (hN : 60000 < N) : ∀ (m : MKK) (z : MS), (∃ th sz ch wd, mkeep z = emT m th sz ch wd ∧ (∀ k, k < 24 → th k = 0) ∧ (∀ r, r < 6 → sz r = 8 ∧ ch r = 0)) → ∃ w, it X9_empty_B62 (fun _ _ => none) N z (nI 0) = some w ∧ EmptyOf m (mkeep w) := by
  intro m z h
  refine it_rule (bot := fun _ _ => none) 36 (fun i (z : MS) => ∃ th sz ch wd, mkeep z = emT m th sz ch wd ∧ (∀ k, k < 24 → th k = 0) ∧ (∀ r, r < 6 → sz r = 8 ∧ ch r = 0) ∧ ∀ k, k < i → wd k = 0) (fun k i z => ∃ w, k z (nI i) = some w ∧ EmptyOf m (mkeep w)) ?_ ?_ N 0 z (by omega) (by omega) ?_
  · intro k z hz
    exact ⟨z, by unfold X9_empty_B62; rw [if_pos (by decide)], hz⟩
  · intro k i z hi ⟨th, sz, ch, wd, e, h1, h2, h3⟩ hk
    have hw : M_width z = wd := congrArg (fun m => m.1.2.2.2.2.1) e
    obtain ⟨w, hw1, hw2⟩ := hk (M_set_width z (upd (M_width z) i 0)) ⟨th, sz, ch, upd wd i 0, by rw [mk_width, hw]; exact congrArg (fun m : MKK => ((m.1.1, m.1.2.1, m.1.2.2.1, m.1.2.2.2.1, upd wd i 0, m.1.2.2.2.2.2), m.2)) e, h1, h2, fun k hk => by
      by_cases q : k = i
      · subst q; exact pk_us
      · exact (pk_un q).trans (h3 k (by omega))⟩
    refine ⟨w, ?_, hw2⟩
    unfold X9_empty_B62 ltA
    rw [if_neg (show ¬ (36 : Int32) ≤ nI i from nlit (by decide) hi), chk_nI hi (by decide), nI_clamp (by omega), nI_1]
    exact hw1
  · obtain ⟨th, sz, ch, wd, e, h1, h2⟩ := h
    exact ⟨th, sz, ch, wd, e, h1, h2, fun k hk => absurd hk (Nat.not_lt_zero _)⟩
theorem empty_2 {N : Nat} (hFU : FU = N) (hN : 60000 < N) : ∀ (m : MKK) (z : MS), (∃ th sz ch wd, mkeep z = emT m th sz ch wd ∧ (∀ r, r < 6 → sz r = 8 ∧ ch r = 0)) → ∃ w, it X9_empty_B41 (fun _ _ => none) N z (nI 0) = some w ∧ EmptyOf m (mkeep w) := by
  intro m z h
  refine it_rule (bot := fun _ _ => none) 24 (fun i (z : MS) => ∃ th sz ch wd, mkeep z = emT m th sz ch wd ∧ (∀ k, k < i → th k = 0) ∧ (∀ r, r < 6 → sz r = 8 ∧ ch r = 0)) (fun k i z => ∃ w, k z (nI i) = some w ∧ EmptyOf m (mkeep w)) ?_ ?_ N 0 z (by omega) (by omega) ?_
  · intro k z hz
    obtain ⟨w, hw1, hw2⟩ := empty_3 hFU (by omega) m z hz
    exact ⟨w, by unfold X9_empty_B41; rw [if_pos (by decide), hFU]; exact hw1, hw2⟩
  · intro k i z hi ⟨th, sz, ch, wd, e, h1, h2⟩ hk
    have hw : M_things z = th := congrArg (fun m => m.1.2.1) e
    obtain ⟨w, hw1, hw2⟩ := hk (M_set_things z (upd (M_things z) i 0)) ⟨upd th i 0, sz, ch, wd, by rw [mk_things, hw]; exact congrArg (fun m : MKK => ((m.1.1, upd th i 0, m.1.2.2), m.2)) e, fun k hk => by
      by_cases q : k = i
      · subst q; exact pk_us
      · exact (pk_un q).trans (h1 k (by omega)), h2⟩
    refine ⟨w, ?_, hw2⟩
    unfold X9_empty_B41 ltA
    rw [if_neg (show ¬ (24 : Int32) ≤ nI i from nlit (by decide) hi), chk_nI hi (by decide), nI_clamp (by omega), nI_1]
    exact hw1
  · obtain ⟨th, sz, ch, wd, e, h1⟩ := h
    exact ⟨th, sz, ch, wd, e, fun k hk => absurd hk (Nat.not_lt_zero _), h1⟩
theorem empty_1 {N : Nat} (hFU : FU = N) (hN : 60000 < N) : ∀ (m : MKK) (z : MS), (∃ th sz ch wd, mkeep z = emT m th sz ch wd) → ∃ w, it X9_empty_B12 (fun _ _ => none) N z (nI 0) = some w ∧ EmptyOf m (mkeep w) := by
  intro m z h
  refine it_rule (bot := fun _ _ => none) 6 (fun i (z : MS) => ∃ th sz ch wd, mkeep z = emT m th sz ch wd ∧ (∀ r, r < i → sz r = 8 ∧ ch r = 0)) (fun k i z => ∃ w, k z (nI i) = some w ∧ EmptyOf m (mkeep w)) ?_ ?_ N 0 z (by omega) (by omega) ?_
  · intro k z hz
    obtain ⟨w, hw1, hw2⟩ := empty_2 hFU (by omega) m z hz
    exact ⟨w, by unfold X9_empty_B12; rw [if_pos (by decide), hFU]; exact hw1, hw2⟩
  · intro k i z hi ⟨th, sz, ch, wd, e, h1⟩ hk
    have hw : M_size z = sz := congrArg (fun m => m.1.2.2.1) e
    obtain ⟨z1, ez1⟩ : ∃ y, y = M_set_size z (upd (M_size z) i 8) := ⟨_, rfl⟩
    have e1 : mkeep z1 = emT m th (upd sz i 8) ch wd := by
      rw [ez1, mk_size, hw]; exact congrArg (fun m : MKK => ((m.1.1, m.1.2.1, upd sz i 8, m.1.2.2.2), m.2)) e
    have hc1 : M_chairs z1 = ch := congrArg (fun m => m.1.2.2.2.1) e1
    obtain ⟨w, hw1, hw2⟩ := hk (M_set_chairs z1 (upd (M_chairs z1) i 0)) ⟨th, upd sz i 8, upd ch i 0, wd, by rw [mk_chairs, hc1]; exact congrArg (fun m : MKK => ((m.1.1, m.1.2.1, m.1.2.2.1, upd ch i 0, m.1.2.2.2.2), m.2)) e1, fun k hk => by
      by_cases q : k = i
      · subst q; exact ⟨pk_us, pk_us⟩
      · exact ⟨(pk_un q).trans (h1 k (by omega)).1, (pk_un q).trans (h1 k (by omega)).2⟩⟩
    refine ⟨w, ?_, hw2⟩
    unfold X9_empty_B12 ltA
    rw [if_neg (show ¬ (6 : Int32) ≤ nI i from nlit (by decide) hi), chk_nI hi (by decide), nI_clamp (by omega), ← ez1]
    show chk (nI i) 6 (k (M_set_chairs z1 (upd (M_chairs z1) i 0)) (nI i + 1)) = some w
    rw [chk_nI hi (by decide), nI_1]
    exact hw1
  · obtain ⟨th, sz, ch, wd, e⟩ := h
    exact ⟨th, sz, ch, wd, e, fun k hk => absurd hk (Nat.not_lt_zero _)⟩
theorem empty_spec (z : MS) : ∃ w, f_X9_empty z = some w ∧ EmptyOf (mkeep z) (mkeep w) := by
  obtain ⟨N, hN, hFU⟩ := FU_ex
  unfold f_X9_empty
  rw [hFU, ltA_eq, ltA_eq]
  obtain ⟨z1, ez1⟩ : ∃ y, y = M_set_there z (0 : Int32) := ⟨_, rfl⟩
  have e1 := mk_there z 0
  rw [← ez1] at e1 ⊢
  obtain ⟨w, h1, h2⟩ := empty_1 hFU hN (mkeep z) (M_set_sights z1 0) ⟨M_things z, M_size z, M_chairs z, M_width z, by rw [mk_sights]; exact congrArg (fun m : MKK => ((m.1.1, m.1.2.1, m.1.2.2.1, m.1.2.2.2.1, m.1.2.2.2.2.1, m.1.2.2.2.2.2.1, m.1.2.2.2.2.2.2.1, m.1.2.2.2.2.2.2.2.1, m.1.2.2.2.2.2.2.2.2.1, m.1.2.2.2.2.2.2.2.2.2.1, m.1.2.2.2.2.2.2.2.2.2.2.1, (0 : Int32), m.1.2.2.2.2.2.2.2.2.2.2.2.2), m.2)) e1⟩
  exact ⟨w, h1, h2⟩
