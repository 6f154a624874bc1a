theorem mk_likes (z : MS) (f : Nat → Int32) : mkeep (M_set_likes z f) = ((M_rooms z, M_things z, M_size z, M_chairs z, M_width z, M_there z, f, M_place z, M_busy z, M_with z, M_left z, M_sights z, M_sight z), M_signs z, M_pad z, M_image z, M_isKept z) := rfl
theorem mk_sight (z : MS) (f : Nat → Int32) : mkeep (M_set_sight z f) = ((M_rooms z, M_things z, M_size z, M_chairs z, M_width z, M_there z, M_likes z, M_place z, M_busy z, M_with z, M_left z, M_sights z, f), M_signs z, M_pad z, M_image z, M_isKept z) := rfl
theorem ix5 (g k : Nat) : nI g * 5 + nI k = nI (g * 5 + k) := by rw [show (5 : Int32) = nI 5 from rfl, pk_mul, nI_add]
theorem ix5' (g k : Nat) : 5 * nI g + nI k = nI (5 * g + k) := by rw [show (5 : Int32) = nI 5 from rfl, pk_mul, nI_add]
theorem ix6 (g k : Nat) : nI g * 6 + nI k = nI (g * 6 + k) := by rw [show (6 : Int32) = nI 6 from rfl, pk_mul, nI_add]
theorem ix6' (g k : Nat) : 6 * nI g + nI k = nI (6 * g + k) := by rw [show (6 : Int32) = nI 6 from rfl, pk_mul, nI_add]
theorem ix4' (g k : Nat) : 4 * nI g + nI k = nI (4 * g + k) := by rw [show (4 : Int32) = nI 4 from rfl, pk_mul, nI_add]
/-- a state with other likes -/
def a_setLk (a : AS) (f : Nat → Nat → Int) : AS := (a_R a, a_T a, a_k a, a_th a, a_sz a, a_ch a, a_wd a, f, a_pl a, a_bs a, a_mt a, a_lf a, a_sg a, a_sr a)
theorem Rel.mk {S : KDS} {z : MS} {a : AS} (hI : Inv a) (hH : Hc (K_now S) a) (hM : Mc (mcore z) a) (h : (RelK (kkeep S) (mkeep z)) ∨ True) (hp : PadR (K_pad S) (M_signs z) (M_pad z)) (h0 : ImgR (K_kept S 0) (M_isKept z 0) (K_img0 S) (mimg (M_image z) 0)) (h1 : ImgR (K_kept S 1) (M_isKept z 1) (K_img1 S) (mimg (M_image z) 200)) : Rel S z := ⟨⟨a, hI, hH, hM⟩, hp, h0, h1⟩
theorem sim_likes : Sim_likes Rel := by
  intro S z x1 x2 x3 h
  obtain ⟨⟨a, hI, hH, hM⟩, h3⟩ := id h
  have hH : Hc (K_now S) a := hH
  have hM : Mc (mcore z) a := hM
  rcases th_cases hI hH hM x1 with ⟨g, hg, rfl, hg1, t1, t2⟩ | ⟨t1, t2⟩
  · rcases num_cases x2 (n := 5) (by decide) with ⟨k, hk, rfl⟩ | hx2
    · have b2 : f_X9_in (nI k) 0 4 = some 1 := in_nI (n := 5) hk (by decide)
      by_cases c3 : x3 < -3
      · refine ⟨(-2, K_now S), (-2, z), ?_, ?_, rfl, h⟩
        · unfold f_X8_likes; rw [t1, Option.bind_some, if_neg (by decide), if_neg (nI_pos (by omega)), if_neg (show ¬ (5 : Int32) ≤ nI k from nlit (by decide) hk), if_pos c3]
        · unfold f_X9_likes; rw [t2, Option.bind_some, if_neg (by decide), b2, Option.bind_some, if_neg (by decide), in_0 (Or.inl c3), Option.bind_some, if_pos rfl]
      · by_cases c4 : x3 ≤ 3
        · have hv : -3 ≤ x3.toInt ∧ x3.toInt ≤ 3 := by
            rw [Int32.not_lt, Int32.le_iff_toInt_le] at c3
            rw [Int32.le_iff_toInt_le] at c4
            exact ⟨c3, c4⟩
          have e1 : H_likes (K_now S) (g * 5 + k) = Int32.ofInt (a_lk a g k) := hH.2.2.2.2.2.2.1 g k hg hk
          have e2 : M_likes z (5 * g + k) = Int32.ofInt (a_lk a g k) := (hM.2.2.2.2.2.1 g hg hg1).2.2.2.2 k hk
          obtain ⟨z1, ez1⟩ : ∃ y, y = M_set_likes z (upd (M_likes z) (5 * g + k) x3) := ⟨_, rfl⟩
          have k1 := mk_likes z (upd (M_likes z) (5 * g + k) x3)
          rw [← ez1] at k1
          refine ⟨(Int32.ofInt (a_lk a g k) + 10, H_set_likes (K_now S) (upd (H_likes (K_now S)) (g * 5 + k) x3)), (Int32.ofInt (a_lk a g k) + 10, z1), ?_, ?_, rfl, ?_⟩
          · unfold f_X8_likes; rw [t1, Option.bind_some, if_neg (by decide), if_neg (nI_pos (by omega)), if_neg (show ¬ (5 : Int32) ≤ nI k from nlit (by decide) hk), if_neg c3, if_pos c4, ix5, chk_nI (by omega) (by decide), chk_nI (by omega) (by decide), nI_clamp (by omega), ltA_eq, e1]
          · unfold f_X9_likes; rw [t2, Option.bind_some, if_neg (by decide), b2, Option.bind_some, if_neg (by decide), in_1 c3 (Int32.not_lt.mpr c4), Option.bind_some, if_neg (by decide), ix5', chk_nI (by omega) (by decide), chk_nI (by omega) (by decide), nI_clamp (by omega), ltA_eq, ← ez1, e2]
          · obtain ⟨i1, i2, i3, i4, i5, i6, i7, i8, i9, i10, i11⟩ := hI
            obtain ⟨d1, d2, d3, d4, d5, d6, d7, d8⟩ := hH
            obtain ⟨m1, m2, m3, m4, m5, m6, m7⟩ := hM
            unfold Rel
            rw [k1]
            refine ⟨⟨a_setLk a (fun g' k' => if g' = g ∧ k' = k then x3.toInt else a_lk a g' k'), ⟨i1, i2, i3, i4, ?_, ?_, i7, i8, i9, i10, i11⟩, ⟨d1, d2, d3, d4, d5, d6, ?_, d8⟩, ⟨m1, m2, m3, m4, m5, ?_, m7⟩⟩, h3⟩
            · intro g' hg' hi'
              refine ⟨(i5 g' hg' hi').1, (i5 g' hg' hi').2.1, fun k' hk' => ?_⟩
              show (if g' = g ∧ k' = k then x3.toInt else a_lk a g' k') = 0
              rw [if_neg (fun q => by rw [q.1] at hi'; exact absurd (hg1.symm.trans hi') (by decide))]
              exact (i5 g' hg' hi').2.2 k' hk'
            · intro g' hg' hi'
              refine ⟨(i6 g' hg' hi').1, (i6 g' hg' hi').2.1, fun k' hk' => ?_⟩
              show -3 ≤ (if g' = g ∧ k' = k then x3.toInt else a_lk a g' k') ∧ (if g' = g ∧ k' = k then x3.toInt else a_lk a g' k') ≤ 3
              by_cases q : g' = g ∧ k' = k
              · rw [if_pos q]; exact hv
              · rw [if_neg q]; exact (i6 g' hg' hi').2.2 k' hk'
            · intro g' k' hg' hk'
              show upd (H_likes (K_now S)) (g * 5 + k) x3 (g' * 5 + k') = Int32.ofInt (if g' = g ∧ k' = k then x3.toInt else a_lk a g' k')
              by_cases q : g' = g ∧ k' = k
              · rw [if_pos q, q.1, q.2, pk_us, Int32.ofInt_toInt]
              · rw [if_neg q, pk_un (by omega)]; exact d7 g' k' hg' hk'
            · intro g' hg' hi'
              refine ⟨(m6 g' hg' hi').1, (m6 g' hg' hi').2.1, (m6 g' hg' hi').2.2.1, (m6 g' hg' hi').2.2.2.1, fun k' hk' => ?_⟩
              show upd (M_likes z) (5 * g + k) x3 (5 * g' + k') = Int32.ofInt (if g' = g ∧ k' = k then x3.toInt else a_lk a g' k')
              by_cases q : g' = g ∧ k' = k
              · rw [if_pos q, q.1, q.2, pk_us, Int32.ofInt_toInt]
              · rw [if_neg q, pk_un (by omega)]; exact (m6 g' hg' hi').2.2.2.2 k' hk'
        · refine ⟨(-2, K_now S), (-2, z), ?_, ?_, rfl, h⟩
          · unfold f_X8_likes; rw [t1, Option.bind_some, if_neg (by decide), if_neg (nI_pos (by omega)), if_neg (show ¬ (5 : Int32) ≤ nI k from nlit (by decide) hk), if_neg c3, if_neg c4]
          · unfold f_X9_likes; rw [t2, Option.bind_some, if_neg (by decide), b2, Option.bind_some, if_neg (by decide), in_0 (Or.inr (Int32.not_le.mp c4)), Option.bind_some, if_pos rfl]
    · have b2 : f_X9_in x2 0 4 = some 0 := in_no (n := 5) (by decide) (by decide) hx2
      refine ⟨(-2, K_now S), (-2, z), ?_, ?_, rfl, h⟩
      · unfold f_X8_likes
        rw [t1, Option.bind_some, if_neg (by decide)]
        by_cases c : x2 < 0
        · rw [if_pos c]
        · rw [if_neg c, if_pos (show (5 : Int32) ≤ x2 from hx2.resolve_left c)]
      · unfold f_X9_likes; rw [t2, Option.bind_some, if_neg (by decide), b2, Option.bind_some, if_pos rfl]
  · refine ⟨(-1, K_now S), (-1, z), ?_, ?_, rfl, h⟩
    · unfold f_X8_likes; rw [t1, Option.bind_some, if_pos rfl]
    · unfold f_X9_likes; rw [t2, Option.bind_some, if_pos rfl]
