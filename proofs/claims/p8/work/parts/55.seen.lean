/-- a state with other sights -/
def a_setSt (a : AS) (k : Nat) (f f2 : Nat → Nat) : AS := (a_R a, a_T a, k, a_th a, a_sz a, a_ch a, a_wd a, a_lk a, a_pl a, a_bs a, a_mt a, a_lf a, f, f2)
theorem sim_seen : Sim_seen Rel := by
  intro S z x1 x2 h
  obtain ⟨⟨a, hI, hH, hM⟩, h3⟩ := id h
  have hH : Hc (K_now S) a := hH
  have hM : Mc (mcore z) a := hM
  have hk6 := hI.1.2.2.2
  have es : H_sights (K_now S) = nI (a_k a) := hH.2.2.1
  have es2 : M_sights z = nI (a_k a) := hM.2.2.1
  rcases num_cases x1 (n := 8) (by decide) with ⟨g, hg, rfl⟩ | hx1
  · have b1 : f_X9_in (nI g) 0 7 = some 1 := in_nI (n := 8) hg (by decide)
    rcases rm_cases hI hH hM x2 with ⟨r, hr, rfl, t1, t2⟩ | ⟨hx2, t1, t2⟩
    · by_cases c : a_k a = 6
      · refine ⟨(-4, K_now S), (-4, z), ?_, ?_, rfl, h⟩
        · unfold f_X8_seen; rw [if_neg (nI_pos (by omega)), if_neg (show ¬ (8 : Int32) ≤ nI g from nlit (by decide) hg), t1, Option.bind_some, if_neg (by decide), es, c, if_neg (by decide)]
        · unfold f_X9_seen; rw [b1, Option.bind_some, if_neg (by decide), t2, Option.bind_some, if_neg (by decide), es2, c, if_pos (by decide)]
      · have hlt : a_k a < 6 := by omega
        obtain ⟨z1, ez1⟩ : ∃ y, y = M_set_sight z (upd (M_sight z) (2 * a_k a) (nI g)) := ⟨_, rfl⟩
        have k1 := mk_sight z (upd (M_sight z) (2 * a_k a) (nI g))
        rw [← ez1] at k1
        have s1 : M_sights z1 = nI (a_k a) := (congrArg (fun m => m.1.2.2.2.2.2.2.2.2.2.2.2.1) k1).trans es2
        have f1 : M_sight z1 = upd (M_sight z) (2 * a_k a) (nI g) := congrArg (fun m => m.1.2.2.2.2.2.2.2.2.2.2.2.2) k1
        obtain ⟨z2, ez2⟩ : ∃ y, y = M_set_sight z1 (upd (M_sight z1) (2 * a_k a + 1) (nI r)) := ⟨_, rfl⟩
        have k2 := mk_sight z1 (upd (M_sight z1) (2 * a_k a + 1) (nI r))
        rw [← ez2, f1] at k2
        have s2 : M_sights z2 = nI (a_k a) := (congrArg (fun m => m.1.2.2.2.2.2.2.2.2.2.2.2.1) k2).trans s1
        obtain ⟨z3, ez3⟩ : ∃ y, y = M_set_sights z2 (nI (a_k a) + 1) := ⟨_, rfl⟩
        have k3 := mk_sights z2 (nI (a_k a) + 1)
        rw [← ez3] at k3
        have s3 : M_sights z3 = nI (a_k a) + 1 := congrArg (fun m => m.1.2.2.2.2.2.2.2.2.2.2.2.1) k3
        have k3' : mkeep z3 = ((M_rooms z, M_things z, M_size z, M_chairs z, M_width z, M_there z, M_likes z, M_place z, M_busy z, M_with z, M_left z, nI (a_k a) + 1, upd (upd (M_sight z) (2 * a_k a) (nI g)) (2 * a_k a + 1) (nI r)), M_signs z, M_pad z, M_image z, M_isKept z) := by
          refine k3.trans ?_
          refine (congrArg (fun m : MKK => ((m.1.1, m.1.2.1, m.1.2.2.1, m.1.2.2.2.1, m.1.2.2.2.2.1, m.1.2.2.2.2.2.1, m.1.2.2.2.2.2.2.1, m.1.2.2.2.2.2.2.2.1, m.1.2.2.2.2.2.2.2.2.1, m.1.2.2.2.2.2.2.2.2.2.1, m.1.2.2.2.2.2.2.2.2.2.2.1, nI (a_k a) + 1, m.1.2.2.2.2.2.2.2.2.2.2.2.2), m.2)) k2).trans ?_
          exact congrArg (fun m : MKK => ((m.1.1, m.1.2.1, m.1.2.2.1, m.1.2.2.2.1, m.1.2.2.2.2.1, m.1.2.2.2.2.2.1, m.1.2.2.2.2.2.2.1, m.1.2.2.2.2.2.2.2.1, m.1.2.2.2.2.2.2.2.2.1, m.1.2.2.2.2.2.2.2.2.2.1, m.1.2.2.2.2.2.2.2.2.2.2.1, nI (a_k a) + 1, upd (upd (M_sight z) (2 * a_k a) (nI g)) (2 * a_k a + 1) (nI r)), m.2)) k1
        have i2 : (2 : Int32) * nI (a_k a) = nI (2 * a_k a) := by rw [show (2 : Int32) = nI 2 from rfl, pk_mul]
        refine ⟨(nI (a_k a) + 1, H_set_sights (H_set_sightRoom (H_set_sightGuest (K_now S) (upd (H_sightGuest (K_now S)) (a_k a) (nI g))) (upd (H_sightRoom (K_now S)) (a_k a) (nI r))) (nI (a_k a) + 1)), (nI (a_k a) + 1, z3), ?_, ?_, rfl, ?_⟩
        · unfold f_X8_seen; rw [if_neg (nI_pos (by omega)), if_neg (show ¬ (8 : Int32) ≤ nI g from nlit (by decide) hg), t1, Option.bind_some, if_neg (by decide), es, if_pos (show nI (a_k a) < (6 : Int32) from nI_lt hlt (by decide)), chk_nI hlt (by decide), nI_clamp (by omega), ltA_eq, chk_nI hlt (by decide), ltA_eq]
        · unfold f_X9_seen; rw [b1, Option.bind_some, if_neg (by decide), t2, Option.bind_some, if_neg (by decide), es2, if_neg (show ¬ nI (a_k a) = (6 : Int32) from fun q => c ((nI_eq (by omega) (b := 6) (by decide)).mp q)), i2, chk_nI (by omega) (by decide), nI_clamp (by omega), ltA_eq, ← ez1, s1, i2, nI_1, chk_nI (by omega) (by decide), nI_clamp (by omega), ltA_eq, ← ez2, s2, ltA_eq, ← ez3, s3]
        · obtain ⟨i1, i2, i3, i4, i5, i6, i7, i8, i9, i10, i11⟩ := hI
          obtain ⟨d1, d2, d3, d4, d5, d6, d7, d8⟩ := hH
          obtain ⟨m1, m2, m3, m4, m5, m6, m7⟩ := hM
          unfold Rel
          rw [k3']
          refine ⟨⟨a_setSt a (a_k a + 1) (fun s => if s = a_k a then g else a_sg a s) (fun s => if s = a_k a then r else a_sr a s), ⟨⟨i1.1, i1.2.1, i1.2.2.1, hlt⟩, i2, i3, i4, i5, i6, i7, i8, i9, i10, ?_⟩, ⟨d1, d2, nI_1 _, d4, d5, d6, d7, ?_⟩, ⟨m1, m2, nI_1 _, m4, m5, m6, ?_⟩⟩, h3⟩
          · intro s hs
            show (if s = a_k a then g else a_sg a s) < 8 ∧ (if s = a_k a then r else a_sr a s) < a_R a
            by_cases q : s = a_k a
            · rw [if_pos q, if_pos q]; exact ⟨hg, hr⟩
            · rw [if_neg q, if_neg q]; exact i11 s (by have : s < a_k a + 1 := hs; omega)
          · intro s hs
            show upd (H_sightGuest (K_now S)) (a_k a) (nI g) s = nI (if s = a_k a then g else a_sg a s) ∧ upd (H_sightRoom (K_now S)) (a_k a) (nI r) s = nI (if s = a_k a then r else a_sr a s)
            by_cases q : s = a_k a
            · rw [if_pos q, if_pos q, q, pk_us, pk_us]; exact ⟨rfl, rfl⟩
            · rw [if_neg q, if_neg q, pk_un q, pk_un q]; exact d8 s (by have : s < a_k a + 1 := hs; omega)
          · intro s hs
            show upd (upd (M_sight z) (2 * a_k a) (nI g)) (2 * a_k a + 1) (nI r) (2 * s) = nI (if s = a_k a then g else a_sg a s) ∧ upd (upd (M_sight z) (2 * a_k a) (nI g)) (2 * a_k a + 1) (nI r) (2 * s + 1) = nI (if s = a_k a then r else a_sr a s)
            by_cases q : s = a_k a
            · rw [if_pos q, if_pos q, q, pk_un (by omega), pk_us, pk_us]; exact ⟨rfl, rfl⟩
            · rw [if_neg q, if_neg q, pk_un (by omega), pk_un (by omega), pk_un (by omega), pk_un (by omega)]; exact m7 s (by have : s < a_k a + 1 := hs; omega)
    · refine ⟨(-1, K_now S), (-1, z), ?_, ?_, rfl, h⟩
      · unfold f_X8_seen; rw [if_neg (nI_pos (by omega)), if_neg (show ¬ (8 : Int32) ≤ nI g from nlit (by decide) hg), t1, Option.bind_some, if_pos rfl]
      · unfold f_X9_seen; rw [b1, Option.bind_some, if_neg (by decide), t2, Option.bind_some, if_pos rfl]
  · refine ⟨(-1, K_now S), (-1, z), ?_, ?_, rfl, h⟩
    · unfold f_X8_seen
      by_cases c : x1 < 0
      · rw [if_pos c]
      · rw [if_neg c, if_pos (show (8 : Int32) ≤ x1 from hx1.resolve_left c)]
    · unfold f_X9_seen; rw [show f_X9_in x1 0 7 = some 0 from in_no (n := 8) (by decide) (by decide) hx1, Option.bind_some, if_pos rfl]
