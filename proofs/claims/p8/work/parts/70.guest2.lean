theorem orb_clr {T g : Nat} (hT : T < 256) (hg : g < 8) : nI (clr T g) ||| ((1 : Int32) <<< (nI g &&& 31)) = nI (orb T g) := by
  have h := orb_1 hT hg
  rw [← h.2.2.1]; exact h.2.1
theorem sim_guest : Sim_guest Rel := by
  intro S z x1 x2 h
  obtain ⟨⟨a, hI, hH, hM⟩, h3⟩ := id h
  have hH : Hc (K_now S) a := hH
  have hM : Mc (mcore z) a := hM
  have hR6 := hI.1.2.1
  have hT := hI.1.2.2.1
  have out : ∀ v : Int32, f_X8_guest (K_now S) x1 x2 = some (v, K_now S) → f_X9_guest z x1 x2 = some (v, z) → ∃ q w, f_X8_guest (K_now S) x1 x2 = some q ∧ f_X9_guest z x1 x2 = some w ∧ q.1 = w.1 ∧ Rel (K_set_now S q.2) w.2 := fun v e1 e2 => ⟨_, _, e1, e2, rfl, h⟩
  rcases num_cases x1 (n := 8) (by decide) with ⟨g, hg, rfl⟩ | hx
  · have t1 : ¬ nI g < 0 := nI_pos (by omega)
    have t2 : ¬ (8 : Int32) ≤ nI g := nlit (by decide) hg
    have t3 : f_X9_in (nI g) 0 7 = some 1 := in_nI (n := 8) hg (by decide)
    rcases rm_cases hI hH hM x2 with ⟨r, hr, rfl, b1, b2⟩ | ⟨-, b1, b2⟩
    · have hs : H_measure (K_now S) (r * 6 + 4) = nI (a_sz a r) := (hH.2.2.2.1 r (by omega)).2.1
      have hs2 : M_size z r = nI (a_sz a r) := (hM.2.2.2.1 r (by omega)).2.1
      have s9 := (hI.2.1 r (by omega)).2.2.1
      have e1 : f_X1_sizeOf (K_now S) (nI r) = some (nI (a_sz a r)) := by
        unfold f_X1_sizeOf
        rw [show (4 : Int32) = nI 4 from rfl, ix6, chk_nI (by omega) (by decide), nI_clamp (by omega), hs]
      have e2 := inRoom_spec hI hM (r := r) (by omega) (-1) (nI g)
      have e3 : cnt (fun j => ((a_is a j && a_pl a j == r) && !(decide (nI j = nI g))) && (decide ((-1 : Int32) < 0) || decide (nI (a_bs a j) = (-1 : Int32)))) 8 = cnt (fun j => (a_is a j && a_pl a j == r) && !(j == g)) 8 := cnt_congr (fun j hj => by
        have q : decide (nI j = nI g) = (j == g) := by rw [Bool.eq_iff_iff, decide_eq_true_eq, nI_eq (by omega) (by omega), beq_iff_eq]
        rw [q, show decide ((-1 : Int32) < 0) = true from rfl]; simp)
      rw [e3] at e2
      have hc8 := cnt_le (fun j => (a_is a j && a_pl a j == r) && !(j == g)) 8
      have lt : (nI (cnt (fun j => (a_is a j && a_pl a j == r) && !(j == g)) 8) < nI (a_sz a r)) ↔ cnt (fun j => (a_is a j && a_pl a j == r) && !(j == g)) 8 < a_sz a r := nI_ltI (by omega) (by omega)
      by_cases c : cnt (fun j => (a_is a j && a_pl a j == r) && !(j == g)) 8 < a_sz a r
      · obtain ⟨h1, d1, H1⟩ := dismiss_spec hI hH hg
        obtain ⟨w1, bs, lf, f1, f2, f3⟩ := off_spec hI hM hg
        have ht1 : H_there h1 = nI (clr (a_T a) g) := H1.2.1
        have ht2 : M_there w1 = nI (a_T a) := (congrArg (fun m => m.1.2.2.2.2.2.1) f2).trans hM.2.1
        obtain ⟨w2, ew2⟩ : ∃ y, y = M_set_there w1 (nI (orb (a_T a) g)) := ⟨_, rfl⟩
        have k2 := mk_there w1 (nI (orb (a_T a) g))
        rw [← ew2] at k2
        obtain ⟨w3, ew3⟩ : ∃ y, y = M_set_place w2 (upd (M_place w2) g (nI r)) := ⟨_, rfl⟩
        have k3 := mk_place w2 (upd (M_place w2) g (nI r))
        rw [← ew3] at k3
        have ht3 : M_there w3 = nI (orb (a_T a) g) := (congrArg (fun m => m.1.2.2.2.2.2.1) k3).trans (congrArg (fun m => m.1.2.2.2.2.2.1) k2)
        obtain ⟨w4, f, l1, l2, l3, l4⟩ := guest_lk ht3 (orb_1 hT hg).2.2.2.1 hg
        have hp2 : M_place w2 = M_place z := (congrArg (fun m => m.1.2.2.2.2.2.2.2.1) k2).trans (congrArg (fun m => m.1.2.2.2.2.2.2.2.1) f2)
        have hlk3 : M_likes w3 = M_likes z := ((congrArg (fun m => m.1.2.2.2.2.2.2.1) k3).trans (congrArg (fun m => m.1.2.2.2.2.2.2.1) k2)).trans (congrArg (fun m => m.1.2.2.2.2.2.2.1) f2)
        have km : mkeep w4 = ((M_rooms z, M_things z, M_size z, M_chairs z, M_width z, nI (orb (a_T a) g), f, upd (M_place z) g (nI r), bs, M_with z, lf, M_sights z, M_sight z), M_signs z, M_pad z, M_image z, M_isKept z) := by
          rw [l2, k3, hp2]
          have q1 := congrArg (fun m : MKK => ((m.1.1, m.1.2.1, m.1.2.2.1, m.1.2.2.2.1, m.1.2.2.2.2.1, m.1.2.2.2.2.2.1, f, upd (M_place z) g (nI r), m.1.2.2.2.2.2.2.2.2.1, m.1.2.2.2.2.2.2.2.2.2.1, m.1.2.2.2.2.2.2.2.2.2.2.1, m.1.2.2.2.2.2.2.2.2.2.2.2), m.2)) k2
          have q2 := congrArg (fun m : MKK => ((m.1.1, m.1.2.1, m.1.2.2.1, m.1.2.2.2.1, m.1.2.2.2.2.1, nI (orb (a_T a) g), f, upd (M_place z) g (nI r), m.1.2.2.2.2.2.2.2.2.1, m.1.2.2.2.2.2.2.2.2.2.1, m.1.2.2.2.2.2.2.2.2.2.2.1, m.1.2.2.2.2.2.2.2.2.2.2.2), m.2)) f2
          exact q1.trans q2
        have ho : ∀ j, j < 8 → j ≠ g → (orb (a_T a) g).testBit j = a_is a j := fun j hj cj => by rw [orb_at hT hg hj]; simp [cj]; rfl
        have hgt : (orb (a_T a) g).testBit g = true := by rw [orb_at hT hg hg]; simp
        refine ⟨(nI (cnt (fun j => (orb (a_T a) g).testBit j) 8), H_set_place (H_set_there h1 (nI (orb (a_T a) g))) (upd (H_place h1) g (nI r))), (nI (cnt (fun j => (orb (a_T a) g).testBit j) 8), w4), ?_, ?_, rfl, ?_⟩
        · have ho1 : f_X1_others (K_now S) (nI g) (nI r) = some (nI (cnt (fun j => (a_is a j && a_pl a j == r) && !(j == g)) 8)) := others_spec hI hH hg (by omega)
          have hp : f_J6_bitCount_0f7a4 (nI (orb (a_T a) g)) = some (nI (cnt (fun j => (orb (a_T a) g).testBit j) 8)) := pop_dec ⟨_, (orb_1 hT hg).2.2.2.1⟩
          unfold f_X8_guest
          rw [if_neg t1, if_neg t2, b1, Option.bind_some, if_neg (show ¬ (1 : Int32) = 0 by decide), ho1, Option.bind_some, e1, Option.bind_some, if_pos (lt.mpr c), d1, Option.bind_some, chk_nI hg (by decide), nI_clamp (by omega), ltA_eq, ht1, orb_clr hT hg, hp, Option.bind_some]
        · unfold f_X9_guest
          rw [t3, Option.bind_some, if_neg (show ¬ (1 : Int32) = 0 by decide), b2, Option.bind_some, if_neg (show ¬ (1 : Int32) = 0 by decide), e2, Option.bind_some, chk_nI (show r < 6 by omega) (by decide), nI_clamp (by omega), hs2, if_pos (lt.mpr c), f1, Option.bind_some, ltA_eq, ht2, (orb_1 hT hg).1, ← ew2, chk_nI hg (by decide), nI_clamp (by omega), ltA_eq, ← ew3]
          exact l1
        · unfold Rel
          rw [km]
          refine ⟨⟨nw a g (orb (a_T a) g) r, Inv_nw hI hg (orb_1 hT hg).2.2.2.1 ho (fun _ => ⟨hr, c⟩) (fun q => absurd q (by rw [hgt]; decide)), ?_, Mc_nw hI hM hg ho f3 (fun _ => ⟨pk_us, l3⟩) (fun j hj cj => ⟨pk_un cj, fun k hk => (l4 j k hj hk cj).trans (by rw [hlk3])⟩)⟩, h3⟩
          show Hc (H_set_place (H_set_there h1 (nI (orb (a_T a) g))) (upd (H_place h1) g (nI r))) _
          unfold Hc at H1 ⊢
          simp only [nw_R, nw_T, nw_k, nw_th, nw_sz, nw_ch, nw_wd, nw_sg, nw_sr, nw_lk, nw_pl, nw_bs, nw_mt, nw_lf] at H1 ⊢
          obtain ⟨u1, u2, u3, u4, u5, u6, u7, u8⟩ := H1
          refine ⟨u1, rfl, u3, u4, u5, ?_, u7, u8⟩
          intro j hj
          refine ⟨?_, (u6 j hj).2⟩
          show upd (H_place h1) g (nI r) j = _
          by_cases cj : j = g
          · rw [if_pos cj, cj, pk_us]
          · have := (u6 j hj).1
            rw [if_neg cj] at this
            rw [if_neg cj, pk_un cj]; exact this
      · have ho1 : f_X1_others (K_now S) (nI g) (nI r) = some (nI (cnt (fun j => (a_is a j && a_pl a j == r) && !(j == g)) 8)) := others_spec hI hH hg (by omega)
        refine out (-4) ?_ ?_
        · unfold f_X8_guest
          rw [if_neg t1, if_neg t2, b1, Option.bind_some, if_neg (show ¬ (1 : Int32) = 0 by decide), ho1, Option.bind_some, e1, Option.bind_some, if_neg (fun q => c (lt.mp q))]
        · unfold f_X9_guest
          rw [t3, Option.bind_some, if_neg (show ¬ (1 : Int32) = 0 by decide), b2, Option.bind_some, if_neg (show ¬ (1 : Int32) = 0 by decide), e2, Option.bind_some, chk_nI (show r < 6 by omega) (by decide), nI_clamp (by omega), hs2, if_neg (fun q => c (lt.mp q))]
    · refine out (-1) ?_ ?_
      · unfold f_X8_guest; rw [if_neg t1, if_neg t2, b1, Option.bind_some, if_pos rfl]
      · unfold f_X9_guest; rw [t3, Option.bind_some, if_neg (show ¬ (1 : Int32) = 0 by decide), b2, Option.bind_some, if_pos rfl]
  · refine out (-1) ?_ ?_
    · unfold f_X8_guest
      by_cases c : x1 < 0
      · rw [if_pos c]
      · rw [if_neg c, if_pos (show (8 : Int32) ≤ x1 from hx.resolve_left c)]
    · unfold f_X9_guest; rw [show f_X9_in x1 0 7 = some 0 from in_no (n := 8) (by decide) (by decide) hx, Option.bind_some, if_pos rfl]
theorem sim_leave : Sim_leave Rel := by
  intro S z x1 h
  obtain ⟨⟨a, hI, hH, hM⟩, h3⟩ := id h
  have hH : Hc (K_now S) a := hH
  have hM : Mc (mcore z) a := hM
  have hT := hI.1.2.2.1
  rcases th_cases hI hH hM x1 with ⟨g, hg, rfl, hg1, t1, t2⟩ | ⟨t1, t2⟩
  · obtain ⟨h1, d1, H1⟩ := dismiss_spec hI hH hg
    obtain ⟨w1, bs, lf, f1, f2, f3⟩ := off_spec hI hM hg
    have ht1 : H_there h1 = nI (clr (a_T a) g) := H1.2.1
    have ht2 : M_there w1 = nI (a_T a) := (congrArg (fun m => m.1.2.2.2.2.2.1) f2).trans hM.2.1
    obtain ⟨w2, ew2⟩ : ∃ y, y = M_set_there w1 (nI (clr (a_T a) g)) := ⟨_, rfl⟩
    have k2 := mk_there w1 (nI (clr (a_T a) g))
    rw [← ew2] at k2
    have ht3 : M_there w2 = nI (clr (a_T a) g) := congrArg (fun m => m.1.2.2.2.2.2.1) k2
    have hc := (orb_1 hT hg).2.2.2.2
    have km : mkeep w2 = ((M_rooms z, M_things z, M_size z, M_chairs z, M_width z, nI (clr (a_T a) g), M_likes z, M_place z, bs, M_with z, lf, M_sights z, M_sight z), M_signs z, M_pad z, M_image z, M_isKept z) := by
      rw [k2]
      exact congrArg (fun m : MKK => ((m.1.1, m.1.2.1, m.1.2.2.1, m.1.2.2.2.1, m.1.2.2.2.2.1, nI (clr (a_T a) g), m.1.2.2.2.2.2.2), m.2)) f2
    have ho : ∀ j, j < 8 → j ≠ g → (clr (a_T a) g).testBit j = a_is a j := fun j hj cj => by rw [clr_at hT hg hj]; simp [cj]; rfl
    have hgt : (clr (a_T a) g).testBit g = false := by rw [clr_at hT hg hg]; simp
    refine ⟨(nI (cnt (fun j => (clr (a_T a) g).testBit j) 8), h1), (nI (cnt (fun j => (clr (a_T a) g).testBit j) 8), w2), ?_, ?_, rfl, ?_⟩
    · have hp : f_J6_bitCount_0f7a4 (nI (clr (a_T a) g)) = some (nI (cnt (fun j => (clr (a_T a) g).testBit j) 8)) := pop_dec ⟨_, hc⟩
      unfold f_X8_leave
      rw [t1, Option.bind_some, if_neg (show ¬ (1 : Int32) = 0 by decide), d1, Option.bind_some, ht1, hp, Option.bind_some]
    · unfold f_X9_leave
      rw [t2, Option.bind_some, if_neg (show ¬ (1 : Int32) = 0 by decide), f1, Option.bind_some, ltA_eq, ht2, (orb_1 hT hg).2.2.1, ← ew2, ht3, bits_spec hc, Option.bind_some]
    · unfold Rel
      rw [km]
      exact ⟨⟨nw a g (clr (a_T a) g) 0, Inv_nw hI hg hc ho (fun q => absurd q (by rw [hgt]; decide)) (fun _ => rfl), H1, Mc_nw hI hM hg ho f3 (fun q => absurd q (by rw [hgt]; decide)) (fun j hj cj => ⟨rfl, fun k hk => rfl⟩)⟩, h3⟩
  · refine ⟨(-1, K_now S), (-1, z), ?_, ?_, rfl, h⟩
    · unfold f_X8_leave; rw [t1, Option.bind_some, if_pos rfl]
    · unfold f_X9_leave; rw [t2, Option.bind_some, if_pos rfl]
