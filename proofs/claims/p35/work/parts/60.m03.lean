/-! 70.guest2 -/
section
theorem orb_clr {T g : Nat} (hT : T < 256) (hg : g < 8) : nI (clr T g) ||| ((1 : Int32) <<< (nI g &&& 31)) = nI (orb T g) := by
  have h := orb_1 hT hg
  rw [← h.2.2.1]; exact h.2.1
theorem sim_guest : Sim_guest Rel := by
  intro S z x1 x2 h
  obtain ⟨⟨a, hI, hH, hM⟩, h3⟩ := id h
  have hH : Hc (K_now S) a := hH
  have hM : Mc (mcore z) a := hM
  have hR6 := hI.1.2.1
  have hT := hI.1.2.2.1
  have out : ∀ v : Int32, f_X8_guest (K_now S) x1 x2 = some (v, K_now S) → f_X9_guest z x1 x2 = some (v, z) → ∃ q w, f_X8_guest (K_now S) x1 x2 = some q ∧ f_X9_guest z x1 x2 = some w ∧ q.1 = w.1 ∧ Rel (K_set_now S q.2) w.2 := fun v e1 e2 => ⟨_, _, e1, e2, rfl, h⟩
  rcases num_cases x1 (n := 8) (by decide) with ⟨g, hg, rfl⟩ | hx
  · have t1 : ¬ nI g < 0 := nI_pos (by omega)
    have t2 : ¬ (8 : Int32) ≤ nI g := nlit (by decide) hg
    have t3 : f_X9_in (nI g) 0 7 = some 1 := in_nI (n := 8) hg (by decide)
    rcases rm_cases hI hH hM x2 with ⟨r, hr, rfl, b1, b2⟩ | ⟨-, b1, b2⟩
    · have hs : H_measure (K_now S) (r * 6 + 4) = nI (a_sz a r) := (hH.2.2.2.1 r (by omega)).2.1
      have hs2 : M_size z r = nI (a_sz a r) := (hM.2.2.2.1 r (by omega)).2.1
      have s9 := (hI.2.1 r (by omega)).2.2.1
      have e1 : f_X1_sizeOf (K_now S) (nI r) = some (nI (a_sz a r)) := by
        unfold f_X1_sizeOf
        rw [show (4 : Int32) = nI 4 from rfl, ix6, chk_nI (by omega) (by decide), nI_clamp (by omega), hs]
      have e2 := inRoom_spec hI hM (r := r) (by omega) (-1) (nI g)
      have e3 : cnt (fun j => ((a_is a j && a_pl a j == r) && !(decide (nI j = nI g))) && (decide ((-1 : Int32) < 0) || decide (nI (a_bs a j) = (-1 : Int32)))) 8 = cnt (fun j => (a_is a j && a_pl a j == r) && !(j == g)) 8 := cnt_congr (fun j hj => by
        have q : decide (nI j = nI g) = (j == g) := by rw [Bool.eq_iff_iff, decide_eq_true_eq, nI_eq (by omega) (by omega), beq_iff_eq]
        rw [q, show decide ((-1 : Int32) < 0) = true from rfl]; simp)
      rw [e3] at e2
      have hc8 := cnt_le (fun j => (a_is a j && a_pl a j == r) && !(j == g)) 8
      have lt : (nI (cnt (fun j => (a_is a j && a_pl a j == r) && !(j == g)) 8) < nI (a_sz a r)) ↔ cnt (fun j => (a_is a j && a_pl a j == r) && !(j == g)) 8 < a_sz a r := nI_ltI (by omega) (by omega)
      by_cases c : cnt (fun j => (a_is a j && a_pl a j == r) && !(j == g)) 8 < a_sz a r
      · obtain ⟨h1, d1, H1⟩ := dismiss_spec hI hH hg
        obtain ⟨w1, bs, lf, f1, f2, f3⟩ := off_spec hI hM hg
        have ht1 : H_there h1 = nI (clr (a_T a) g) := H1.2.1
        have ht2 : M_there w1 = nI (a_T a) := (congrArg (fun m => m.1.2.2.2.2.2.1) f2).trans hM.2.1
        obtain ⟨w2, ew2⟩ : ∃ y, y = M_set_there w1 (nI (orb (a_T a) g)) := ⟨_, rfl⟩
        have k2 := mk_there w1 (nI (orb (a_T a) g))
        rw [← ew2] at k2
        obtain ⟨w3, ew3⟩ : ∃ y, y = M_set_place w2 (upd (M_place w2) g (nI r)) := ⟨_, rfl⟩
        have k3 := mk_place w2 (upd (M_place w2) g (nI r))
        rw [← ew3] at k3
        have ht3 : M_there w3 = nI (orb (a_T a) g) := (congrArg (fun m => m.1.2.2.2.2.2.1) k3).trans (congrArg (fun m => m.1.2.2.2.2.2.1) k2)
        obtain ⟨w4, f, l1, l2, l3, l4⟩ := guest_lk ht3 (orb_1 hT hg).2.2.2.1 hg
        have hp2 : M_place w2 = M_place z := (congrArg (fun m => m.1.2.2.2.2.2.2.2.1) k2).trans (congrArg (fun m => m.1.2.2.2.2.2.2.2.1) f2)
        have hlk3 : M_likes w3 = M_likes z := ((congrArg (fun m => m.1.2.2.2.2.2.2.1) k3).trans (congrArg (fun m => m.1.2.2.2.2.2.2.1) k2)).trans (congrArg (fun m => m.1.2.2.2.2.2.2.1) f2)
        have km : mkeep w4 = ((M_rooms z, M_things z, M_size z, M_chairs z, M_width z, nI (orb (a_T a) g), f, upd (M_place z) g (nI r), bs, M_with z, lf, M_sights z, M_sight z), M_signs z, M_pad z, M_image z, M_isKept z) := by
          rw [l2, k3, hp2]
          have q1 := congrArg (fun m : MKK => ((m.1.1, m.1.2.1, m.1.2.2.1, m.1.2.2.2.1, m.1.2.2.2.2.1, m.1.2.2.2.2.2.1, f, upd (M_place z) g (nI r), m.1.2.2.2.2.2.2.2.2.1, m.1.2.2.2.2.2.2.2.2.2.1, m.1.2.2.2.2.2.2.2.2.2.2.1, m.1.2.2.2.2.2.2.2.2.2.2.2), m.2)) k2
          have q2 := congrArg (fun m : MKK => ((m.1.1, m.1.2.1, m.1.2.2.1, m.1.2.2.2.1, m.1.2.2.2.2.1, nI (orb (a_T a) g), f, upd (M_place z) g (nI r), m.1.2.2.2.2.2.2.2.2.1, m.1.2.2.2.2.2.2.2.2.2.1, m.1.2.2.2.2.2.2.2.2.2.2.1, m.1.2.2.2.2.2.2.2.2.2.2.2), m.2)) f2
          exact q1.trans q2
        have ho : ∀ j, j < 8 → j ≠ g → (orb (a_T a) g).testBit j = a_is a j := fun j hj cj => by rw [orb_at hT hg hj]; simp [cj]; rfl
        have hgt : (orb (a_T a) g).testBit g = true := by rw [orb_at hT hg hg]; simp
        refine ⟨(nI (cnt (fun j => (orb (a_T a) g).testBit j) 8), H_set_place (H_set_there h1 (nI (orb (a_T a) g))) (upd (H_place h1) g (nI r))), (nI (cnt (fun j => (orb (a_T a) g).testBit j) 8), w4), ?_, ?_, rfl, ?_⟩
        · have ho1 : f_X1_others (K_now S) (nI g) (nI r) = some (nI (cnt (fun j => (a_is a j && a_pl a j == r) && !(j == g)) 8)) := others_spec hI hH hg (by omega)
          have hp : f_J6_bitCount_0f7a4 (nI (orb (a_T a) g)) = some (nI (cnt (fun j => (orb (a_T a) g).testBit j) 8)) := pop_dec ⟨_, (orb_1 hT hg).2.2.2.1⟩
          unfold f_X8_guest
          rw [if_neg t1, if_neg t2, b1, Option.bind_some, if_neg (show ¬ (1 : Int32) = 0 by decide), ho1, Option.bind_some, e1, Option.bind_some, if_pos (lt.mpr c), d1, Option.bind_some, chk_nI hg (by decide), nI_clamp (by omega), ltA_eq, ht1, orb_clr hT hg, hp, Option.bind_some]
        · unfold f_X9_guest
          rw [t3, Option.bind_some, if_neg (show ¬ (1 : Int32) = 0 by decide), b2, Option.bind_some, if_neg (show ¬ (1 : Int32) = 0 by decide), e2, Option.bind_some, chk_nI (show r < 6 by omega) (by decide), nI_clamp (by omega), hs2, if_pos (lt.mpr c), f1, Option.bind_some, ltA_eq, ht2, (orb_1 hT hg).1, ← ew2, chk_nI hg (by decide), nI_clamp (by omega), ltA_eq, ← ew3]
          exact l1
        · unfold Rel
          rw [km]
          refine ⟨⟨nw a g (orb (a_T a) g) r, Inv_nw hI hg (orb_1 hT hg).2.2.2.1 ho (fun _ => ⟨hr, c⟩) (fun q => absurd q (by rw [hgt]; decide)), ?_, Mc_nw hI hM hg ho f3 (fun _ => ⟨pk_us, l3⟩) (fun j hj cj => ⟨pk_un cj, fun k hk => (l4 j k hj hk cj).trans (by rw [hlk3])⟩)⟩, h3⟩
          show Hc (H_set_place (H_set_there h1 (nI (orb (a_T a) g))) (upd (H_place h1) g (nI r))) _
          unfold Hc at H1 ⊢
          simp only [nw_R, nw_T, nw_k, nw_th, nw_sz, nw_ch, nw_wd, nw_sg, nw_sr, nw_lk, nw_pl, nw_bs, nw_mt, nw_lf] at H1 ⊢
          obtain ⟨u1, u2, u3, u4, u5, u6, u7, u8⟩ := H1
          refine ⟨u1, rfl, u3, u4, u5, ?_, u7, u8⟩
          intro j hj
          refine ⟨?_, (u6 j hj).2⟩
          show upd (H_place h1) g (nI r) j = _
          by_cases cj : j = g
          · rw [if_pos cj, cj, pk_us]
          · have := (u6 j hj).1
            rw [if_neg cj] at this
            rw [if_neg cj, pk_un cj]; exact this
      · have ho1 : f_X1_others (K_now S) (nI g) (nI r) = some (nI (cnt (fun j => (a_is a j && a_pl a j == r) && !(j == g)) 8)) := others_spec hI hH hg (by omega)
        refine out (-4) ?_ ?_
        · unfold f_X8_guest
          rw [if_neg t1, if_neg t2, b1, Option.bind_some, if_neg (show ¬ (1 : Int32) = 0 by decide), ho1, Option.bind_some, e1, Option.bind_some, if_neg (fun q => c (lt.mp q))]
        · unfold f_X9_guest
          rw [t3, Option.bind_some, if_neg (show ¬ (1 : Int32) = 0 by decide), b2, Option.bind_some, if_neg (show ¬ (1 : Int32) = 0 by decide), e2, Option.bind_some, chk_nI (show r < 6 by omega) (by decide), nI_clamp (by omega), hs2, if_neg (fun q => c (lt.mp q))]
    · refine out (-1) ?_ ?_
      · unfold f_X8_guest; rw [if_neg t1, if_neg t2, b1, Option.bind_some, if_pos rfl]
      · unfold f_X9_guest; rw [t3, Option.bind_some, if_neg (show ¬ (1 : Int32) = 0 by decide), b2, Option.bind_some, if_pos rfl]
  · refine out (-1) ?_ ?_
    · unfold f_X8_guest
      by_cases c : x1 < 0
      · rw [if_pos c]
      · rw [if_neg c, if_pos (show (8 : Int32) ≤ x1 from hx.resolve_left c)]
    · unfold f_X9_guest; rw [show f_X9_in x1 0 7 = some 0 from in_no (n := 8) (by decide) (by decide) hx, Option.bind_some, if_pos rfl]
theorem sim_leave : Sim_leave Rel := by
  intro S z x1 h
  obtain ⟨⟨a, hI, hH, hM⟩, h3⟩ := id h
  have hH : Hc (K_now S) a := hH
  have hM : Mc (mcore z) a := hM
  have hT := hI.1.2.2.1
  rcases th_cases hI hH hM x1 with ⟨g, hg, rfl, hg1, t1, t2⟩ | ⟨t1, t2⟩
  · obtain ⟨h1, d1, H1⟩ := dismiss_spec hI hH hg
    obtain ⟨w1, bs, lf, f1, f2, f3⟩ := off_spec hI hM hg
    have ht1 : H_there h1 = nI (clr (a_T a) g) := H1.2.1
    have ht2 : M_there w1 = nI (a_T a) := (congrArg (fun m => m.1.2.2.2.2.2.1) f2).trans hM.2.1
    obtain ⟨w2, ew2⟩ : ∃ y, y = M_set_there w1 (nI (clr (a_T a) g)) := ⟨_, rfl⟩
    have k2 := mk_there w1 (nI (clr (a_T a) g))
    rw [← ew2] at k2
    have ht3 : M_there w2 = nI (clr (a_T a) g) := congrArg (fun m => m.1.2.2.2.2.2.1) k2
    have hc := (orb_1 hT hg).2.2.2.2
    have km : mkeep w2 = ((M_rooms z, M_things z, M_size z, M_chairs z, M_width z, nI (clr (a_T a) g), M_likes z, M_place z, bs, M_with z, lf, M_sights z, M_sight z), M_signs z, M_pad z, M_image z, M_isKept z) := by
      rw [k2]
      exact congrArg (fun m : MKK => ((m.1.1, m.1.2.1, m.1.2.2.1, m.1.2.2.2.1, m.1.2.2.2.2.1, nI (clr (a_T a) g), m.1.2.2.2.2.2.2), m.2)) f2
    have ho : ∀ j, j < 8 → j ≠ g → (clr (a_T a) g).testBit j = a_is a j := fun j hj cj => by rw [clr_at hT hg hj]; simp [cj]; rfl
    have hgt : (clr (a_T a) g).testBit g = false := by rw [clr_at hT hg hg]; simp
    refine ⟨(nI (cnt (fun j => (clr (a_T a) g).testBit j) 8), h1), (nI (cnt (fun j => (clr (a_T a) g).testBit j) 8), w2), ?_, ?_, rfl, ?_⟩
    · have hp : f_J6_bitCount_0f7a4 (nI (clr (a_T a) g)) = some (nI (cnt (fun j => (clr (a_T a) g).testBit j) 8)) := pop_dec ⟨_, hc⟩
      unfold f_X8_leave
      rw [t1, Option.bind_some, if_neg (show ¬ (1 : Int32) = 0 by decide), d1, Option.bind_some, ht1, hp, Option.bind_some]
    · unfold f_X9_leave
      rw [t2, Option.bind_some, if_neg (show ¬ (1 : Int32) = 0 by decide), f1, Option.bind_some, ltA_eq, ht2, (orb_1 hT hg).2.2.1, ← ew2, ht3, bits_spec hc, Option.bind_some]
    · unfold Rel
      rw [km]
      exact ⟨⟨nw a g (clr (a_T a) g) 0, Inv_nw hI hg hc ho (fun q => absurd q (by rw [hgt]; decide)) (fun _ => rfl), H1, Mc_nw hI hM hg ho f3 (fun q => absurd q (by rw [hgt]; decide)) (fun j hj cj => ⟨rfl, fun k hk => rfl⟩)⟩, h3⟩
  · refine ⟨(-1, K_now S), (-1, z), ?_, ?_, rfl, h⟩
    · unfold f_X8_leave; rw [t1, Option.bind_some, if_pos rfl]
    · unfold f_X9_leave; rw [t2, Option.bind_some, if_pos rfl]
end
/-! 71.image -/
section
/-! image, restore -/
theorem Hc_copy {h h2 h' : HS} {a : AS} (hk : a_k a ≤ 6) (hH : Hc h2 a) (e : f_X1_copy h h2 = some h') : Hc h' a := by
  obtain ⟨y, e', c1, c2, c3, c4, c5, c6, c7, c8⟩ := copy_spec h h2
  rw [e] at e'
  have ey : h' = y := Option.some.inj e'
  subst ey
  obtain ⟨b1, b2, b3, b4, b5, b6, b7, b8⟩ := hH
  refine ⟨c1.trans b1, c2.trans b2, c3.trans b3, fun r hr => ⟨fun s hs => (c4 _ (by omega)).trans ((b4 r hr).1 s hs), (c4 _ (by omega)).trans (b4 r hr).2.1, (c4 _ (by omega)).trans (b4 r hr).2.2⟩, fun r q hr hq => (c5 _ (by omega)).trans (b5 r q hr hq), fun g hg => ?_, fun g k hg hk => (c7 _ (by omega)).trans (b7 g k hg hk), fun s hs => ?_⟩
  · obtain ⟨p1, p2, p3, p4⟩ := c6 g hg
    obtain ⟨q1, q2, q3, q4⟩ := b6 g hg
    exact ⟨p1.trans q1, p2.trans q2, p3.trans q3, p4.trans q4⟩
  · obtain ⟨p1, p2⟩ := c8 s (by omega)
    obtain ⟨q1, q2⟩ := b8 s hs
    exact ⟨p1.trans q1, p2.trans q2⟩
theorem copy_Hc {h h2 : HS} {a : AS} (hk : a_k a ≤ 6) (hH : Hc h2 a) : ∃ h', f_X1_copy h h2 = some h' ∧ Hc h' a := by
  obtain ⟨y, e, -⟩ := copy_spec h h2
  exact ⟨y, e, Hc_copy hk hH e⟩
/-- two lasting parts are alike where it matters -/
def MKe (m m' : MK) : Prop := m'.1 = m.1 ∧ m'.2.2.2.2.2.1 = m.2.2.2.2.2.1 ∧ m'.2.2.2.2.2.2.2.2.2.2.2.1 = m.2.2.2.2.2.2.2.2.2.2.2.1 ∧ (∀ k, k < 24 → m'.2.1 k = m.2.1 k) ∧ (∀ k, k < 36 → m'.2.2.2.2.1 k = m.2.2.2.2.1 k) ∧ (∀ k, k < 40 → m'.2.2.2.2.2.2.1 k = m.2.2.2.2.2.2.1 k) ∧ (∀ k, k < 8 → m'.2.2.2.2.2.2.2.1 k = m.2.2.2.2.2.2.2.1 k ∧ m'.2.2.2.2.2.2.2.2.1 k = m.2.2.2.2.2.2.2.2.1 k ∧ m'.2.2.2.2.2.2.2.2.2.1 k = m.2.2.2.2.2.2.2.2.2.1 k ∧ m'.2.2.2.2.2.2.2.2.2.2.1 k = m.2.2.2.2.2.2.2.2.2.2.1 k) ∧ (∀ k, k < 12 → m'.2.2.2.2.2.2.2.2.2.2.2.2 k = m.2.2.2.2.2.2.2.2.2.2.2.2 k) ∧ ∀ k, k < 6 → m'.2.2.1 k = m.2.2.1 k ∧ m'.2.2.2.1 k = m.2.2.2.1 k
theorem Mc_congr {m m' : MK} {a : AS} (hk : a_k a ≤ 6) (h : MKe m m') (hM : Mc m a) : Mc m' a := by
  obtain ⟨e1, e2, e3, e4, e5, e6, e7, e8, e9⟩ := h
  obtain ⟨m1, m2, m3, m4, m5, m6, m7⟩ := hM
  refine ⟨e1.trans m1, e2.trans m2, e3.trans m3, fun r hr => ⟨fun s hs => (e4 _ (by omega)).trans ((m4 r hr).1 s hs), (e9 r hr).1.trans (m4 r hr).2.1, (e9 r hr).2.trans (m4 r hr).2.2⟩, fun r q hr hq => (e5 _ (by omega)).trans (m5 r q hr hq), fun g hg hi => ?_, fun s hs => ⟨(e8 _ (by omega)).trans (m7 s hs).1, (e8 _ (by omega)).trans (m7 s hs).2⟩⟩
  obtain ⟨p1, p2, p3, p4⟩ := e7 g hg
  obtain ⟨q1, q2, q3, q4, q5⟩ := m6 g hg hi
  exact ⟨p1.trans q1, p2.trans q2, p4.trans q3, fun hb => p3.trans (q4 hb), fun k hk => (e6 _ (by omega)).trans (q5 k hk)⟩
theorem mk_image (z : MS) (f : Nat → Int32) : mkeep (M_set_image z f) = (mcore z, M_signs z, M_pad z, f, M_isKept z) := rfl
theorem mk_isKept (z : MS) (f : Nat → Int32) : mkeep (M_set_isKept z f) = (mcore z, M_signs z, M_pad z, M_image z, f) := rfl
theorem mk_with (z : MS) (f : Nat → Int32) : mkeep (M_set_with z f) = ((M_rooms z, M_things z, M_size z, M_chairs z, M_width z, M_there z, M_likes z, M_place z, M_busy z, f, M_left z, M_sights z, M_sight z), M_signs z, M_pad z, M_image z, M_isKept z) := rfl
/-- so much of the image at o is kept -/
def Fx (z : MS) (o : Nat) (F : Nat → Int32) (n1 n2 n3 n4 n5 n6 : Nat) : Prop := (∀ k, k < n1 → F (o + k) = M_things z k) ∧ (∀ k, k < n2 → F (o + 24 + k) = M_width z k) ∧ (∀ k, k < n3 → F (o + 60 + k) = M_likes z k) ∧ (∀ k, k < n4 → F (o + 100 + k) = M_place z k ∧ F (o + 108 + k) = M_busy z k ∧ F (o + 116 + k) = M_with z k ∧ F (o + 124 + k) = M_left z k) ∧ (∀ k, k < n5 → F (o + 132 + k) = M_sight z k) ∧ (∀ k, k < n6 → F (o + 144 + k) = M_size z k ∧ F (o + 150 + k) = M_chairs z k) ∧ ∀ k, (k < o ∨ o + 159 ≤ k) → F k = M_image z k
/-- as z, but for the image -/
def Iz (z y : MS) (F : Nat → Int32) : Prop := mkeep y = (mcore z, M_signs z, M_pad z, F, M_isKept z)
theorem Iz.im {z y : MS} {F : Nat → Int32} (h : Iz z y F) : M_image y = F := congrArg (fun m => m.2.2.2.1) h
theorem Iz.set {z y y' : MS} {F G : Nat → Int32} (h : Iz z y F) (e : y' = M_set_image y G) : Iz z y' G := by
  unfold Iz; rw [e, mk_image]; exact congrArg (fun m : MKK => (m.1, m.2.1, m.2.2.1, G, m.2.2.2.2)) h
theorem Iz.rooms {z y : MS} {F : Nat → Int32} (h : Iz z y F) : M_rooms y = M_rooms z := congrArg (fun m => m.1.1) h
theorem Iz.things {z y : MS} {F : Nat → Int32} (h : Iz z y F) : M_things y = M_things z := congrArg (fun m => m.1.2.1) h
theorem Iz.size {z y : MS} {F : Nat → Int32} (h : Iz z y F) : M_size y = M_size z := congrArg (fun m => m.1.2.2.1) h
theorem Iz.chairs {z y : MS} {F : Nat → Int32} (h : Iz z y F) : M_chairs y = M_chairs z := congrArg (fun m => m.1.2.2.2.1) h
theorem Iz.width {z y : MS} {F : Nat → Int32} (h : Iz z y F) : M_width y = M_width z := congrArg (fun m => m.1.2.2.2.2.1) h
theorem Iz.there {z y : MS} {F : Nat → Int32} (h : Iz z y F) : M_there y = M_there z := congrArg (fun m => m.1.2.2.2.2.2.1) h
theorem Iz.likes {z y : MS} {F : Nat → Int32} (h : Iz z y F) : M_likes y = M_likes z := congrArg (fun m => m.1.2.2.2.2.2.2.1) h
theorem Iz.place {z y : MS} {F : Nat → Int32} (h : Iz z y F) : M_place y = M_place z := congrArg (fun m => m.1.2.2.2.2.2.2.2.1) h
theorem Iz.busy {z y : MS} {F : Nat → Int32} (h : Iz z y F) : M_busy y = M_busy z := congrArg (fun m => m.1.2.2.2.2.2.2.2.2.1) h
theorem Iz.with {z y : MS} {F : Nat → Int32} (h : Iz z y F) : M_with y = M_with z := congrArg (fun m => m.1.2.2.2.2.2.2.2.2.2.1) h
theorem Iz.left {z y : MS} {F : Nat → Int32} (h : Iz z y F) : M_left y = M_left z := congrArg (fun m => m.1.2.2.2.2.2.2.2.2.2.2.1) h
theorem Iz.sights {z y : MS} {F : Nat → Int32} (h : Iz z y F) : M_sights y = M_sights z := congrArg (fun m => m.1.2.2.2.2.2.2.2.2.2.2.2.1) h
theorem Iz.sight {z y : MS} {F : Nat → Int32} (h : Iz z y F) : M_sight y = M_sight z := congrArg (fun m => m.1.2.2.2.2.2.2.2.2.2.2.2.2) h
theorem ad3 (o c i : Nat) : nI o + nI c + nI i = nI (o + c + i) := by rw [nI_add, nI_add]
def ImgOk (z : MS) (o : Nat) (n : Nat) (r : Option (Int32 × MS)) : Prop := ∃ w F, r = some (1, w) ∧ mkeep w = (mcore z, M_signs z, M_pad z, F, upd (M_isKept z) n 1) ∧ MKe (mcore z) (mimg F o) ∧ ∀ k, (k < o ∨ o + 159 ≤ k) → F k = M_image z k
theorem image_6 {z : MS} {o n : Nat} (ho : o + 159 ≤ 400) (hn : n < 2) {N : Nat} (hN : 60000 < N) (y : MS) (F : Nat → Int32) (h : Iz z y F) (hF : Fx z o F 24 36 40 8 12 0) : ImgOk z o n (it X9_image_B224 (fun _ _ _ _ => none) N y (nI n) (nI o) (nI 0)) := by
  refine it_rule (bot := fun _ _ _ _ => none) 6 (fun i (s : MS × (Nat → Int32)) => Iz z s.1 s.2 ∧ Fx z o s.2 24 36 40 8 12 i) (fun k i s => ImgOk z o n (k s.1 (nI n) (nI o) (nI i))) ?_ ?_ N 0 (y, F) (by omega) (by omega) ⟨h, hF⟩
  · rintro k ⟨y, F⟩ ⟨h, hF⟩
    have h : Iz z y F := h
    have hF : Fx z o F 24 36 40 8 12 6 := hF
    obtain ⟨y1, e1⟩ : ∃ x, x = M_set_image y (upd (M_image y) (o + 156) (M_rooms y)) := ⟨_, rfl⟩
    have h1 := h.set e1
    obtain ⟨y2, e2⟩ : ∃ x, x = M_set_image y1 (upd (M_image y1) (o + 157) (M_there y1)) := ⟨_, rfl⟩
    have h2 := h1.set e2
    obtain ⟨y3, e3⟩ : ∃ x, x = M_set_image y2 (upd (M_image y2) (o + 158) (M_sights y2)) := ⟨_, rfl⟩
    have h3 := h2.set e3
    obtain ⟨y4, e4⟩ : ∃ x, x = M_set_isKept y3 (upd (M_isKept y3) n 1) := ⟨_, rfl⟩
    have k4 := mk_isKept y3 (upd (M_isKept y3) n 1)
    rw [← e4] at k4
    have hk3 : M_isKept y3 = M_isKept z := congrArg (fun m => m.2.2.2.2) h3
    refine ⟨y4, upd (upd (upd F (o + 156) (M_rooms z)) (o + 157) (M_there z)) (o + 158) (M_sights z), ?_, ?_, ?_, ?_⟩
    · show X9_image_B224 k y (nI n) (nI o) (nI 6) = _
      unfold X9_image_B224
      rw [if_pos (by decide), show (156 : Int32) = nI 156 from rfl, show (157 : Int32) = nI 157 from rfl, show (158 : Int32) = nI 158 from rfl, nI_add, nI_add, nI_add, chk_nI (by omega) (by decide), nI_clamp (by omega), nI_clamp (by omega), nI_clamp (by omega), nI_clamp (by omega), ltA_eq, ← e1, chk_nI (by omega) (by decide), ltA_eq, ← e2, chk_nI (by omega) (by decide), ltA_eq, ← e3, chk_nI hn (by decide), ltA_eq, show vp_nar .boolean (1 : Int32) = 1 from by decide, ← e4]
    · rw [k4, hk3]
      have q := congrArg (fun m : MKK => (m.1, m.2.1, m.2.2.1, m.2.2.2.1, upd (M_isKept z) n 1)) h3
      rw [h2.im, h1.im, h.im, h.rooms, h1.there, h2.sights] at q
      exact q
    · obtain ⟨f1, f2, f3, f4, f5, f6, f7⟩ := hF
      refine ⟨?_, ?_, ?_, fun k hk => ?_, fun k hk => ?_, fun k hk => ?_, fun k hk => ?_, fun k hk => ?_, fun k hk => ?_⟩
      · show upd (upd (upd F (o + 156) (M_rooms z)) (o + 157) (M_there z)) (o + 158) (M_sights z) (o + 156) = M_rooms z
        rw [pk_un (by omega), pk_un (by omega), pk_us]
      · show upd (upd (upd F (o + 156) (M_rooms z)) (o + 157) (M_there z)) (o + 158) (M_sights z) (o + 157) = M_there z
        rw [pk_un (by omega), pk_us]
      · show upd (upd (upd F (o + 156) (M_rooms z)) (o + 157) (M_there z)) (o + 158) (M_sights z) (o + 158) = M_sights z
        rw [pk_us]
      · show upd (upd (upd F (o + 156) (M_rooms z)) (o + 157) (M_there z)) (o + 158) (M_sights z) (o + k) = M_things z k
        rw [pk_un (by omega), pk_un (by omega), pk_un (by omega)]; exact f1 k hk
      · show upd (upd (upd F (o + 156) (M_rooms z)) (o + 157) (M_there z)) (o + 158) (M_sights z) (o + 24 + k) = M_width z k
        rw [pk_un (by omega), pk_un (by omega), pk_un (by omega)]; exact f2 k hk
      · show upd (upd (upd F (o + 156) (M_rooms z)) (o + 157) (M_there z)) (o + 158) (M_sights z) (o + 60 + k) = M_likes z k
        rw [pk_un (by omega), pk_un (by omega), pk_un (by omega)]; exact f3 k hk
      · obtain ⟨g1, g2, g3, g4⟩ := f4 k hk
        refine ⟨?_, ?_, ?_, ?_⟩
        · show upd (upd (upd F (o + 156) (M_rooms z)) (o + 157) (M_there z)) (o + 158) (M_sights z) (o + 100 + k) = _
          rw [pk_un (by omega), pk_un (by omega), pk_un (by omega)]; exact g1
        · show upd (upd (upd F (o + 156) (M_rooms z)) (o + 157) (M_there z)) (o + 158) (M_sights z) (o + 108 + k) = _
          rw [pk_un (by omega), pk_un (by omega), pk_un (by omega)]; exact g2
        · show upd (upd (upd F (o + 156) (M_rooms z)) (o + 157) (M_there z)) (o + 158) (M_sights z) (o + 116 + k) = _
          rw [pk_un (by omega), pk_un (by omega), pk_un (by omega)]; exact g3
        · show upd (upd (upd F (o + 156) (M_rooms z)) (o + 157) (M_there z)) (o + 158) (M_sights z) (o + 124 + k) = _
          rw [pk_un (by omega), pk_un (by omega), pk_un (by omega)]; exact g4
      · show upd (upd (upd F (o + 156) (M_rooms z)) (o + 157) (M_there z)) (o + 158) (M_sights z) (o + 132 + k) = _
        rw [pk_un (by omega), pk_un (by omega), pk_un (by omega)]; exact f5 k hk
      · obtain ⟨g1, g2⟩ := f6 k hk
        refine ⟨?_, ?_⟩
        · show upd (upd (upd F (o + 156) (M_rooms z)) (o + 157) (M_there z)) (o + 158) (M_sights z) (o + 144 + k) = _
          rw [pk_un (by omega), pk_un (by omega), pk_un (by omega)]; exact g1
        · show upd (upd (upd F (o + 156) (M_rooms z)) (o + 157) (M_there z)) (o + 158) (M_sights z) (o + 150 + k) = _
          rw [pk_un (by omega), pk_un (by omega), pk_un (by omega)]; exact g2
    · intro k hk
      rw [pk_un (by omega), pk_un (by omega), pk_un (by omega)]; exact hF.2.2.2.2.2.2 k hk
  · rintro k i ⟨y, F⟩ hi ⟨h, hF⟩ hk
    have h : Iz z y F := h
    obtain ⟨f1, f2, f3, f4, f5, f6, f7⟩ : Fx z o F _ _ _ _ _ _ := hF
    obtain ⟨y1, e1⟩ : ∃ x, x = M_set_image y (upd (M_image y) (o + 144 + i) (M_size y i)) := ⟨_, rfl⟩
    have h1 := h.set e1
    obtain ⟨y2, e2⟩ : ∃ x, x = M_set_image y1 (upd (M_image y1) (o + 150 + i) (M_chairs y1 i)) := ⟨_, rfl⟩
    have h2 := h1.set e2
    rw [h1.im, h.im, h.size, h1.chairs] at h2
    have hF' : Fx z o (upd (upd F (o + 144 + i) (M_size z i)) (o + 150 + i) (M_chairs z i)) 24 36 40 8 12 (i + 1) := ⟨fun k hk => by rw [pk_un (by omega), pk_un (by omega)]; exact f1 k hk, fun k hk => by rw [pk_un (by omega), pk_un (by omega)]; exact f2 k hk, fun k hk => by rw [pk_un (by omega), pk_un (by omega)]; exact f3 k hk, fun k hk => by
      obtain ⟨g1, g2, g3, g4⟩ := f4 k hk
      rw [pk_un (by omega), pk_un (by omega), pk_un (by omega), pk_un (by omega), pk_un (by omega), pk_un (by omega), pk_un (by omega), pk_un (by omega)]; exact ⟨g1, g2, g3, g4⟩, fun k hk => by rw [pk_un (by omega), pk_un (by omega)]; exact f5 k hk, fun k hk => by
      by_cases c : k = i
      · subst c; refine ⟨?_, pk_us⟩; rw [pk_un (by omega), pk_us]
      · rw [pk_un (by omega), pk_un (by omega), pk_un (by omega), pk_un (by omega)]; exact f6 k (by omega), fun k hk => by rw [pk_un (by omega), pk_un (by omega)]; exact f7 k hk⟩
    have := hk (y2, (upd (upd F (o + 144 + i) (M_size z i)) (o + 150 + i) (M_chairs z i))) ⟨h2, hF'⟩
    show ImgOk z o n (X9_image_B224 k y (nI n) (nI o) (nI i))
    unfold X9_image_B224
    rw [if_neg (show ¬ (6 : Int32) ≤ nI i from nlit (by decide) hi), show (144 : Int32) = nI 144 from rfl, show (150 : Int32) = nI 150 from rfl, ad3, ad3, chk_nI hi (by decide), chk_nI (by omega) (by decide), nI_clamp (by omega), nI_clamp (by omega), nI_clamp (by omega), ltA_eq, ← e1, chk_nI hi (by decide), chk_nI (by omega) (by decide), ltA_eq, ← e2, nI_1]
    exact this
theorem image_5 {z : MS} {o n : Nat} (ho : o + 159 ≤ 400) (hn : n < 2) {N : Nat} (hFU : FU = N) (hN : 60000 < N) (y : MS) (F : Nat → Int32) (h : Iz z y F) (hF : Fx z o F 24 36 40 8 0 0) : ImgOk z o n (it X9_image_B192 (fun _ _ _ _ => none) N y (nI n) (nI o) (nI 0)) := by
  refine it_rule (bot := fun _ _ _ _ => none) 12 (fun i (s : MS × (Nat → Int32)) => Iz z s.1 s.2 ∧ Fx z o s.2 24 36 40 8 i 0) (fun k i s => ImgOk z o n (k s.1 (nI n) (nI o) (nI i))) ?_ ?_ N 0 (y, F) (by omega) (by omega) ⟨h, hF⟩
  · rintro k ⟨y, F⟩ ⟨h, hF⟩
    show ImgOk z o n (X9_image_B192 k y (nI n) (nI o) (nI 12))
    unfold X9_image_B192
    rw [if_pos (by decide), hFU]; exact image_6 ho hn hN y F h hF
  · rintro k i ⟨y, F⟩ hi ⟨h, hF⟩ hk
    have h : Iz z y F := h
    obtain ⟨f1, f2, f3, f4, f5, f6, f7⟩ : Fx z o F _ _ _ _ _ _ := hF
    obtain ⟨y1, e1⟩ : ∃ x, x = M_set_image y (upd (M_image y) (o + 132 + i) (M_sight y i)) := ⟨_, rfl⟩
    have h1 := h.set e1
    rw [h.im, h.sight] at h1
    have hF' : Fx z o (upd F (o + 132 + i) (M_sight z i)) 24 36 40 8 (i + 1) 0 := ⟨fun k hk => by rw [pk_un (by omega)]; exact f1 k hk, fun k hk => by rw [pk_un (by omega)]; exact f2 k hk, fun k hk => by rw [pk_un (by omega)]; exact f3 k hk, fun k hk => by
      obtain ⟨g1, g2, g3, g4⟩ := f4 k hk
      rw [pk_un (by omega), pk_un (by omega), pk_un (by omega), pk_un (by omega)]; exact ⟨g1, g2, g3, g4⟩, fun k hk => by
      by_cases c : k = i
      · subst c; exact pk_us
      · rw [pk_un (by omega)]; exact f5 k (by omega), fun k hk => absurd hk (Nat.not_lt_zero _), fun k hk => by rw [pk_un (by omega)]; exact f7 k hk⟩
    have := hk (y1, (upd F (o + 132 + i) (M_sight z i))) ⟨h1, hF'⟩
    show ImgOk z o n (X9_image_B192 k y (nI n) (nI o) (nI i))
    unfold X9_image_B192
    rw [if_neg (show ¬ (12 : Int32) ≤ nI i from nlit (by decide) hi), show (132 : Int32) = nI 132 from rfl, ad3, chk_nI hi (by decide), chk_nI (by omega) (by decide), nI_clamp (by omega), nI_clamp (by omega), ltA_eq, ← e1, nI_1]
    exact this
theorem image_4 {z : MS} {o n : Nat} (ho : o + 159 ≤ 400) (hn : n < 2) {N : Nat} (hFU : FU = N) (hN : 60000 < N) (y : MS) (F : Nat → Int32) (h : Iz z y F) (hF : Fx z o F 24 36 40 0 0 0) : ImgOk z o n (it X9_image_B110 (fun _ _ _ _ => none) N y (nI n) (nI o) (nI 0)) := by
  refine it_rule (bot := fun _ _ _ _ => none) 8 (fun i (s : MS × (Nat → Int32)) => Iz z s.1 s.2 ∧ Fx z o s.2 24 36 40 i 0 0) (fun k i s => ImgOk z o n (k s.1 (nI n) (nI o) (nI i))) ?_ ?_ N 0 (y, F) (by omega) (by omega) ⟨h, hF⟩
  · rintro k ⟨y, F⟩ ⟨h, hF⟩
    show ImgOk z o n (X9_image_B110 k y (nI n) (nI o) (nI 8))
    unfold X9_image_B110
    rw [if_pos (by decide), hFU]; exact image_5 ho hn hFU hN y F h hF
  · rintro k i ⟨y, F⟩ hi ⟨h, hF⟩ hk
    have h : Iz z y F := h
    obtain ⟨f1, f2, f3, f4, f5, f6, f7⟩ : Fx z o F _ _ _ _ _ _ := hF
    obtain ⟨y1, e1⟩ : ∃ x, x = M_set_image y (upd (M_image y) (o + 100 + i) (M_place y i)) := ⟨_, rfl⟩
    have h1 := h.set e1
    obtain ⟨y2, e2⟩ : ∃ x, x = M_set_image y1 (upd (M_image y1) (o + 108 + i) (M_busy y1 i)) := ⟨_, rfl⟩
    have h2 := h1.set e2
    obtain ⟨y3, e3⟩ : ∃ x, x = M_set_image y2 (upd (M_image y2) (o + 116 + i) (M_with y2 i)) := ⟨_, rfl⟩
    have h3 := h2.set e3
    obtain ⟨y4, e4⟩ : ∃ x, x = M_set_image y3 (upd (M_image y3) (o + 124 + i) (M_left y3 i)) := ⟨_, rfl⟩
    have h4 := h3.set e4
    rw [h3.im, h2.im, h1.im, h.im, h.place, h1.busy, h2.with, h3.left] at h4
    have hF' : Fx z o (upd (upd (upd (upd F (o + 100 + i) (M_place z i)) (o + 108 + i) (M_busy z i)) (o + 116 + i) (M_with z i)) (o + 124 + i) (M_left z i)) 24 36 40 (i + 1) 0 0 := ⟨fun k hk => by rw [pk_un (by omega), pk_un (by omega), pk_un (by omega), pk_un (by omega)]; exact f1 k hk, fun k hk => by rw [pk_un (by omega), pk_un (by omega), pk_un (by omega), pk_un (by omega)]; exact f2 k hk, fun k hk => by rw [pk_un (by omega), pk_un (by omega), pk_un (by omega), pk_un (by omega)]; exact f3 k hk, fun k hk => by
      by_cases c : k = i
      · subst c
        refine ⟨?_, ?_, ?_, ?_⟩
        · rw [pk_un (by omega), pk_un (by omega), pk_un (by omega), pk_us]
        · rw [pk_un (by omega), pk_un (by omega), pk_us]
        · rw [pk_un (by omega), pk_us]
        · rw [pk_us]
      · rw [pk_un (by omega), pk_un (by omega), pk_un (by omega), pk_un (by omega), pk_un (by omega), pk_un (by omega), pk_un (by omega), pk_un (by omega), pk_un (by omega), pk_un (by omega), pk_un (by omega), pk_un (by omega), pk_un (by omega), pk_un (by omega), pk_un (by omega), pk_un (by omega)]; exact f4 k (by omega), fun k hk => absurd hk (Nat.not_lt_zero _), fun k hk => absurd hk (Nat.not_lt_zero _), fun k hk => by rw [pk_un (by omega), pk_un (by omega), pk_un (by omega), pk_un (by omega)]; exact f7 k hk⟩
    have := hk (y4, (upd (upd (upd (upd F (o + 100 + i) (M_place z i)) (o + 108 + i) (M_busy z i)) (o + 116 + i) (M_with z i)) (o + 124 + i) (M_left z i))) ⟨h4, hF'⟩
    show ImgOk z o n (X9_image_B110 k y (nI n) (nI o) (nI i))
    unfold X9_image_B110
    rw [if_neg (show ¬ (8 : Int32) ≤ nI i from nlit (by decide) hi), show (100 : Int32) = nI 100 from rfl, show (108 : Int32) = nI 108 from rfl, show (116 : Int32) = nI 116 from rfl, show (124 : Int32) = nI 124 from rfl, ad3, ad3, ad3, ad3, chk_nI hi (by decide), chk_nI (by omega) (by decide), nI_clamp (by omega), nI_clamp (by omega), nI_clamp (by omega), nI_clamp (by omega), nI_clamp (by omega), ltA_eq, ← e1, chk_nI hi (by decide), chk_nI (by omega) (by decide), ltA_eq, ← e2, chk_nI hi (by decide), chk_nI (by omega) (by decide), ltA_eq, ← e3, chk_nI hi (by decide), chk_nI (by omega) (by decide), ltA_eq, ← e4, nI_1]
    exact this
theorem image_3 {z : MS} {o n : Nat} (ho : o + 159 ≤ 400) (hn : n < 2) {N : Nat} (hFU : FU = N) (hN : 60000 < N) (y : MS) (F : Nat → Int32) (h : Iz z y F) (hF : Fx z o F 24 36 0 0 0 0) : ImgOk z o n (it X9_image_B79 (fun _ _ _ _ => none) N y (nI n) (nI o) (nI 0)) := by
  refine it_rule (bot := fun _ _ _ _ => none) 40 (fun i (s : MS × (Nat → Int32)) => Iz z s.1 s.2 ∧ Fx z o s.2 24 36 i 0 0 0) (fun k i s => ImgOk z o n (k s.1 (nI n) (nI o) (nI i))) ?_ ?_ N 0 (y, F) (by omega) (by omega) ⟨h, hF⟩
  · rintro k ⟨y, F⟩ ⟨h, hF⟩
    show ImgOk z o n (X9_image_B79 k y (nI n) (nI o) (nI 40))
    unfold X9_image_B79
    rw [if_pos (by decide), hFU]; exact image_4 ho hn hFU hN y F h hF
  · rintro k i ⟨y, F⟩ hi ⟨h, hF⟩ hk
    have h : Iz z y F := h
    obtain ⟨f1, f2, f3, f4, f5, f6, f7⟩ : Fx z o F _ _ _ _ _ _ := hF
    obtain ⟨y1, e1⟩ : ∃ x, x = M_set_image y (upd (M_image y) (o + 60 + i) (M_likes y i)) := ⟨_, rfl⟩
    have h1 := h.set e1
    rw [h.im, h.likes] at h1
    have hF' : Fx z o (upd F (o + 60 + i) (M_likes z i)) 24 36 (i + 1) 0 0 0 := ⟨fun k hk => by rw [pk_un (by omega)]; exact f1 k hk, fun k hk => by rw [pk_un (by omega)]; exact f2 k hk, fun k hk => by
      by_cases c : k = i
      · subst c; exact pk_us
      · rw [pk_un (by omega)]; exact f3 k (by omega), fun k hk => by
      obtain ⟨g1, g2, g3, g4⟩ := f4 k hk
      rw [pk_un (by omega), pk_un (by omega), pk_un (by omega), pk_un (by omega)]; exact ⟨g1, g2, g3, g4⟩, fun k hk => by rw [pk_un (by omega)]; exact f5 k hk, fun k hk => absurd hk (Nat.not_lt_zero _), fun k hk => by rw [pk_un (by omega)]; exact f7 k hk⟩
    have := hk (y1, (upd F (o + 60 + i) (M_likes z i))) ⟨h1, hF'⟩
    show ImgOk z o n (X9_image_B79 k y (nI n) (nI o) (nI i))
    unfold X9_image_B79
    rw [if_neg (show ¬ (40 : Int32) ≤ nI i from nlit (by decide) hi), show (60 : Int32) = nI 60 from rfl, ad3, chk_nI hi (by decide), chk_nI (by omega) (by decide), nI_clamp (by omega), nI_clamp (by omega), ltA_eq, ← e1, nI_1]
    exact this
theorem image_2 {z : MS} {o n : Nat} (ho : o + 159 ≤ 400) (hn : n < 2) {N : Nat} (hFU : FU = N) (hN : 60000 < N) (y : MS) (F : Nat → Int32) (h : Iz z y F) (hF : Fx z o F 24 0 0 0 0 0) : ImgOk z o n (it X9_image_B48 (fun _ _ _ _ => none) N y (nI n) (nI o) (nI 0)) := by
  refine it_rule (bot := fun _ _ _ _ => none) 36 (fun i (s : MS × (Nat → Int32)) => Iz z s.1 s.2 ∧ Fx z o s.2 24 i 0 0 0 0) (fun k i s => ImgOk z o n (k s.1 (nI n) (nI o) (nI i))) ?_ ?_ N 0 (y, F) (by omega) (by omega) ⟨h, hF⟩
  · rintro k ⟨y, F⟩ ⟨h, hF⟩
    show ImgOk z o n (X9_image_B48 k y (nI n) (nI o) (nI 36))
    unfold X9_image_B48
    rw [if_pos (by decide), hFU]; exact image_3 ho hn hFU hN y F h hF
  · rintro k i ⟨y, F⟩ hi ⟨h, hF⟩ hk
    have h : Iz z y F := h
    obtain ⟨f1, f2, f3, f4, f5, f6, f7⟩ : Fx z o F _ _ _ _ _ _ := hF
    obtain ⟨y1, e1⟩ : ∃ x, x = M_set_image y (upd (M_image y) (o + 24 + i) (M_width y i)) := ⟨_, rfl⟩
    have h1 := h.set e1
    rw [h.im, h.width] at h1
    have hF' : Fx z o (upd F (o + 24 + i) (M_width z i)) 24 (i + 1) 0 0 0 0 := ⟨fun k hk => by rw [pk_un (by omega)]; exact f1 k hk, fun k hk => by
      by_cases c : k = i
      · subst c; exact pk_us
      · rw [pk_un (by omega)]; exact f2 k (by omega), fun k hk => by rw [pk_un (by omega)]; exact f3 k hk, fun k hk => by
      obtain ⟨g1, g2, g3, g4⟩ := f4 k hk
      rw [pk_un (by omega), pk_un (by omega), pk_un (by omega), pk_un (by omega)]; exact ⟨g1, g2, g3, g4⟩, fun k hk => by rw [pk_un (by omega)]; exact f5 k hk, fun k hk => absurd hk (Nat.not_lt_zero _), fun k hk => by rw [pk_un (by omega)]; exact f7 k hk⟩
    have := hk (y1, (upd F (o + 24 + i) (M_width z i))) ⟨h1, hF'⟩
    show ImgOk z o n (X9_image_B48 k y (nI n) (nI o) (nI i))
    unfold X9_image_B48
    rw [if_neg (show ¬ (36 : Int32) ≤ nI i from nlit (by decide) hi), show (24 : Int32) = nI 24 from rfl, ad3, chk_nI hi (by decide), chk_nI (by omega) (by decide), nI_clamp (by omega), nI_clamp (by omega), ltA_eq, ← e1, nI_1]
    exact this
theorem image_1 {z : MS} {o n : Nat} (ho : o + 159 ≤ 400) (hn : n < 2) {N : Nat} (hFU : FU = N) (hN : 60000 < N) (y : MS) (F : Nat → Int32) (h : Iz z y F) (hF : Fx z o F 0 0 0 0 0 0) : ImgOk z o n (it X9_image_B20 (fun _ _ _ _ => none) N y (nI n) (nI o) (nI 0)) := by
  refine it_rule (bot := fun _ _ _ _ => none) 24 (fun i (s : MS × (Nat → Int32)) => Iz z s.1 s.2 ∧ Fx z o s.2 i 0 0 0 0 0) (fun k i s => ImgOk z o n (k s.1 (nI n) (nI o) (nI i))) ?_ ?_ N 0 (y, F) (by omega) (by omega) ⟨h, hF⟩
  · rintro k ⟨y, F⟩ ⟨h, hF⟩
    show ImgOk z o n (X9_image_B20 k y (nI n) (nI o) (nI 24))
    unfold X9_image_B20
    rw [if_pos (by decide), hFU]; exact image_2 ho hn hFU hN y F h hF
  · rintro k i ⟨y, F⟩ hi ⟨h, hF⟩ hk
    have h : Iz z y F := h
    obtain ⟨f1, f2, f3, f4, f5, f6, f7⟩ : Fx z o F _ _ _ _ _ _ := hF
    obtain ⟨y1, e1⟩ : ∃ x, x = M_set_image y (upd (M_image y) (o + i) (M_things y i)) := ⟨_, rfl⟩
    have h1 := h.set e1
    rw [h.im, h.things] at h1
    have hF' : Fx z o (upd F (o + i) (M_things z i)) (i + 1) 0 0 0 0 0 := ⟨fun k hk => by
      by_cases c : k = i
      · subst c; exact pk_us
      · rw [pk_un (by omega)]; exact f1 k (by omega), fun k hk => by rw [pk_un (by omega)]; exact f2 k hk, fun k hk => by rw [pk_un (by omega)]; exact f3 k hk, fun k hk => by
      obtain ⟨g1, g2, g3, g4⟩ := f4 k hk
      rw [pk_un (by omega), pk_un (by omega), pk_un (by omega), pk_un (by omega)]; exact ⟨g1, g2, g3, g4⟩, fun k hk => by rw [pk_un (by omega)]; exact f5 k hk, fun k hk => absurd hk (Nat.not_lt_zero _), fun k hk => by rw [pk_un (by omega)]; exact f7 k hk⟩
    have := hk (y1, (upd F (o + i) (M_things z i))) ⟨h1, hF'⟩
    show ImgOk z o n (X9_image_B20 k y (nI n) (nI o) (nI i))
    unfold X9_image_B20
    rw [if_neg (show ¬ (24 : Int32) ≤ nI i from nlit (by decide) hi), nI_add, chk_nI hi (by decide), chk_nI (by omega) (by decide), nI_clamp (by omega), nI_clamp (by omega), ltA_eq, ← e1, nI_1]
    exact this
theorem image_spec (z : MS) {n : Nat} (hn : n < 2) : ImgOk z (200 * n) n (f_X9_image z (nI n)) := by
  obtain ⟨N, hN, hFU⟩ := FU_ex
  unfold f_X9_image
  rw [show f_X9_in (nI n) 0 1 = some 1 from in_nI (n := 2) hn (by decide), Option.bind_some, if_neg (by decide), hFU, show (200 : Int32) * nI n = nI (200 * n) from pk_mul 200 n]
  exact image_1 (by omega) hn hFU hN z (M_image z) rfl ⟨fun k hk => absurd hk (Nat.not_lt_zero _), fun k hk => absurd hk (Nat.not_lt_zero _), fun k hk => absurd hk (Nat.not_lt_zero _), fun k hk => absurd hk (Nat.not_lt_zero _), fun k hk => absurd hk (Nat.not_lt_zero _), fun k hk => absurd hk (Nat.not_lt_zero _), fun k _ => rfl⟩
end
/-! 72.restore -/
section
/-! restore -/
abbrev MRest : Type := Int32 × (Nat → Int32) × (Nat → Int32) × (Nat → Int32)
def sc_rooms (c : MK) (f : Int32) : MK := (f, c.2.1, c.2.2.1, c.2.2.2.1, c.2.2.2.2.1, c.2.2.2.2.2.1, c.2.2.2.2.2.2.1, c.2.2.2.2.2.2.2.1, c.2.2.2.2.2.2.2.2.1, c.2.2.2.2.2.2.2.2.2.1, c.2.2.2.2.2.2.2.2.2.2.1, c.2.2.2.2.2.2.2.2.2.2.2.1, c.2.2.2.2.2.2.2.2.2.2.2.2)
theorem st_rooms {y y' : MS} {c : MK} {K : MRest} {f : Int32} (h : mkeep y = (c, K)) (e : y' = M_set_rooms y f) : mkeep y' = (sc_rooms c f, K) := by
  rw [e, mk_rooms]; exact congrArg (fun m : MKK => (sc_rooms m.1 f, m.2)) h
theorem gt_rooms {y : MS} {c : MK} {K : MRest} (h : mkeep y = (c, K)) : M_rooms y = c.1 := congrArg (fun m => m.1.1) h
def sc_things (c : MK) (f : Nat → Int32) : MK := (c.1, f, c.2.2.1, c.2.2.2.1, c.2.2.2.2.1, c.2.2.2.2.2.1, c.2.2.2.2.2.2.1, c.2.2.2.2.2.2.2.1, c.2.2.2.2.2.2.2.2.1, c.2.2.2.2.2.2.2.2.2.1, c.2.2.2.2.2.2.2.2.2.2.1, c.2.2.2.2.2.2.2.2.2.2.2.1, c.2.2.2.2.2.2.2.2.2.2.2.2)
theorem st_things {y y' : MS} {c : MK} {K : MRest} {f : Nat → Int32} (h : mkeep y = (c, K)) (e : y' = M_set_things y f) : mkeep y' = (sc_things c f, K) := by
  rw [e, mk_things]; exact congrArg (fun m : MKK => (sc_things m.1 f, m.2)) h
theorem gt_things {y : MS} {c : MK} {K : MRest} (h : mkeep y = (c, K)) : M_things y = c.2.1 := congrArg (fun m => m.1.2.1) h
def sc_size (c : MK) (f : Nat → Int32) : MK := (c.1, c.2.1, f, c.2.2.2.1, c.2.2.2.2.1, c.2.2.2.2.2.1, c.2.2.2.2.2.2.1, c.2.2.2.2.2.2.2.1, c.2.2.2.2.2.2.2.2.1, c.2.2.2.2.2.2.2.2.2.1, c.2.2.2.2.2.2.2.2.2.2.1, c.2.2.2.2.2.2.2.2.2.2.2.1, c.2.2.2.2.2.2.2.2.2.2.2.2)
theorem st_size {y y' : MS} {c : MK} {K : MRest} {f : Nat → Int32} (h : mkeep y = (c, K)) (e : y' = M_set_size y f) : mkeep y' = (sc_size c f, K) := by
  rw [e, mk_size]; exact congrArg (fun m : MKK => (sc_size m.1 f, m.2)) h
theorem gt_size {y : MS} {c : MK} {K : MRest} (h : mkeep y = (c, K)) : M_size y = c.2.2.1 := congrArg (fun m => m.1.2.2.1) h
def sc_chairs (c : MK) (f : Nat → Int32) : MK := (c.1, c.2.1, c.2.2.1, f, c.2.2.2.2.1, c.2.2.2.2.2.1, c.2.2.2.2.2.2.1, c.2.2.2.2.2.2.2.1, c.2.2.2.2.2.2.2.2.1, c.2.2.2.2.2.2.2.2.2.1, c.2.2.2.2.2.2.2.2.2.2.1, c.2.2.2.2.2.2.2.2.2.2.2.1, c.2.2.2.2.2.2.2.2.2.2.2.2)
theorem st_chairs {y y' : MS} {c : MK} {K : MRest} {f : Nat → Int32} (h : mkeep y = (c, K)) (e : y' = M_set_chairs y f) : mkeep y' = (sc_chairs c f, K) := by
  rw [e, mk_chairs]; exact congrArg (fun m : MKK => (sc_chairs m.1 f, m.2)) h
theorem gt_chairs {y : MS} {c : MK} {K : MRest} (h : mkeep y = (c, K)) : M_chairs y = c.2.2.2.1 := congrArg (fun m => m.1.2.2.2.1) h
def sc_width (c : MK) (f : Nat → Int32) : MK := (c.1, c.2.1, c.2.2.1, c.2.2.2.1, f, c.2.2.2.2.2.1, c.2.2.2.2.2.2.1, c.2.2.2.2.2.2.2.1, c.2.2.2.2.2.2.2.2.1, c.2.2.2.2.2.2.2.2.2.1, c.2.2.2.2.2.2.2.2.2.2.1, c.2.2.2.2.2.2.2.2.2.2.2.1, c.2.2.2.2.2.2.2.2.2.2.2.2)
theorem st_width {y y' : MS} {c : MK} {K : MRest} {f : Nat → Int32} (h : mkeep y = (c, K)) (e : y' = M_set_width y f) : mkeep y' = (sc_width c f, K) := by
  rw [e, mk_width]; exact congrArg (fun m : MKK => (sc_width m.1 f, m.2)) h
theorem gt_width {y : MS} {c : MK} {K : MRest} (h : mkeep y = (c, K)) : M_width y = c.2.2.2.2.1 := congrArg (fun m => m.1.2.2.2.2.1) h
def sc_there (c : MK) (f : Int32) : MK := (c.1, c.2.1, c.2.2.1, c.2.2.2.1, c.2.2.2.2.1, f, c.2.2.2.2.2.2.1, c.2.2.2.2.2.2.2.1, c.2.2.2.2.2.2.2.2.1, c.2.2.2.2.2.2.2.2.2.1, c.2.2.2.2.2.2.2.2.2.2.1, c.2.2.2.2.2.2.2.2.2.2.2.1, c.2.2.2.2.2.2.2.2.2.2.2.2)
theorem st_there {y y' : MS} {c : MK} {K : MRest} {f : Int32} (h : mkeep y = (c, K)) (e : y' = M_set_there y f) : mkeep y' = (sc_there c f, K) := by
  rw [e, mk_there]; exact congrArg (fun m : MKK => (sc_there m.1 f, m.2)) h
theorem gt_there {y : MS} {c : MK} {K : MRest} (h : mkeep y = (c, K)) : M_there y = c.2.2.2.2.2.1 := congrArg (fun m => m.1.2.2.2.2.2.1) h
def sc_likes (c : MK) (f : Nat → Int32) : MK := (c.1, c.2.1, c.2.2.1, c.2.2.2.1, c.2.2.2.2.1, c.2.2.2.2.2.1, f, c.2.2.2.2.2.2.2.1, c.2.2.2.2.2.2.2.2.1, c.2.2.2.2.2.2.2.2.2.1, c.2.2.2.2.2.2.2.2.2.2.1, c.2.2.2.2.2.2.2.2.2.2.2.1, c.2.2.2.2.2.2.2.2.2.2.2.2)
theorem st_likes {y y' : MS} {c : MK} {K : MRest} {f : Nat → Int32} (h : mkeep y = (c, K)) (e : y' = M_set_likes y f) : mkeep y' = (sc_likes c f, K) := by
  rw [e, mk_likes]; exact congrArg (fun m : MKK => (sc_likes m.1 f, m.2)) h
theorem gt_likes {y : MS} {c : MK} {K : MRest} (h : mkeep y = (c, K)) : M_likes y = c.2.2.2.2.2.2.1 := congrArg (fun m => m.1.2.2.2.2.2.2.1) h
def sc_place (c : MK) (f : Nat → Int32) : MK := (c.1, c.2.1, c.2.2.1, c.2.2.2.1, c.2.2.2.2.1, c.2.2.2.2.2.1, c.2.2.2.2.2.2.1, f, c.2.2.2.2.2.2.2.2.1, c.2.2.2.2.2.2.2.2.2.1, c.2.2.2.2.2.2.2.2.2.2.1, c.2.2.2.2.2.2.2.2.2.2.2.1, c.2.2.2.2.2.2.2.2.2.2.2.2)
theorem st_place {y y' : MS} {c : MK} {K : MRest} {f : Nat → Int32} (h : mkeep y = (c, K)) (e : y' = M_set_place y f) : mkeep y' = (sc_place c f, K) := by
  rw [e, mk_place]; exact congrArg (fun m : MKK => (sc_place m.1 f, m.2)) h
theorem gt_place {y : MS} {c : MK} {K : MRest} (h : mkeep y = (c, K)) : M_place y = c.2.2.2.2.2.2.2.1 := congrArg (fun m => m.1.2.2.2.2.2.2.2.1) h
def sc_busy (c : MK) (f : Nat → Int32) : MK := (c.1, c.2.1, c.2.2.1, c.2.2.2.1, c.2.2.2.2.1, c.2.2.2.2.2.1, c.2.2.2.2.2.2.1, c.2.2.2.2.2.2.2.1, f, c.2.2.2.2.2.2.2.2.2.1, c.2.2.2.2.2.2.2.2.2.2.1, c.2.2.2.2.2.2.2.2.2.2.2.1, c.2.2.2.2.2.2.2.2.2.2.2.2)
theorem st_busy {y y' : MS} {c : MK} {K : MRest} {f : Nat → Int32} (h : mkeep y = (c, K)) (e : y' = M_set_busy y f) : mkeep y' = (sc_busy c f, K) := by
  rw [e, mk_busy]; exact congrArg (fun m : MKK => (sc_busy m.1 f, m.2)) h
theorem gt_busy {y : MS} {c : MK} {K : MRest} (h : mkeep y = (c, K)) : M_busy y = c.2.2.2.2.2.2.2.2.1 := congrArg (fun m => m.1.2.2.2.2.2.2.2.2.1) h
def sc_with (c : MK) (f : Nat → Int32) : MK := (c.1, c.2.1, c.2.2.1, c.2.2.2.1, c.2.2.2.2.1, c.2.2.2.2.2.1, c.2.2.2.2.2.2.1, c.2.2.2.2.2.2.2.1, c.2.2.2.2.2.2.2.2.1, f, c.2.2.2.2.2.2.2.2.2.2.1, c.2.2.2.2.2.2.2.2.2.2.2.1, c.2.2.2.2.2.2.2.2.2.2.2.2)
theorem st_with {y y' : MS} {c : MK} {K : MRest} {f : Nat → Int32} (h : mkeep y = (c, K)) (e : y' = M_set_with y f) : mkeep y' = (sc_with c f, K) := by
  rw [e, mk_with]; exact congrArg (fun m : MKK => (sc_with m.1 f, m.2)) h
theorem gt_with {y : MS} {c : MK} {K : MRest} (h : mkeep y = (c, K)) : M_with y = c.2.2.2.2.2.2.2.2.2.1 := congrArg (fun m => m.1.2.2.2.2.2.2.2.2.2.1) h
def sc_left (c : MK) (f : Nat → Int32) : MK := (c.1, c.2.1, c.2.2.1, c.2.2.2.1, c.2.2.2.2.1, c.2.2.2.2.2.1, c.2.2.2.2.2.2.1, c.2.2.2.2.2.2.2.1, c.2.2.2.2.2.2.2.2.1, c.2.2.2.2.2.2.2.2.2.1, f, c.2.2.2.2.2.2.2.2.2.2.2.1, c.2.2.2.2.2.2.2.2.2.2.2.2)
theorem st_left {y y' : MS} {c : MK} {K : MRest} {f : Nat → Int32} (h : mkeep y = (c, K)) (e : y' = M_set_left y f) : mkeep y' = (sc_left c f, K) := by
  rw [e, mk_left]; exact congrArg (fun m : MKK => (sc_left m.1 f, m.2)) h
theorem gt_left {y : MS} {c : MK} {K : MRest} (h : mkeep y = (c, K)) : M_left y = c.2.2.2.2.2.2.2.2.2.2.1 := congrArg (fun m => m.1.2.2.2.2.2.2.2.2.2.2.1) h
def sc_sights (c : MK) (f : Int32) : MK := (c.1, c.2.1, c.2.2.1, c.2.2.2.1, c.2.2.2.2.1, c.2.2.2.2.2.1, c.2.2.2.2.2.2.1, c.2.2.2.2.2.2.2.1, c.2.2.2.2.2.2.2.2.1, c.2.2.2.2.2.2.2.2.2.1, c.2.2.2.2.2.2.2.2.2.2.1, f, c.2.2.2.2.2.2.2.2.2.2.2.2)
theorem st_sights {y y' : MS} {c : MK} {K : MRest} {f : Int32} (h : mkeep y = (c, K)) (e : y' = M_set_sights y f) : mkeep y' = (sc_sights c f, K) := by
  rw [e, mk_sights]; exact congrArg (fun m : MKK => (sc_sights m.1 f, m.2)) h
theorem gt_sights {y : MS} {c : MK} {K : MRest} (h : mkeep y = (c, K)) : M_sights y = c.2.2.2.2.2.2.2.2.2.2.2.1 := congrArg (fun m => m.1.2.2.2.2.2.2.2.2.2.2.2.1) h
def sc_sight (c : MK) (f : Nat → Int32) : MK := (c.1, c.2.1, c.2.2.1, c.2.2.2.1, c.2.2.2.2.1, c.2.2.2.2.2.1, c.2.2.2.2.2.2.1, c.2.2.2.2.2.2.2.1, c.2.2.2.2.2.2.2.2.1, c.2.2.2.2.2.2.2.2.2.1, c.2.2.2.2.2.2.2.2.2.2.1, c.2.2.2.2.2.2.2.2.2.2.2.1, f)
theorem st_sight {y y' : MS} {c : MK} {K : MRest} {f : Nat → Int32} (h : mkeep y = (c, K)) (e : y' = M_set_sight y f) : mkeep y' = (sc_sight c f, K) := by
  rw [e, mk_sight]; exact congrArg (fun m : MKK => (sc_sight m.1 f, m.2)) h
theorem gt_sight {y : MS} {c : MK} {K : MRest} (h : mkeep y = (c, K)) : M_sight y = c.2.2.2.2.2.2.2.2.2.2.2.2 := congrArg (fun m => m.1.2.2.2.2.2.2.2.2.2.2.2.2) h
theorem gt_image {y : MS} {c : MK} {K : MRest} (h : mkeep y = (c, K)) : M_image y = K.2.2.1 := congrArg (fun m => m.2.2.2.1) h
/-- so much of the image I at o is restored -/
def Gx (I : Nat → Int32) (o : Nat) (c : MK) (n1 n2 n3 n4 n5 n6 : Nat) : Prop := (∀ k, k < n1 → c.2.1 k = I (o + k)) ∧ (∀ k, k < n2 → c.2.2.2.2.1 k = I (o + 24 + k)) ∧ (∀ k, k < n3 → c.2.2.2.2.2.2.1 k = I (o + 60 + k)) ∧ (∀ k, k < n4 → c.2.2.2.2.2.2.2.1 k = I (o + 100 + k) ∧ c.2.2.2.2.2.2.2.2.1 k = I (o + 108 + k) ∧ c.2.2.2.2.2.2.2.2.2.1 k = I (o + 116 + k) ∧ c.2.2.2.2.2.2.2.2.2.2.1 k = I (o + 124 + k)) ∧ (∀ k, k < n5 → c.2.2.2.2.2.2.2.2.2.2.2.2 k = I (o + 132 + k)) ∧ (∀ k, k < n6 → c.2.2.1 k = I (o + 144 + k) ∧ c.2.2.2.1 k = I (o + 150 + k))
def ResOk (K : MRest) (o : Nat) (r : Option (Int32 × MS)) : Prop := ∃ w c, r = some (1, w) ∧ mkeep w = (c, K) ∧ MKe (mimg K.2.2.1 o) c
theorem up_eq {f : Nat → Int32} {i : Nat} {v : Int32} {g : Nat → Int32} (hv : v = g i) (h : ∀ k, k < i → f k = g k) : ∀ k, k < i + 1 → upd f i v k = g k := by
  intro k hk
  by_cases c : k = i
  · subst c; rw [pk_us, hv]
  · rw [pk_un c]; exact h k (by omega)
theorem restore_6 {K : MRest} {o : Nat} (ho : o + 159 ≤ 400) {N : Nat} (hFU : FU = N) (hN : 60000 < N) (y : MS) (c : MK) (h : mkeep y = (c, K)) (hG : Gx K.2.2.1 o c 24 36 40 8 12 0) : ResOk K o (it X9_restore_B236 (fun _ _ _ => none) N y (nI o) (nI 0)) := by
  refine it_rule (bot := fun _ _ _ => none) 6 (fun i (s : MS × MK) => mkeep s.1 = (s.2, K) ∧ Gx K.2.2.1 o s.2 24 36 40 8 12 i) (fun k i s => ResOk K o (k s.1 (nI o) (nI i))) ?_ ?_ N 0 (y, c) (by omega) (by omega) ⟨h, hG⟩
  · rintro k ⟨y, c⟩ ⟨h, hG⟩
    have h : mkeep y = (c, K) := h
    obtain ⟨f1, f2, f3, f4, f5, f6⟩ : Gx K.2.2.1 o c 24 36 40 8 12 6 := hG
    obtain ⟨y1, e1⟩ : ∃ x, x = M_set_rooms y (M_image y (o + 156)) := ⟨_, rfl⟩
    have h1 := st_rooms h e1
    obtain ⟨y2, e2⟩ : ∃ x, x = M_set_there y1 (M_image y1 (o + 157)) := ⟨_, rfl⟩
    have h2 := st_there h1 e2
    obtain ⟨y3, e3⟩ : ∃ x, x = M_set_sights y2 (M_image y2 (o + 158)) := ⟨_, rfl⟩
    have h3 := st_sights h2 e3
    rw [gt_image h2, gt_image h1, gt_image h] at h3
    refine ⟨y3, _, ?_, h3, rfl, rfl, rfl, f1, f2, f3, f4, f5, f6⟩
    show X9_restore_B236 k y (nI o) (nI 6) = _
    unfold X9_restore_B236
    rw [if_pos (by decide), show (156 : Int32) = nI 156 from rfl, show (157 : Int32) = nI 157 from rfl, show (158 : Int32) = nI 158 from rfl, nI_add, nI_add, nI_add, chk_nI (by omega) (by decide), nI_clamp (by omega), nI_clamp (by omega), nI_clamp (by omega), ltA_eq, ← e1, chk_nI (by omega) (by decide), ltA_eq, ← e2, chk_nI (by omega) (by decide), ltA_eq, ← e3]
  · rintro k i ⟨y, c⟩ hi ⟨h, hG⟩ hk
    have h : mkeep y = (c, K) := h
    obtain ⟨f1, f2, f3, f4, f5, f6⟩ : Gx K.2.2.1 o c 24 36 40 8 12 i := hG
    obtain ⟨y1, e1⟩ : ∃ x, x = M_set_size y (upd (M_size y) i (M_image y (o + 144 + i))) := ⟨_, rfl⟩
    have h1 := st_size h e1
    obtain ⟨y2, e2⟩ : ∃ x, x = M_set_chairs y1 (upd (M_chairs y1) i (M_image y1 (o + 150 + i))) := ⟨_, rfl⟩
    have h2 := st_chairs h1 e2
    have g1 : ∀ k, k < i + 1 → upd (M_size y) i (M_image y (o + 144 + i)) k = K.2.2.1 (o + 144 + k) := up_eq (g := fun k => K.2.2.1 (o + 144 + k)) (by rw [gt_image h]) (fun k hk => by rw [gt_size h]; exact (f6 k hk).1)
    have g2 : ∀ k, k < i + 1 → upd (M_chairs y1) i (M_image y1 (o + 150 + i)) k = K.2.2.1 (o + 150 + k) := up_eq (g := fun k => K.2.2.1 (o + 150 + k)) (by rw [gt_image h1]) (fun k hk => by rw [gt_chairs h1]; exact (f6 k hk).2)
    have := hk (y2, _) ⟨h2, f1, f2, f3, f4, f5, fun k hk => ⟨g1 k hk, g2 k hk⟩⟩
    show ResOk K o (X9_restore_B236 k y (nI o) (nI i))
    unfold X9_restore_B236
    rw [if_neg (show ¬ (6 : Int32) ≤ nI i from nlit (by decide) hi), show (144 : Int32) = nI 144 from rfl, show (150 : Int32) = nI 150 from rfl, ad3, ad3, chk_nI (by omega) (by decide), chk_nI hi (by decide), nI_clamp (by omega), nI_clamp (by omega), nI_clamp (by omega), ltA_eq, ← e1, chk_nI (by omega) (by decide), chk_nI hi (by decide), ltA_eq, ← e2, nI_1]
    exact this
theorem restore_5 {K : MRest} {o : Nat} (ho : o + 159 ≤ 400) {N : Nat} (hFU : FU = N) (hN : 60000 < N) (y : MS) (c : MK) (h : mkeep y = (c, K)) (hG : Gx K.2.2.1 o c 24 36 40 8 0 0) : ResOk K o (it X9_restore_B204 (fun _ _ _ => none) N y (nI o) (nI 0)) := by
  refine it_rule (bot := fun _ _ _ => none) 12 (fun i (s : MS × MK) => mkeep s.1 = (s.2, K) ∧ Gx K.2.2.1 o s.2 24 36 40 8 i 0) (fun k i s => ResOk K o (k s.1 (nI o) (nI i))) ?_ ?_ N 0 (y, c) (by omega) (by omega) ⟨h, hG⟩
  · rintro k ⟨y, c⟩ ⟨h, hG⟩
    show ResOk K o (X9_restore_B204 k y (nI o) (nI 12))
    unfold X9_restore_B204
    rw [if_pos (by decide), hFU]; exact restore_6 ho hFU hN y c h hG
  · rintro k i ⟨y, c⟩ hi ⟨h, hG⟩ hk
    have h : mkeep y = (c, K) := h
    obtain ⟨f1, f2, f3, f4, f5, f6⟩ : Gx K.2.2.1 o c 24 36 40 8 i 0 := hG
    obtain ⟨y1, e1⟩ : ∃ x, x = M_set_sight y (upd (M_sight y) i (M_image y (o + 132 + i))) := ⟨_, rfl⟩
    have h1 := st_sight h e1
    have g1 : ∀ k, k < i + 1 → upd (M_sight y) i (M_image y (o + 132 + i)) k = K.2.2.1 (o + 132 + k) := up_eq (g := fun k => K.2.2.1 (o + 132 + k)) (by rw [gt_image h]) (fun k hk => by rw [gt_sight h]; exact f5 k hk)
    have := hk (y1, _) ⟨h1, f1, f2, f3, f4, g1, f6⟩
    show ResOk K o (X9_restore_B204 k y (nI o) (nI i))
    unfold X9_restore_B204
    rw [if_neg (show ¬ (12 : Int32) ≤ nI i from nlit (by decide) hi), show (132 : Int32) = nI 132 from rfl, ad3, chk_nI (by omega) (by decide), chk_nI hi (by decide), nI_clamp (by omega), nI_clamp (by omega), ltA_eq, ← e1, nI_1]
    exact this
theorem restore_4 {K : MRest} {o : Nat} (ho : o + 159 ≤ 400) {N : Nat} (hFU : FU = N) (hN : 60000 < N) (y : MS) (c : MK) (h : mkeep y = (c, K)) (hG : Gx K.2.2.1 o c 24 36 40 0 0 0) : ResOk K o (it X9_restore_B122 (fun _ _ _ => none) N y (nI o) (nI 0)) := by
  refine it_rule (bot := fun _ _ _ => none) 8 (fun i (s : MS × MK) => mkeep s.1 = (s.2, K) ∧ Gx K.2.2.1 o s.2 24 36 40 i 0 0) (fun k i s => ResOk K o (k s.1 (nI o) (nI i))) ?_ ?_ N 0 (y, c) (by omega) (by omega) ⟨h, hG⟩
  · rintro k ⟨y, c⟩ ⟨h, hG⟩
    show ResOk K o (X9_restore_B122 k y (nI o) (nI 8))
    unfold X9_restore_B122
    rw [if_pos (by decide), hFU]; exact restore_5 ho hFU hN y c h hG
  · rintro k i ⟨y, c⟩ hi ⟨h, hG⟩ hk
    have h : mkeep y = (c, K) := h
    obtain ⟨f1, f2, f3, f4, f5, f6⟩ : Gx K.2.2.1 o c 24 36 40 i 0 0 := hG
    obtain ⟨y1, e1⟩ : ∃ x, x = M_set_place y (upd (M_place y) i (M_image y (o + 100 + i))) := ⟨_, rfl⟩
    have h1 := st_place h e1
    obtain ⟨y2, e2⟩ : ∃ x, x = M_set_busy y1 (upd (M_busy y1) i (M_image y1 (o + 108 + i))) := ⟨_, rfl⟩
    have h2 := st_busy h1 e2
    obtain ⟨y3, e3⟩ : ∃ x, x = M_set_with y2 (upd (M_with y2) i (M_image y2 (o + 116 + i))) := ⟨_, rfl⟩
    have h3 := st_with h2 e3
    obtain ⟨y4, e4⟩ : ∃ x, x = M_set_left y3 (upd (M_left y3) i (M_image y3 (o + 124 + i))) := ⟨_, rfl⟩
    have h4 := st_left h3 e4
    have g1 : ∀ k, k < i + 1 → upd (M_place y) i (M_image y (o + 100 + i)) k = K.2.2.1 (o + 100 + k) := up_eq (g := fun k => K.2.2.1 (o + 100 + k)) (by rw [gt_image h]) (fun k hk => by rw [gt_place h]; exact (f4 k hk).1)
    have g2 : ∀ k, k < i + 1 → upd (M_busy y1) i (M_image y1 (o + 108 + i)) k = K.2.2.1 (o + 108 + k) := up_eq (g := fun k => K.2.2.1 (o + 108 + k)) (by rw [gt_image h1]) (fun k hk => by rw [gt_busy h1]; exact (f4 k hk).2.1)
    have g3 : ∀ k, k < i + 1 → upd (M_with y2) i (M_image y2 (o + 116 + i)) k = K.2.2.1 (o + 116 + k) := up_eq (g := fun k => K.2.2.1 (o + 116 + k)) (by rw [gt_image h2]) (fun k hk => by rw [gt_with h2]; exact (f4 k hk).2.2.1)
    have g4 : ∀ k, k < i + 1 → upd (M_left y3) i (M_image y3 (o + 124 + i)) k = K.2.2.1 (o + 124 + k) := up_eq (g := fun k => K.2.2.1 (o + 124 + k)) (by rw [gt_image h3]) (fun k hk => by rw [gt_left h3]; exact (f4 k hk).2.2.2)
    have := hk (y4, _) ⟨h4, f1, f2, f3, fun k hk => ⟨g1 k hk, g2 k hk, g3 k hk, g4 k hk⟩, f5, f6⟩
    show ResOk K o (X9_restore_B122 k y (nI o) (nI i))
    unfold X9_restore_B122
    rw [if_neg (show ¬ (8 : Int32) ≤ nI i from nlit (by decide) hi), show (100 : Int32) = nI 100 from rfl, show (108 : Int32) = nI 108 from rfl, show (116 : Int32) = nI 116 from rfl, show (124 : Int32) = nI 124 from rfl, ad3, ad3, ad3, ad3, chk_nI (by omega) (by decide), chk_nI hi (by decide), nI_clamp (by omega), nI_clamp (by omega), nI_clamp (by omega), nI_clamp (by omega), nI_clamp (by omega), ltA_eq, ← e1, chk_nI (by omega) (by decide), chk_nI hi (by decide), ltA_eq, ← e2, chk_nI (by omega) (by decide), chk_nI hi (by decide), ltA_eq, ← e3, chk_nI (by omega) (by decide), chk_nI hi (by decide), ltA_eq, ← e4, nI_1]
    exact this
theorem restore_3 {K : MRest} {o : Nat} (ho : o + 159 ≤ 400) {N : Nat} (hFU : FU = N) (hN : 60000 < N) (y : MS) (c : MK) (h : mkeep y = (c, K)) (hG : Gx K.2.2.1 o c 24 36 0 0 0 0) : ResOk K o (it X9_restore_B91 (fun _ _ _ => none) N y (nI o) (nI 0)) := by
  refine it_rule (bot := fun _ _ _ => none) 40 (fun i (s : MS × MK) => mkeep s.1 = (s.2, K) ∧ Gx K.2.2.1 o s.2 24 36 i 0 0 0) (fun k i s => ResOk K o (k s.1 (nI o) (nI i))) ?_ ?_ N 0 (y, c) (by omega) (by omega) ⟨h, hG⟩
  · rintro k ⟨y, c⟩ ⟨h, hG⟩
    show ResOk K o (X9_restore_B91 k y (nI o) (nI 40))
    unfold X9_restore_B91
    rw [if_pos (by decide), hFU]; exact restore_4 ho hFU hN y c h hG
  · rintro k i ⟨y, c⟩ hi ⟨h, hG⟩ hk
    have h : mkeep y = (c, K) := h
    obtain ⟨f1, f2, f3, f4, f5, f6⟩ : Gx K.2.2.1 o c 24 36 i 0 0 0 := hG
    obtain ⟨y1, e1⟩ : ∃ x, x = M_set_likes y (upd (M_likes y) i (M_image y (o + 60 + i))) := ⟨_, rfl⟩
    have h1 := st_likes h e1
    have g1 : ∀ k, k < i + 1 → upd (M_likes y) i (M_image y (o + 60 + i)) k = K.2.2.1 (o + 60 + k) := up_eq (g := fun k => K.2.2.1 (o + 60 + k)) (by rw [gt_image h]) (fun k hk => by rw [gt_likes h]; exact f3 k hk)
    have := hk (y1, _) ⟨h1, f1, f2, g1, f4, f5, f6⟩
    show ResOk K o (X9_restore_B91 k y (nI o) (nI i))
    unfold X9_restore_B91
    rw [if_neg (show ¬ (40 : Int32) ≤ nI i from nlit (by decide) hi), show (60 : Int32) = nI 60 from rfl, ad3, chk_nI (by omega) (by decide), chk_nI hi (by decide), nI_clamp (by omega), nI_clamp (by omega), ltA_eq, ← e1, nI_1]
    exact this
theorem restore_2 {K : MRest} {o : Nat} (ho : o + 159 ≤ 400) {N : Nat} (hFU : FU = N) (hN : 60000 < N) (y : MS) (c : MK) (h : mkeep y = (c, K)) (hG : Gx K.2.2.1 o c 24 0 0 0 0 0) : ResOk K o (it X9_restore_B60 (fun _ _ _ => none) N y (nI o) (nI 0)) := by
  refine it_rule (bot := fun _ _ _ => none) 36 (fun i (s : MS × MK) => mkeep s.1 = (s.2, K) ∧ Gx K.2.2.1 o s.2 24 i 0 0 0 0) (fun k i s => ResOk K o (k s.1 (nI o) (nI i))) ?_ ?_ N 0 (y, c) (by omega) (by omega) ⟨h, hG⟩
  · rintro k ⟨y, c⟩ ⟨h, hG⟩
    show ResOk K o (X9_restore_B60 k y (nI o) (nI 36))
    unfold X9_restore_B60
    rw [if_pos (by decide), hFU]; exact restore_3 ho hFU hN y c h hG
  · rintro k i ⟨y, c⟩ hi ⟨h, hG⟩ hk
    have h : mkeep y = (c, K) := h
    obtain ⟨f1, f2, f3, f4, f5, f6⟩ : Gx K.2.2.1 o c 24 i 0 0 0 0 := hG
    obtain ⟨y1, e1⟩ : ∃ x, x = M_set_width y (upd (M_width y) i (M_image y (o + 24 + i))) := ⟨_, rfl⟩
    have h1 := st_width h e1
    have g1 : ∀ k, k < i + 1 → upd (M_width y) i (M_image y (o + 24 + i)) k = K.2.2.1 (o + 24 + k) := up_eq (g := fun k => K.2.2.1 (o + 24 + k)) (by rw [gt_image h]) (fun k hk => by rw [gt_width h]; exact f2 k hk)
    have := hk (y1, _) ⟨h1, f1, g1, f3, f4, f5, f6⟩
    show ResOk K o (X9_restore_B60 k y (nI o) (nI i))
    unfold X9_restore_B60
    rw [if_neg (show ¬ (36 : Int32) ≤ nI i from nlit (by decide) hi), show (24 : Int32) = nI 24 from rfl, ad3, chk_nI (by omega) (by decide), chk_nI hi (by decide), nI_clamp (by omega), nI_clamp (by omega), ltA_eq, ← e1, nI_1]
    exact this
theorem restore_1 {K : MRest} {o : Nat} (ho : o + 159 ≤ 400) {N : Nat} (hFU : FU = N) (hN : 60000 < N) (y : MS) (c : MK) (h : mkeep y = (c, K)) (hG : Gx K.2.2.1 o c 0 0 0 0 0 0) : ResOk K o (it X9_restore_B32 (fun _ _ _ => none) N y (nI o) (nI 0)) := by
  refine it_rule (bot := fun _ _ _ => none) 24 (fun i (s : MS × MK) => mkeep s.1 = (s.2, K) ∧ Gx K.2.2.1 o s.2 i 0 0 0 0 0) (fun k i s => ResOk K o (k s.1 (nI o) (nI i))) ?_ ?_ N 0 (y, c) (by omega) (by omega) ⟨h, hG⟩
  · rintro k ⟨y, c⟩ ⟨h, hG⟩
    show ResOk K o (X9_restore_B32 k y (nI o) (nI 24))
    unfold X9_restore_B32
    rw [if_pos (by decide), hFU]; exact restore_2 ho hFU hN y c h hG
  · rintro k i ⟨y, c⟩ hi ⟨h, hG⟩ hk
    have h : mkeep y = (c, K) := h
    obtain ⟨f1, f2, f3, f4, f5, f6⟩ : Gx K.2.2.1 o c i 0 0 0 0 0 := hG
    obtain ⟨y1, e1⟩ : ∃ x, x = M_set_things y (upd (M_things y) i (M_image y (o + i))) := ⟨_, rfl⟩
    have h1 := st_things h e1
    have g1 : ∀ k, k < i + 1 → upd (M_things y) i (M_image y (o + i)) k = K.2.2.1 (o + k) := up_eq (g := fun k => K.2.2.1 (o + k)) (by rw [gt_image h]) (fun k hk => by rw [gt_things h]; exact f1 k hk)
    have := hk (y1, _) ⟨h1, g1, f2, f3, f4, f5, f6⟩
    show ResOk K o (X9_restore_B32 k y (nI o) (nI i))
    unfold X9_restore_B32
    rw [if_neg (show ¬ (24 : Int32) ≤ nI i from nlit (by decide) hi), nI_add, chk_nI (by omega) (by decide), chk_nI hi (by decide), nI_clamp (by omega), nI_clamp (by omega), ltA_eq, ← e1, nI_1]
    exact this
theorem restore_spec (z : MS) {n : Nat} (hn : n < 2) : ResOk (M_signs z, M_pad z, M_image z, M_isKept z) (200 * n) (it X9_restore_B32 (fun _ _ _ => none) FU z ((200 : Int32) * nI n) 0) := by
  obtain ⟨N, hN, hFU⟩ := FU_ex
  rw [hFU, show (200 : Int32) * nI n = nI (200 * n) from pk_mul 200 n]
  exact restore_1 (by omega) hFU hN z (mcore z) rfl ⟨fun k hk => absurd hk (Nat.not_lt_zero _), fun k hk => absurd hk (Nat.not_lt_zero _), fun k hk => absurd hk (Nat.not_lt_zero _), fun k hk => absurd hk (Nat.not_lt_zero _), fun k hk => absurd hk (Nat.not_lt_zero _), fun k hk => absurd hk (Nat.not_lt_zero _)⟩
theorem sim_image : Sim_image Rel := by
  intro S z x h
  obtain ⟨⟨a, hI, hH, hM⟩, hp, h0, h1⟩ := id h
  have hH : Hc (K_now S) a := hH
  have hM : Mc (mcore z) a := hM
  rcases num_cases x (n := 2) (by decide) with ⟨n, hn, rfl⟩ | hx
  · obtain ⟨w, F, e1, e2, e3, e4⟩ := image_spec z hn
    have hMF := Mc_congr hI.1.2.2.2 e3 hM
    rcases (show n = 0 ∨ n = 1 by omega) with rfl | rfl
    · obtain ⟨y, c1, c2⟩ := copy_Hc (h := K_img0 S) hI.1.2.2.2 hH
      refine ⟨(1, upd (K_kept S) 0 1, y, K_img1 S), (1, w), ?_, e1, rfl, ?_⟩
      · show f_X8_image (K_now S) (K_kept S) (K_img0 S) (K_img1 S) 0 = _
        unfold f_X8_image
        rw [if_neg (by decide), if_pos (by decide), show chk (0 : Int32) 2 = fun x => x from funext fun x => chk_nI (n := 0) (by decide) (by decide), if_pos rfl, c1, Option.bind_some, ltA_eq]
        rfl
      · unfold Rel
        rw [e2]
        refine ⟨⟨a, hI, hH, hM⟩, hp, ⟨rfl, Or.inr rfl, fun _ => ⟨a, hI, c2, hMF⟩⟩, ?_⟩
        show ImgR (upd (K_kept S) 0 1 1) (upd (M_isKept z) 0 1 1) (K_img1 S) (mimg F 200)
        rw [pk_un (by decide), pk_un (by decide)]
        refine ⟨h1.1, h1.2.1, fun q => ?_⟩
        obtain ⟨b, b1, b2, b3⟩ := h1.2.2 q
        refine ⟨b, b1, b2, Mc_congr b1.1.2.2.2 ?_ b3⟩
        have q : ∀ k, 200 ≤ k → F k = M_image z k := fun k hk => e4 k (Or.inr (by omega))
        exact ⟨q _ (by omega), q _ (by omega), q _ (by omega), fun k hk => q _ (by omega), fun k hk => q _ (by omega), fun k hk => q _ (by omega), fun k hk => ⟨q _ (by omega), q _ (by omega), q _ (by omega), q _ (by omega)⟩, fun k hk => q _ (by omega), fun k hk => ⟨q _ (by omega), q _ (by omega)⟩⟩
    · obtain ⟨y, c1, c2⟩ := copy_Hc (h := K_img1 S) hI.1.2.2.2 hH
      refine ⟨(1, upd (K_kept S) 1 1, K_img0 S, y), (1, w), ?_, e1, rfl, ?_⟩
      · show f_X8_image (K_now S) (K_kept S) (K_img0 S) (K_img1 S) 1 = _
        unfold f_X8_image
        rw [if_neg (by decide), if_pos (by decide), show chk (1 : Int32) 2 = fun x => x from funext fun x => chk_nI (n := 1) (by decide) (by decide), if_neg (by decide), c1, Option.bind_some, ltA_eq]
        rfl
      · unfold Rel
        rw [e2]
        refine ⟨⟨a, hI, hH, hM⟩, hp, ?_, ⟨rfl, Or.inr rfl, fun _ => ⟨a, hI, c2, hMF⟩⟩⟩
        show ImgR (upd (K_kept S) 1 1 0) (upd (M_isKept z) 1 1 0) (K_img0 S) (mimg F 0)
        rw [pk_un (by decide), pk_un (by decide)]
        refine ⟨h0.1, h0.2.1, fun q => ?_⟩
        obtain ⟨b, b1, b2, b3⟩ := h0.2.2 q
        refine ⟨b, b1, b2, Mc_congr b1.1.2.2.2 ?_ b3⟩
        have q : ∀ k, k < 200 → F k = M_image z k := fun k hk => e4 k (Or.inl (by omega))
        exact ⟨q _ (by omega), q _ (by omega), q _ (by omega), fun k hk => q _ (by omega), fun k hk => q _ (by omega), fun k hk => q _ (by omega), fun k hk => ⟨q _ (by omega), q _ (by omega), q _ (by omega), q _ (by omega)⟩, fun k hk => q _ (by omega), fun k hk => ⟨q _ (by omega), q _ (by omega)⟩⟩
  · refine ⟨(-2, K_kept S, K_img0 S, K_img1 S), (-2, z), ?_, ?_, rfl, h⟩
    · unfold f_X8_image
      by_cases c : x < 0
      · rw [if_pos c]
      · rw [if_neg c, if_neg (show ¬ x < (2 : Int32) from Int32.not_lt.mpr (hx.resolve_left c))]
    · unfold f_X9_image; rw [show f_X9_in x 0 1 = some 0 from in_no (n := 2) (by decide) (by decide) hx, Option.bind_some, if_pos rfl]
theorem sim_restore : Sim_restore Rel := by
  intro S z x h
  obtain ⟨⟨a, hI, hH, hM⟩, hp, h0, h1⟩ := id h
  rcases num_cases x (n := 2) (by decide) with ⟨n, hn, rfl⟩ | hx
  · have key : ∀ (ik : HS) (hi : ImgR (K_kept S n) (M_isKept z n) ik (mimg (M_image z) (200 * n))), (∀ y, f_X1_copy (K_now S) ik = some y → K_kept S n ≠ 0 → f_X8_restore (K_now S) (K_kept S) (K_img0 S) (K_img1 S) (nI n) = some (1, y)) → ∃ q w, f_X8_restore (K_now S) (K_kept S) (K_img0 S) (K_img1 S) (nI n) = some q ∧ f_X9_restore z (nI n) = some w ∧ q.1 = w.1 ∧ Rel (K_set_now S q.2) w.2 := by
      intro ik hi hc
      have tin : f_X9_in (nI n) 0 1 = some 1 := in_nI (n := 2) hn (by decide)
      by_cases c : K_kept S n = 0
      · have c2 : M_isKept z n = 0 := hi.1 ▸ c
        refine ⟨(-3, K_now S), (-3, z), ?_, ?_, rfl, h⟩
        · unfold f_X8_restore
          rw [if_neg (nI_pos (by omega)), if_pos (show nI n < (2 : Int32) from nI_lt hn (by decide)), chk_nI hn (by decide), nI_clamp (by omega), if_pos c]
        · unfold f_X9_restore
          rw [tin, Option.bind_some, if_neg (by decide), chk_nI hn (by decide), nI_clamp (by omega), if_pos c2]
      · have c1 : K_kept S n = 1 := hi.2.1.resolve_left c
        have c2 : ¬ M_isKept z n = 0 := fun q => c (hi.1.trans q)
        obtain ⟨b, b1, b2, b3⟩ := hi.2.2 c1
        obtain ⟨y, d1, d2⟩ := copy_Hc (h := K_now S) b1.1.2.2.2 b2
        obtain ⟨w, cc, e1, e2, e3⟩ := restore_spec z hn
        refine ⟨(1, y), (1, w), hc y d1 c, ?_, rfl, ?_⟩
        · unfold f_X9_restore
          rw [tin, Option.bind_some, if_neg (by decide), chk_nI hn (by decide), nI_clamp (by omega), if_neg c2]
          exact e1
        · unfold Rel
          rw [e2]
          exact ⟨⟨b, b1, d2, Mc_congr b1.1.2.2.2 e3 b3⟩, hp, h0, h1⟩
    rcases (show n = 0 ∨ n = 1 by omega) with rfl | rfl
    · refine key (K_img0 S) h0 (fun y hy hc => ?_)
      unfold f_X8_restore
      rw [if_neg (by decide), if_pos (by decide), chk_nI hn (by decide), nI_clamp (by omega), if_neg hc, chk_nI hn (by decide), if_pos (by decide), hy, Option.bind_some]
    · refine key (K_img1 S) h1 (fun y hy hc => ?_)
      unfold f_X8_restore
      rw [if_neg (by decide), if_pos (by decide), chk_nI hn (by decide), nI_clamp (by omega), if_neg hc, chk_nI hn (by decide), if_neg (by decide), hy, Option.bind_some]
  · refine ⟨(-2, K_now S), (-2, z), ?_, ?_, rfl, h⟩
    · unfold f_X8_restore
      by_cases c : x < 0
      · rw [if_pos c]
      · rw [if_neg c, if_neg (show ¬ x < (2 : Int32) from Int32.not_lt.mpr (hx.resolve_left c))]
    · unfold f_X9_restore; rw [show f_X9_in x 0 1 = some 0 from in_no (n := 2) (by decide) (by decide) hx, Option.bind_some, if_pos rfl]
end
/-! 73.fault -/
section
/-! fault -/
theorem p_lt {a b : Nat} (ha : a < 2 ^ 31) (hb : b < 2 ^ 31) : (nI a < nI b) = (a < b) := propext (nI_ltI ha hb)
theorem p_le {a b : Nat} (ha : a < 2 ^ 31) (hb : b < 2 ^ 31) : (nI a ≤ nI b) = (a ≤ b) := propext (nI_leI ha hb)
theorem p_eq {a b : Nat} (ha : a < 2 ^ 31) (hb : b < 2 ^ 31) : (nI a = nI b) = (a = b) := propext (nI_eq ha hb)
/-- is it a guest's letter, a room's -/
def isG (c : Nat) : Bool := decide (65 ≤ c) && decide (c ≤ 72)
def isL (R c : Nat) : Bool := decide (97 ≤ c) && decide (c < 97 + R)
/-- how a sign may follow; 5: it can't -/
def nx (R st c p : Nat) : Nat :=
  if st = 0 then (if c = 46 then 0 else if isG c then 1 else if isL R c then 3 else 5)
  else if st = 1 then (if isG c then (if p < c then 2 else 5) else if c = 95 then 0 else if c = 94 then 0 else if isL R c then 0 else 5)
  else if st = 2 then (if 49 ≤ c ∧ c ≤ 57 then 0 else 5)
  else if st = 3 then (if isL R c then 4 else 5)
  else (if 48 ≤ c ∧ c ≤ 51 then 0 else 5)
theorem nx0 (R c p : Nat) : nx R 0 c p = if c = 46 then 0 else if isG c then 1 else if isL R c then 3 else 5 := rfl
theorem nx1 (R c p : Nat) : nx R 1 c p = if isG c then (if p < c then 2 else 5) else if c = 95 then 0 else if c = 94 then 0 else if isL R c then 0 else 5 := rfl
theorem nx2 (R c p : Nat) : nx R 2 c p = if 49 ≤ c ∧ c ≤ 57 then 0 else 5 := rfl
theorem nx3 (R c p : Nat) : nx R 3 c p = if isL R c then 4 else 5 := rfl
theorem nx4 (R c p : Nat) : nx R 4 c p = if 48 ≤ c ∧ c ≤ 51 then 0 else 5 := rfl
/-- the fault, m signs from i on -/
def fa (R : Nat) (c : Nat → Nat) (n : Nat) : Nat → Nat → Nat → Int32
  | 0, _, st => if st = 0 then -6 else nI n
  | m + 1, i, st => if nx R st (c i) (c (i - 1)) = 5 then nI i else fa R c n m (i + 1) (nx R st (c i) (c (i - 1)))
theorem fa_0 (R : Nat) (c : Nat → Nat) (n i st : Nat) : fa R c n 0 i st = if st = 0 then -6 else nI n := rfl
theorem fa_s (R : Nat) (c : Nat → Nat) (n m i st : Nat) : fa R c n (m + 1) i st = if nx R st (c i) (c (i - 1)) = 5 then nI i else fa R c n m (i + 1) (nx R st (c i) (c (i - 1))) := rfl
theorem gl_spec {c : Nat} (hc : c ≤ 126) : f_X2_isGuestLetter (nI c) = some (if isG c then 1 else 0) := by
  unfold f_X2_isGuestLetter isG
  simp (disch := omega) only [s_lit, p_lt, p_le]
  by_cases h1 : 65 ≤ c <;> by_cases h2 : c ≤ 72 <;> simp [h1, h2] <;> (first | (rw [if_neg (by omega)]; try rw [if_neg (by omega)]; try rw [if_pos (by omega)]) | (rw [if_pos (by omega)])) <;> rfl
theorem rl_spec {c R : Nat} (hc : c ≤ 126) (hR : R ≤ 6) : f_X2_isRoomLetter (nI c) (nI R) = some (if isL R c then 1 else 0) := by
  unfold f_X2_isRoomLetter isL
  simp (disch := omega) only [s_lit, nI_add, p_lt, p_le]
  by_cases h1 : 97 ≤ c
  · rw [if_neg (by omega)]
    by_cases h2 : c < 97 + R
    · rw [if_neg (by omega)]; simp [h1, h2]
    · rw [if_pos (by omega)]; simp [h2]
  · rw [if_pos (by omega)]; simp [h1]
theorem b10 {α : Type} (b : Bool) (x y : α) : (if (if b then (1 : Int32) else 0) = 0 then x else y) = if b then y else x := by cases b <;> rfl
theorem follow_spec {pd : PS} {R n st i : Nat} {c : Nat → Nat} (hR : R ≤ 6) (hn : n ≤ 60) (hu : P_used pd = nI n) (hs : ∀ j, j < n → P_signs pd j = nI (c j) ∧ 33 ≤ c j ∧ c j ≤ 126) (hi : i < n) (hst : st < 5) (h0 : st = 1 → 1 ≤ i) : f_X2_follow pd (nI st) (nI i) (nI R) = some (nI (nx R st (c i) (c (i - 1)))) := by
  obtain ⟨e, c1, c2⟩ := hs i hi
  unfold f_X2_follow f_X2_followStart f_X2_followGuest X2_followGuest_J38
  simp only [chk_nI (show i < 60 by omega) (by decide), nI_clamp (show i < 2 ^ 31 by omega), e, gl_spec c2, rl_spec c2 hR, Option.bind_some]
  rcases (show st = 0 ∨ st = 1 ∨ st = 2 ∨ st = 3 ∨ st = 4 by omega) with rfl | rfl | rfl | rfl | rfl
  · rw [nx0, if_pos (show nI 0 = (0 : Int32) from rfl)]
    simp only [b10]
    simp (disch := omega) only [s_lit, p_eq]
    by_cases q1 : c i = 46
    · rw [if_pos q1, if_pos q1]; rfl
    · rw [if_neg q1, if_neg q1]
      cases isG (c i) <;> cases isL R (c i) <;> rfl
  · have hi1 := h0 rfl
    obtain ⟨e', c1', c2'⟩ := hs (i - 1) (by omega)
    have es : f_X2_sign pd (nI i - 1) = some (nI (c (i - 1))) := by
      have e1 : (nI i - 1 : Int32) = nI (i - 1) := pk_sub (b := 1) (by omega)
      unfold f_X2_sign
      rw [e1, if_neg (nI_pos (by omega)), hu, if_neg (nI_ge (by omega) (by omega)), chk_nI (by omega) (by decide), nI_clamp (by omega), e']
    rw [if_neg (show ¬ nI 1 = (0 : Int32) by decide), if_pos (show nI 1 = (1 : Int32) from rfl), es, Option.bind_some, nx1]
    simp only [b10]
    simp (disch := omega) only [s_lit, p_eq, p_le]
    cases isG (c i)
    · simp only [Bool.false_eq_true, if_false]
      by_cases q1 : c i = 95
      · rw [if_pos q1, if_pos q1]; rfl
      · rw [if_neg q1, if_neg q1]
        by_cases q2 : c i = 94
        · rw [if_pos q2, if_pos q2]; rfl
        · rw [if_neg q2, if_neg q2]
          cases isL R (c i) <;> rfl
    · simp only [if_true]
      by_cases q1 : c (i - 1) < c i
      · rw [if_neg (by omega), if_pos q1]; rfl
      · rw [if_pos (by omega), if_neg q1]; rfl
  · rw [if_neg (show ¬ nI 2 = (0 : Int32) by decide), if_neg (show ¬ nI 2 = (1 : Int32) by decide), if_pos (show nI 2 = (2 : Int32) from rfl), nx2]
    simp (disch := omega) only [s_lit, p_lt]
    by_cases q1 : c i < 49
    · rw [if_pos q1, if_neg (by omega)]
    · rw [if_neg q1]
      by_cases q2 : 57 < c i
      · rw [if_pos q2, if_neg (by omega)]
      · rw [if_neg q2, if_pos (by omega)]
  · rw [if_neg (show ¬ nI 3 = (0 : Int32) by decide), if_neg (show ¬ nI 3 = (1 : Int32) by decide), if_neg (show ¬ nI 3 = (2 : Int32) by decide), if_pos (show nI 3 = (3 : Int32) from rfl), nx3]
    simp only [b10]
    cases isL R (c i) <;> rfl
  · rw [if_neg (show ¬ nI 4 = (0 : Int32) by decide), if_neg (show ¬ nI 4 = (1 : Int32) by decide), if_neg (show ¬ nI 4 = (2 : Int32) by decide), if_neg (show ¬ nI 4 = (3 : Int32) by decide), nx4]
    simp (disch := omega) only [s_lit, p_lt]
    by_cases q1 : c i < 48
    · rw [if_pos q1, if_neg (by omega)]
    · rw [if_neg q1]
      by_cases q2 : 51 < c i
      · rw [if_pos q2, if_neg (by omega)]
      · rw [if_neg q2, if_pos (by omega)]
theorem nx_lt (R st c p : Nat) : nx R st c p ≤ 5 := by
  unfold nx
  repeat' split
  all_goals decide
theorem nx_1 {R st c p : Nat} (h : nx R st c p = 1) : st = 0 := by
  unfold nx at h
  repeat' split at h
  all_goals first | assumption | (simp at h)
theorem flaw_spec {pd : PS} {R n : Nat} {c : Nat → Nat} (hR : R ≤ 6) (hn : n ≤ 60) (hu : P_used pd = nI n) (hs : ∀ j, j < n → P_signs pd j = nI (c j) ∧ 33 ≤ c j ∧ c j ≤ 126) : f_X2_flaw pd (nI R) = some (fa R c n n 0 0) := by
  obtain ⟨N, hN, hFU⟩ := FU_ex
  unfold f_X2_flaw
  rw [hFU]
  refine it_rule (bot := fun _ _ _ _ => none) n (fun i (st : Nat) => st < 5 ∧ (st = 1 → 1 ≤ i) ∧ fa R c n (n - i) i st = fa R c n n 0 0) (fun k i st => k pd (nI R) (nI st) (nI i) = some (fa R c n n 0 0)) ?_ ?_ N 0 0 (by omega) (by omega) ⟨by decide, fun h => absurd h (by decide), rfl⟩
  · intro k st ⟨h1, h2, h3⟩
    unfold X2_flaw_B4
    rw [hu, if_pos (Int32.le_refl _), ← h3, Nat.sub_self, fa_0]
    simp (disch := omega) only [s_lit, p_eq]
    by_cases q : st = 0
    · rw [if_pos q, if_pos q]
    · rw [if_neg q, if_neg q]
  · intro k i st hi ⟨h1, h2, h3⟩ hk
    unfold X2_flaw_B4
    rw [hu, if_neg (nI_ge hi (by omega)), follow_spec hR hn hu hs hi h1 h2, Option.bind_some, nI_1]
    have hl := nx_lt R st (c i) (c (i - 1))
    rw [show n - i = (n - (i + 1)) + 1 by omega, fa_s] at h3
    by_cases q : nx R st (c i) (c (i - 1)) = 5
    · rw [if_pos q] at h3
      rw [if_pos (show nI (nx R st (c i) (c (i - 1))) = (5 : Int32) by rw [q]; rfl), h3]
    · rw [if_neg q] at h3
      rw [if_neg (show ¬ nI (nx R st (c i) (c (i - 1))) = (5 : Int32) from fun h => q ((nI_eq (by omega) (b := 5) (by decide)).mp h))]
      exact hk _ ⟨by omega, fun _ => by omega, h3⟩
theorem inb {c a b : Nat} (hc : c ≤ 200) (ha : a ≤ 200) (hb : b ≤ 200) : f_X9_in (nI c) (nI a) (nI b) = some (if a ≤ c ∧ c ≤ b then 1 else 0) := by
  unfold f_X9_in
  simp (disch := omega) only [p_lt]
  by_cases h1 : c < a
  · rw [if_pos h1, if_neg (by omega)]
  · rw [if_neg h1]
    by_cases h2 : b < c
    · rw [if_pos h2, if_neg (by omega)]
    · rw [if_neg h2, if_pos (by omega)]
theorem rfault_step {z : MS} {R n st i : Nat} {c : Nat → Nat} {k : MS → Int32 → Int32 → Option Int32} (hR1 : 1 ≤ R) (hR : R ≤ 6) (hn : n ≤ 60) (hr : M_rooms z = nI R) (hu : M_signs z = nI n) (hs : ∀ j, j < n → M_pad z j = nI (c j) ∧ 33 ≤ c j ∧ c j ≤ 126) (hi : i < n) (hst : st < 5) (h0 : st = 1 → 1 ≤ i) : X9_faultOf_B4 k z (nI st) (nI i) = if nx R st (c i) (c (i - 1)) = 5 then some (nI i) else k z (nI (nx R st (c i) (c (i - 1)))) (nI (i + 1)) := by
  obtain ⟨e, c1, c2⟩ := hs i hi
  have eG : f_X9_in (nI (c i)) 65 72 = some (if isG (c i) then 1 else 0) := by
    rw [show (65 : Int32) = nI 65 from rfl, show (72 : Int32) = nI 72 from rfl, inb (by omega) (by decide) (by decide)]
    unfold isG
    by_cases q1 : 65 ≤ c i <;> by_cases q2 : c i ≤ 72 <;> simp [q1, q2]
  have eL : f_X9_in (nI (c i)) 97 ((97 + nI R) - 1) = some (if isL R (c i) then 1 else 0) := by
    rw [show (97 : Int32) = nI 97 from rfl, nI_add, show nI (97 + R) - (1 : Int32) = nI (97 + R - 1) from pk_sub (b := 1) (by omega), inb (by omega) (by decide) (by omega)]
    unfold isL
    by_cases q1 : 97 ≤ c i <;> by_cases q2 : c i < 97 + R
    · rw [if_pos (by omega)]; simp [q1, q2]
    · rw [if_neg (by omega)]; simp [q2]
    · rw [if_neg (by omega)]; simp [q1]
    · rw [if_neg (by omega)]; simp [q1]
  unfold X9_faultOf_B4
  rw [hu, if_neg (nI_ge hi (by omega)), chk_nI (by omega) (by decide), nI_clamp (by omega), e, hr, eG, eL, Option.bind_some, Option.bind_some]
  rcases (show st = 0 ∨ st = 1 ∨ st = 2 ∨ st = 3 ∨ st = 4 by omega) with rfl | rfl | rfl | rfl | rfl
  · rw [nx0, if_pos (show nI 0 = (0 : Int32) from rfl)]
    unfold X9_faultOf_J66 X9_faultOf_J71 X9_faultOf_J92 X9_faultOf_J202
    simp only [b10]
    simp (disch := omega) only [s_lit, p_eq, nI_add]
    by_cases q1 : c i = 46
    · have eg : isG (c i) = false := by rw [q1]; rfl
      have el : isL R (c i) = false := by rw [q1]; rfl
      rw [eg, el]; simp [q1]
    · cases eg : isG (c i) <;> cases el : isL R (c i) <;> simp [q1]
  · have hi1 := h0 rfl
    obtain ⟨e', c1', c2'⟩ := hs (i - 1) (by omega)
    have e1 : (nI i - 1 : Int32) = nI (i - 1) := pk_sub (b := 1) (by omega)
    rw [nx1, if_neg (show ¬ nI 1 = (0 : Int32) by decide), if_pos (show nI 1 = (1 : Int32) from rfl), e1, chk_nI (by omega) (by decide), nI_clamp (by omega), e']
    unfold X9_faultOf_J118 X9_faultOf_J135 X9_faultOf_J140 X9_faultOf_J152 X9_faultOf_J202
    simp only [b10]
    simp (disch := omega) only [s_lit, p_eq, p_lt, nI_add]
    cases eg : isG (c i)
    · by_cases q1 : c i = 95
      · simp [q1]
      · by_cases q2 : c i = 94
        · simp [q2]
        · cases el : isL R (c i) <;> simp [q1, q2]
    · have h1 : ¬ c i = 95 := fun q => by rw [q] at eg; exact absurd eg (by decide)
      have h2 : ¬ c i = 94 := fun q => by rw [q] at eg; exact absurd eg (by decide)
      have h3 : isL R (c i) = false := by
        unfold isG at eg; unfold isL
        simp only [Bool.and_eq_true, decide_eq_true_eq] at eg
        rw [show decide (97 ≤ c i) = false from decide_eq_false (by omega)]; rfl
      rw [h3]
      by_cases q1 : c (i - 1) < c i
      · simp [q1]
      · simp [q1, h1, h2]
  · rw [nx2, if_neg (show ¬ nI 2 = (0 : Int32) by decide), if_neg (show ¬ nI 2 = (1 : Int32) by decide), if_pos (show nI 2 = (2 : Int32) from rfl), show (49 : Int32) = nI 49 from rfl, show (57 : Int32) = nI 57 from rfl, inb (by omega) (by decide) (by decide), Option.bind_some]
    unfold X9_faultOf_J202
    rw [nI_1]
    by_cases q : 49 ≤ c i ∧ c i ≤ 57
    · rw [if_pos q, if_neg (by decide), if_pos q, if_neg (by decide)]; rfl
    · rw [if_neg q, if_pos rfl, if_neg q, if_pos rfl]
  · rw [nx3, if_neg (show ¬ nI 3 = (0 : Int32) by decide), if_neg (show ¬ nI 3 = (1 : Int32) by decide), if_neg (show ¬ nI 3 = (2 : Int32) by decide), if_pos (show nI 3 = (3 : Int32) from rfl)]
    unfold X9_faultOf_J202
    rw [nI_1, b10]
    cases isL R (c i) <;> rfl
  · rw [nx4, if_neg (show ¬ nI 4 = (0 : Int32) by decide), if_neg (show ¬ nI 4 = (1 : Int32) by decide), if_neg (show ¬ nI 4 = (2 : Int32) by decide), if_neg (show ¬ nI 4 = (3 : Int32) by decide), show (48 : Int32) = nI 48 from rfl, show (51 : Int32) = nI 51 from rfl, inb (by omega) (by decide) (by decide), Option.bind_some]
    unfold X9_faultOf_J202
    rw [nI_1]
    by_cases q : 48 ≤ c i ∧ c i ≤ 51
    · rw [if_pos q, if_neg (by decide), if_pos q, if_neg (by decide)]; rfl
    · rw [if_neg q, if_pos rfl, if_neg q, if_pos rfl]
theorem faultOf_spec {z : MS} {R n : Nat} {c : Nat → Nat} (hR1 : 1 ≤ R) (hR : R ≤ 6) (hn : n ≤ 60) (hr : M_rooms z = nI R) (hu : M_signs z = nI n) (hs : ∀ j, j < n → M_pad z j = nI (c j) ∧ 33 ≤ c j ∧ c j ≤ 126) : f_X9_faultOf z = some (fa R c n n 0 0) := by
  obtain ⟨N, hN, hFU⟩ := FU_ex
  unfold f_X9_faultOf
  rw [hFU]
  refine it_rule (bot := fun _ _ _ => none) n (fun i (st : Nat) => st < 5 ∧ (st = 1 → 1 ≤ i) ∧ fa R c n (n - i) i st = fa R c n n 0 0) (fun k i st => k z (nI st) (nI i) = some (fa R c n n 0 0)) ?_ ?_ N 0 0 (by omega) (by omega) ⟨by decide, fun h => absurd h (by decide), rfl⟩
  · intro k st ⟨h1, h2, h3⟩
    unfold X9_faultOf_B4
    rw [hu, if_pos (Int32.le_refl _), ← h3, Nat.sub_self, fa_0]
    simp (disch := omega) only [s_lit, p_eq]
    by_cases q : st = 0
    · rw [if_pos q, if_pos q]
    · rw [if_neg q, if_neg q]
  · intro k i st hi ⟨h1, h2, h3⟩ hk
    rw [rfault_step hR1 hR hn hr hu hs hi h1 h2]
    have hl := nx_lt R st (c i) (c (i - 1))
    rw [show n - i = (n - (i + 1)) + 1 by omega, fa_s] at h3
    by_cases q : nx R st (c i) (c (i - 1)) = 5
    · rw [if_pos q] at h3
      rw [if_pos q, h3]
    · rw [if_neg q] at h3
      rw [if_neg q]
      exact hk _ ⟨by omega, fun _ => by omega, h3⟩
/-- both pads, as plain numbers -/
theorem PadR.nat {pd : PS} {sn : Int32} {f : Nat → Int32} (h : PadR pd sn f) : ∃ (n : Nat) (c : Nat → Nat), n ≤ 60 ∧ P_used pd = nI n ∧ sn = nI n ∧ (∀ j, j < n → P_signs pd j = nI (c j) ∧ 33 ≤ c j ∧ c j ≤ 126) ∧ ∀ j, j < n → f j = nI (c j) ∧ 33 ≤ c j ∧ c j ≤ 126 := by
  obtain ⟨n, hn, e1, e2, e3⟩ := h
  have ex : ∀ j, ∃ c : Nat, j < n → 33 ≤ c ∧ c ≤ 126 ∧ f j = nI c := fun j => by
    by_cases q : j < n
    · obtain ⟨-, c, h⟩ := e3 j q; exact ⟨c, fun _ => h⟩
    · exact ⟨0, fun h => absurd h q⟩
  refine ⟨n, fun j => Classical.choose (ex j), hn, e1, e2, fun j hj => ?_, fun j hj => ?_⟩
  · obtain ⟨a1, a2, a3⟩ := Classical.choose_spec (ex j) hj
    exact ⟨(e3 j hj).1.trans a3, a1, a2⟩
  · obtain ⟨a1, a2, a3⟩ := Classical.choose_spec (ex j) hj
    exact ⟨a3, a1, a2⟩
theorem sim_fault : Sim_fault Rel := by
  intro S z h
  obtain ⟨⟨a, hI, hH, hM⟩, hp, h3⟩ := id h
  have hH : Hc (K_now S) a := hH
  have hM : Mc (mcore z) a := hM
  have hp : PadR (K_pad S) (M_signs z) (M_pad z) := hp
  obtain ⟨n, c, hn, u1, u2, s1, s2⟩ := PadR.nat hp
  have g1 : f_X8_fault (K_now S) (K_pad S) = some (fa (a_R a) c n n 0 0) := by
    unfold f_X8_fault
    rw [hH.1, flaw_spec hI.1.2.1 hn u1 s1, Option.bind_some]
  have g2 : f_X9_fault z = some (fa (a_R a) c n n 0 0) := by
    unfold f_X9_fault
    rw [faultOf_spec (by have := hI.1.1; omega) hI.1.2.1 hn hM.1 u2 s2, Option.bind_some]
  exact ⟨_, _, g1, g2, rfl, h⟩
end
