theorem dv {n d : Nat} (hn : n < 2 ^ 31) (h0 : 0 < d) (hd : d < 2 ^ 31) (hq : 1 ≤ n / d) : nI n / nI d - 1 = nI (n / d - 1) := by
  rw [pk_div hn h0 hd]; exact pk_sub (b := 1) hq
theorem width_spec {h : HS} {a : AS} (hH : Hc h a) {r q : Nat} (hr : r < 6) (hq : q < 6) : f_X1_widthOf h (nI r) (nI q) = some (nI (a_wd a r q)) := by
  unfold f_X1_widthOf
  rw [ix6, chk_nI (by omega) (by decide), nI_clamp (by omega), hH.2.2.2.2.1 r q hr hq]
theorem sim_told : Sim_told Rel := by
  intro S z x h
  obtain ⟨⟨a, hI, hH, hM⟩, ⟨n0, hn0, p1, p2, p3⟩, h4⟩ := id h
  have hH : Hc (K_now S) a := hH
  have hM : Mc (mcore z) a := hM
  have p1 : P_used (K_pad S) = nI n0 := p1
  have p2 : M_signs z = nI n0 := p2
  have hR6 := hI.1.2.1
  suffices H : ∃ v, f_X8_told (K_now S) (K_pad S) x = some v ∧ f_X9_told z x = some v by
    obtain ⟨v, v1, v2⟩ := H
    exact ⟨v, v, v1, v2, rfl, h⟩
  by_cases c1 : x < 10
  · have m1 : x < 1000 := Int32.lt_trans c1 (by decide)
    have m2 : x < 100 := Int32.lt_trans c1 (by decide)
    unfold f_X8_told f_X9_told f_X8_toldByCode
    rw [if_pos m1, if_pos m2, if_pos c1]
    by_cases e0 : x = 0
    · rw [if_pos e0, if_pos e0, p1, p2]; exact ⟨_, rfl, rfl⟩
    · rw [if_neg e0, if_neg e0]
      by_cases e1 : x = 1
      · rw [if_pos e1, if_pos e1, hH.1, m_rooms hM]; exact ⟨_, rfl, rfl⟩
      · rw [if_neg e1, if_neg e1]
        by_cases e2 : x = 2
        · rw [if_pos e2, if_pos e2, hH.2.1, m_there hM]; exact ⟨_, rfl, rfl⟩
        · rw [if_neg e2, if_neg e2]
          by_cases e3 : x = 3
          · rw [if_pos e3, if_pos e3, hH.2.2.1, show M_sights z = nI (a_k a) from hM.2.2.1]; exact ⟨_, rfl, rfl⟩
          · rw [if_neg e3, if_neg e3, if_neg (Int32.not_le.mpr c1), Option.bind_some]; exact ⟨_, rfl, rfl⟩
  · have c10 : (10 : Int32) ≤ x := Int32.not_lt.mp c1
    obtain ⟨n, hn, rfl⟩ := nI_of (x := x) (fun q => c1 (Int32.lt_trans q (by decide)))
    have hn10 : 10 ≤ n := (nI_leI (a := 10) (by decide) hn).mp c10
    have ne : ∀ j : Nat, j < 4 → ¬ nI n = nI j := fun j hj q => by have := (nI_eq hn (by omega)).mp q; omega
    unfold f_X8_told f_X9_told f_X8_toldByCode X9_told_J146
    rw [if_neg (show ¬ nI n = (0 : Int32) from ne 0 (by decide)), if_neg (show ¬ nI n = (1 : Int32) from ne 1 (by decide)), if_neg (show ¬ nI n = (2 : Int32) from ne 2 (by decide)), if_neg (show ¬ nI n = (3 : Int32) from ne 3 (by decide)), if_pos c10]
    by_cases c100 : n < 100
    · rw [if_neg (show ¬ (100 : Int32) ≤ nI n from nlit (by decide) c100), if_pos (show nI n < (1000 : Int32) from nI_lt (b := 1000) (by omega) (by decide)), if_pos (show nI n < (100 : Int32) from nI_lt c100 (by decide)), if_neg c1]
      have d1 : nI n / 10 - 1 = nI (n / 10 - 1) := dv hn (d := 10) (by decide) (by decide) (by omega)
      have d2 : nI n - nI n / 10 * 10 = nI (n % 10) := pk_rem hn (d := 10) (by decide) (by decide)
      rw [d1, d2]
      rcases rm_cases hI hH hM (nI (n / 10 - 1)) with ⟨r, hr, er, u1, u2⟩ | ⟨-, u1, u2⟩
      · have er' : n / 10 - 1 = r := (nI_eq (by omega) (by omega)).mp er
        rw [u1, u2, Option.bind_some, Option.bind_some, if_neg (show ¬ (1 : Int32) = 0 by decide), if_neg (show ¬ (1 : Int32) = 0 by decide), er']
        have hm := hH.2.2.2.1 r (by omega)
        have hz := hM.2.2.2.1 r (by omega)
        by_cases c6 : n % 10 < 6
        · rw [if_neg (show ¬ (6 : Int32) ≤ nI (n % 10) from nlit (by decide) c6), if_pos (show nI (n % 10) ≤ (5 : Int32) from nI_le (b := 5) (by omega) (by decide)), ix6, chk_nI (by omega) (by decide), nI_clamp (by omega), Option.bind_some]
          by_cases c4 : n % 10 < 4
          · rw [if_neg (show ¬ (4 : Int32) ≤ nI (n % 10) from nlit (by decide) c4), ix4', chk_nI (by omega) (by decide), nI_clamp (by omega), hm.1 _ c4, show M_things z (4 * r + n % 10) = nI (a_th a r (n % 10)) from hz.1 _ c4]
            exact ⟨_, rfl, rfl⟩
          · rw [if_pos (show (4 : Int32) ≤ nI (n % 10) from nI_le (a := 4) (by omega) (by omega)), chk_nI (by omega) (by decide), chk_nI (by omega) (by decide), nI_clamp (by omega)]
            by_cases c5 : n % 10 = 4
            · rw [c5, if_pos (show nI 4 = (4 : Int32) from rfl), hm.2.1, show M_size z r = nI (a_sz a r) from hz.2.1]; exact ⟨_, rfl, rfl⟩
            · have c5' : n % 10 = 5 := by omega
              rw [c5', if_neg (show ¬ nI 5 = (4 : Int32) by decide), hm.2.2, show M_chairs z r = nI (a_ch a r) from hz.2.2]; exact ⟨_, rfl, rfl⟩
        · rw [if_pos (show (6 : Int32) ≤ nI (n % 10) from nI_le (a := 6) (by omega) (by omega)), if_neg (show ¬ nI (n % 10) ≤ (5 : Int32) from nI_ge (a := 5) (by omega) (by omega)), Option.bind_some]
          exact ⟨_, rfl, rfl⟩
      · rw [u1, u2, Option.bind_some, Option.bind_some, if_pos (show (0 : Int32) = 0 from rfl), if_pos (show (0 : Int32) = 0 from rfl), Option.bind_some]
        exact ⟨_, rfl, rfl⟩
    · rw [if_pos (show (100 : Int32) ≤ nI n from nI_le (a := 100) (by omega) hn)]
      by_cases c1000 : n < 1000
      · rw [if_neg (show ¬ (1000 : Int32) ≤ nI n from nlit (by decide) c1000), if_pos (show nI n < (1000 : Int32) from nI_lt c1000 (by decide)), if_neg (show ¬ nI n < (100 : Int32) from nI_nlt (b := 100) (by omega) hn)]
        have d1 : nI n / 100 - 1 = nI (n / 100 - 1) := dv hn (d := 100) (by decide) (by decide) (by omega)
        have d2 : nI n - nI n / 100 * 100 = nI (n % 100) := pk_rem hn (d := 100) (by decide) (by decide)
        rw [d1, d2]
        rcases rm_cases hI hH hM (nI (n / 100 - 1)) with ⟨r, hr, er, u1, u2⟩ | ⟨-, u1, u2⟩
        · have er' : n / 100 - 1 = r := (nI_eq (by omega) (by omega)).mp er
          rw [u1, u2, Option.bind_some, Option.bind_some, if_neg (show ¬ (1 : Int32) = 0 by decide), if_neg (show ¬ (1 : Int32) = 0 by decide)]
          rcases rm_cases hI hH hM (nI (n % 100)) with ⟨q, hq, eq, w1, w2⟩ | ⟨-, w1, w2⟩
          · have eq' : n % 100 = q := (nI_eq (by omega) (by omega)).mp eq
            rw [w1, w2, Option.bind_some, Option.bind_some, if_neg (show ¬ (1 : Int32) = 0 by decide), if_neg (show ¬ (1 : Int32) = 0 by decide), er', eq']
            by_cases c : r = q
            · rw [if_pos (by rw [c]), if_pos (by rw [c]), Option.bind_some]; exact ⟨_, rfl, rfl⟩
            · rw [if_neg (fun e => c ((nI_eq (by omega) (by omega)).mp e)), if_neg (fun e => c ((nI_eq (by omega) (by omega)).mp e)), width_spec hH (by omega) (by omega), Option.bind_some, Option.bind_some, ix6', chk_nI (by omega) (by decide), nI_clamp (by omega), show M_width z (6 * r + q) = nI (a_wd a r q) from hM.2.2.2.2.1 r q (by omega) (by omega)]
              exact ⟨_, rfl, rfl⟩
          · rw [w1, w2, Option.bind_some, Option.bind_some, if_pos (show (0 : Int32) = 0 from rfl), if_pos (show (0 : Int32) = 0 from rfl), Option.bind_some]
            exact ⟨_, rfl, rfl⟩
        · rw [u1, u2, Option.bind_some, Option.bind_some, if_pos (show (0 : Int32) = 0 from rfl), if_pos (show (0 : Int32) = 0 from rfl), Option.bind_some]
          exact ⟨_, rfl, rfl⟩
      · rw [if_pos (show (1000 : Int32) ≤ nI n from nI_le (a := 1000) (by omega) hn), if_neg (show ¬ nI n < (1000 : Int32) from nI_nlt (b := 1000) (by omega) hn)]
        have d1 : nI n / 1000 - 1 = nI (n / 1000 - 1) := dv hn (d := 1000) (by decide) (by decide) (by omega)
        have d2 : nI n - nI n / 1000 * 1000 = nI (n % 1000) := pk_rem hn (d := 1000) (by decide) (by decide)
        rw [d1, d2]
        rcases th_cases hI hH hM (nI (n / 1000 - 1)) with ⟨g, hg, eg, hg1, u1, u2⟩ | ⟨u1, u2⟩
        · have eg' : n / 1000 - 1 = g := (nI_eq (by omega) (by omega)).mp eg
          rw [u1, u2, Option.bind_some, Option.bind_some, if_neg (show ¬ (1 : Int32) = 0 by decide), if_neg (show ¬ (1 : Int32) = 0 by decide), eg']
          by_cases c5 : n % 1000 < 5
          · rw [if_neg (show ¬ (5 : Int32) ≤ nI (n % 1000) from nlit (by decide) c5), if_neg (show ¬ (5 : Int32) ≤ nI (n % 1000) from nlit (by decide) c5), ix5, ix5', chk_nI (by omega) (by decide), chk_nI (by omega) (by decide), nI_clamp (by omega), nI_clamp (by omega), Option.bind_some, hH.2.2.2.2.2.2.1 g _ hg c5, show M_likes z (5 * g + n % 1000) = Int32.ofInt (a_lk a g (n % 1000)) from (hM.2.2.2.2.2.1 g hg hg1).2.2.2.2 _ c5]
            exact ⟨_, rfl, rfl⟩
          · rw [if_pos (show (5 : Int32) ≤ nI (n % 1000) from nI_le (a := 5) (by omega) (by omega)), if_pos (show (5 : Int32) ≤ nI (n % 1000) from nI_le (a := 5) (by omega) (by omega)), Option.bind_some]
            exact ⟨_, rfl, rfl⟩
        · rw [u1, u2, Option.bind_some, Option.bind_some, if_pos (show (0 : Int32) = 0 from rfl), if_pos (show (0 : Int32) = 0 from rfl), Option.bind_some]
          exact ⟨_, rfl, rfl⟩
