/-- nobody there, n rooms, all as at first -/
def a0 (n : Nat) : AS := (n, 0, 0, fun _ _ => 0, fun _ => 8, fun _ => 0, fun _ _ => 0, fun _ _ => 0, fun _ => 0, fun _ => 0, fun _ => -6, fun _ => 0, fun _ => 0, fun _ => 0)
theorem a0_is (n g : Nat) : a_is (a0 n) g = false := Nat.zero_testBit g
theorem Inv_a0 {n : Nat} (h1 : 2 ≤ n) (h2 : n ≤ 6) : Inv (a0 n) := by
  refine ⟨⟨h1, h2, (by decide : 0 < 256), (by decide : 0 ≤ 6)⟩, fun r _ => ⟨fun s _ => Nat.zero_le _, (by decide : 1 ≤ 8), (by decide : 8 ≤ 9), Nat.zero_le _⟩, fun r q _ _ => ⟨Nat.zero_le _, rfl, fun _ => rfl⟩, fun r _ => rfl, fun g _ _ => ⟨rfl, rfl, fun k _ => rfl⟩, fun g _ h => absurd h (by rw [a0_is]; decide), fun g _ _ => ⟨rfl, rfl⟩, fun g _ h => absurd h (by decide : ¬ 0 = 1), fun g _ h => absurd h (by decide : ¬ 0 = 3), fun r _ => ?_, fun s hs => absurd hs (Nat.not_lt_zero _)⟩
  have : a_in (a0 n) r = 0 := by
    unfold a_in cn8
    rw [List.countP_eq_zero]
    intro g _
    rw [a0_is]
    simp
  rw [this]; exact Nat.zero_le _
theorem clear_mf (f : Nat → Int32) : ∀ r, r < 6 → (∀ s, s < 4 → upd (upd (upd (upd (upd (upd (fillA 36 0 f) 4 8) 10 8) 16 8) 22 8) 28 8) 34 8 (r * 6 + s) = nI 0) ∧ upd (upd (upd (upd (upd (upd (fillA 36 0 f) 4 8) 10 8) 16 8) 22 8) 28 8) 34 8 (r * 6 + 4) = nI 8 ∧ upd (upd (upd (upd (upd (upd (fillA 36 0 f) 4 8) 10 8) 16 8) 22 8) 28 8) 34 8 (r * 6 + 5) = nI 0 := by
  intro r hr
  refine ⟨fun s hs => ?_, ?_, ?_⟩
  · rw [pk_un (by omega), pk_un (by omega), pk_un (by omega), pk_un (by omega), pk_un (by omega), pk_un (by omega)]
    unfold fillA; rw [if_pos (by omega)]; rfl
  · rcases (show r = 0 ∨ r = 1 ∨ r = 2 ∨ r = 3 ∨ r = 4 ∨ r = 5 by omega) with rfl | rfl | rfl | rfl | rfl | rfl <;> rfl
  · rw [pk_un (by omega), pk_un (by omega), pk_un (by omega), pk_un (by omega), pk_un (by omega), pk_un (by omega)]
    unfold fillA; rw [if_pos (by omega)]; rfl
theorem fill_at {α : Type} {n j : Nat} {v : α} {f : Nat → α} (h : j < n) : fillA n v f j = v := if_pos h
theorem clear_spec (h : HS) (n : Nat) : ∃ h', f_X1_clear h (nI n) = some h' ∧ Hc h' (a0 n) := by
  refine ⟨_, clear_eq h (nI n), rfl, rfl, rfl, clear_mf (H_measure h), fun r q hr hq => ?_, fun g hg => ⟨fill_at hg, fill_at hg, fill_at hg, fill_at hg⟩, fun g k hg hk => fill_at (by omega), fun s hs => absurd hs (Nat.not_lt_zero _)⟩
  exact fill_at (by omega)
theorem empty_Mc {m w : MKK} {n : Nat} (h : EmptyOf m w) (hr : m.1.1 = nI n) : Mc w.1 (a0 n) ∧ w.2 = m.2 := by
  obtain ⟨th, sz, ch, wd, rfl, h1, h2, h3⟩ := h
  refine ⟨⟨hr, rfl, rfl, fun r hr => ⟨fun s hs => h1 _ (by omega), (h2 r hr).1, (h2 r hr).2⟩, fun r q hr hq => h3 _ (by omega), fun g hg hi => absurd hi (by rw [a0_is]; decide), fun s hs => absurd hs (Nat.not_lt_zero _)⟩, rfl⟩
theorem init_q : ∃ q0 w0, f_X1_clear zH0 (3 : Int32) = some q0 ∧ f_X9_empty zM0 = some w0 ∧ Rel (q0, zP0, zD0, zY0, zT0, zO0, zS0, zU0, (fun _ => 0), (fun _ => 0), zH0, zH0) w0 := by
  obtain ⟨q0, hq, hH⟩ := clear_spec zH0 3
  obtain ⟨w0, hw, hE⟩ := empty_spec zM0
  obtain ⟨hM, hm⟩ := empty_Mc (n := 3) hE rfl
  refine ⟨q0, w0, hq, hw, ?_⟩
  have e : mkeep w0 = ((mkeep w0).1, (mkeep zM0).2) := by rw [← hm]
  unfold Rel
  rw [e]
  refine ⟨⟨a0 3, Inv_a0 (by decide) (by decide), hH, hM⟩, ⟨0, by decide, rfl, rfl, fun i hi => absurd hi (Nat.not_lt_zero _)⟩, ⟨rfl, Or.inl rfl, fun h => absurd h (by decide : ¬ (0 : Int32) = 1)⟩, ⟨rfl, Or.inl rfl, fun h => absurd h (by decide : ¬ (0 : Int32) = 1)⟩⟩
theorem sim_rooms : Sim_rooms Rel := by
  intro S z x h
  by_cases c1 : x < 2
  · refine ⟨(-2, K_now S), (-2, z), ?_, ?_, rfl, h⟩
    · unfold f_X8_rooms; rw [if_pos c1]
    · unfold f_X9_rooms; rw [in_0 (Or.inl c1), Option.bind_some, if_pos rfl]
  · by_cases c2 : x ≤ 6
    · obtain ⟨n, hn, rfl⟩ := nI_of (x := x) (fun q => c1 (Int32.lt_of_lt_of_le q (by decide)))
      have h2 : 2 ≤ n := by
        rcases Nat.lt_or_ge n 2 with q | q
        · exact absurd (nI_lt q (by decide)) c1
        · exact q
      have h6 : n ≤ 6 := (nI_leI hn (b := 6) (by decide)).mp c2
      obtain ⟨⟨a, hI, hH, hM⟩, hp, hi⟩ := h
      obtain ⟨q, hq, hH'⟩ := clear_spec (K_now S) n
      obtain ⟨z1, ez1⟩ : ∃ y, y = M_set_rooms z (nI n) := ⟨_, rfl⟩
      have k1 := mk_rooms z (nI n)
      rw [← ez1] at k1
      obtain ⟨w, hw, hE⟩ := empty_spec z1
      obtain ⟨hM', hm⟩ := empty_Mc (n := n) hE (congrArg (fun m => m.1.1) k1)
      have hm2 : (mkeep w).2 = (mkeep z).2 := hm.trans (congrArg (fun m => m.2) k1)
      refine ⟨(H_rooms (K_now S), q), (M_rooms z, w), ?_, ?_, hH.1.trans hM.1.symm, ?_⟩
      · unfold f_X8_rooms; rw [if_neg c1, if_pos c2, hq, Option.bind_some]
      · unfold f_X9_rooms; rw [in_1 c1 (Int32.not_lt.mpr c2), Option.bind_some, if_neg (by decide), ltA_eq, ← ez1, hw, Option.bind_some]
      · have e : mkeep w = ((mkeep w).1, (mkeep z).2) := by rw [← hm2]
        unfold Rel
        rw [e]
        exact ⟨⟨a0 n, Inv_a0 h2 h6, hH', hM'⟩, hp, hi⟩
    · refine ⟨(-2, K_now S), (-2, z), ?_, ?_, rfl, h⟩
      · unfold f_X8_rooms; rw [if_neg c1, if_neg c2]
      · unfold f_X9_rooms; rw [in_0 (Or.inr (Int32.not_le.mp c2)), Option.bind_some, if_pos rfl]
