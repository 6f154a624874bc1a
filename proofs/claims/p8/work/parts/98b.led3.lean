/-! led: the reference's side -/
theorem rld_step {w : MS} {a : AS} {r s i : Nat} (hM : Mx0 w (ldI a r s i) lo0) (hi : i < 8) {v1 v2 : Int32} (h1 : v1 = if s.testBit i then nI r else M_at w i) (h2 : ∀ y : MS, M_busyNow y = M_busyNow w → v2 = if s.testBit i then 2 else M_busyNow y i) (hI : s.testBit i = true → a_is a i = true → a_bs a i = 0 ∧ a_lf a i = 0) : ∃ y1 y2, y1 = M_set_at w (upd (M_at w) i v1) ∧ y2 = M_set_busyNow y1 (upd (M_busyNow y1) i v2) ∧ M_busyNow y1 = M_busyNow w ∧ mkeep y2 = mkeep w ∧ Mx0 y2 (ldI a r s (i + 1)) lo0 := by
  obtain ⟨y1, e1⟩ : ∃ x, x = M_set_at w (upd (M_at w) i v1) := ⟨_, rfl⟩
  obtain ⟨a1, b1⟩ := set_at e1
  obtain ⟨y2, e2⟩ : ∃ x, x = M_set_busyNow y1 (upd (M_busyNow y1) i v2) := ⟨_, rfl⟩
  obtain ⟨a2, b2⟩ := set_busyNow e2
  have f1 : M_busyNow y1 = M_busyNow w := congrArg (fun m => m.2.1) b1
  have g1 : M_at y2 = upd (M_at w) i v1 := (congrArg (fun m => m.1) b2).trans (congrArg (fun m => m.1) b1)
  have g2 : M_busyNow y2 = upd (M_busyNow w) i v2 := by rw [← f1]; exact congrArg (fun m => m.2.1) b2
  have g3 : M_withNow y2 = M_withNow w := (congrArg (fun m => m.2.2.1) b2).trans (congrArg (fun m => m.2.2.1) b1)
  have g4 : M_leftNow y2 = M_leftNow w := (congrArg (fun m => m.2.2.2.1) b2).trans (congrArg (fun m => m.2.2.2.1) b1)
  have g5 : M_thingsNow y2 = M_thingsNow w := (congrArg (fun m => m.2.2.2.2.1) b2).trans (congrArg (fun m => m.2.2.2.2.1) b1)
  have g6 : M_loose y2 = M_loose w := (congrArg (fun m => m.2.2.2.2.2.1) b2).trans (congrArg (fun m => m.2.2.2.2.2.1) b1)
  refine ⟨y1, y2, e1, e2, f1, a2.trans a1, hM.now (Mc_now (a2.trans a1) hM.1 ((ld_R a r s (i + 1)).trans (ld_R a r s i).symm) ((ld_T a r s (i + 1)).trans (ld_T a r s i).symm) ((ld_k a r s (i + 1)).trans (ld_k a r s i).symm) ((ld_sz a r s (i + 1)).trans (ld_sz a r s i).symm) ((ld_ch a r s (i + 1)).trans (ld_ch a r s i).symm) ((ld_wd a r s (i + 1)).trans (ld_wd a r s i).symm) ((ld_sg a r s (i + 1)).trans (ld_sg a r s i).symm) ((ld_sr a r s (i + 1)).trans (ld_sr a r s i).symm) (fun r' s' hr hs => by rw [g5, ld_th]; exact (gt_th hM.1 hr hs).trans (by rw [ld_th])) (fun g k _ _ _ => by unfold lkf; rw [ld_lk, ld_lk]) (fun j hj hij => ?_)) g6⟩
  obtain ⟨p1, p2, p3, p4⟩ := gt_now hM.1 hj hij
  have hij : a_is a j = true := hij
  rw [g1, g2, g3, g4]
  simp only [ld_pl, ld_bs, ld_mt, ld_lf] at p1 p2 p3 p4 ⊢
  by_cases c : j = i
  · subst c
    rw [pk_us, pk_us, h1, h2 w rfl]
    simp only [Nat.lt_irrefl, false_and, if_false] at p1 p2 p3 p4
    cases e : s.testBit j
    · simp [e]; exact ⟨p1, p2, p3, p4⟩
    · obtain ⟨q1, q2⟩ := hI e hij
      rw [q2] at p3
      simp [e]; exact ⟨rfl, p3⟩
  · have e1 : (j < i + 1) ↔ j < i := by omega
    rw [pk_un c, pk_un c]
    simp only [e1]; exact ⟨p1, p2, p3, p4⟩
theorem cin_weak {w : MS} {b : AS} (hT : a_T b < 256) (hp : ∀ g, g < 8 → a_is b g = true → a_pl b g < 1000) (hM : Mc (mnow w) b) {r : Nat} (hr : r < 6) : f_X9_countIn w (nI r) (-6) = some (nI (a_in b r)) := by
  obtain ⟨N, hN, hFU⟩ := FU_ex
  have et : M_there w = nI (a_T b) := hM.2.1
  rw [a_in_cnt]
  unfold f_X9_countIn
  rw [hFU]
  refine it_rule (bot := fun _ _ _ _ _ => none) 8 (fun i (n : Int32) => n = nI (cnt (fun j => a_is b j && a_pl b j == r) i)) (fun k i n => k w (nI r) (-6) n (nI i) = some (nI (cnt (fun j => a_is b j && a_pl b j == r) 8))) ?_ ?_ N 0 0 (by omega) (by omega) rfl
  · intro k n hn
    unfold X9_countIn_B5
    rw [if_pos (by decide), hn]
  · intro k i n hi hn hk
    have k0 : (a_is b i && a_pl b i == r) = false → k w (nI r) (-6) (n + 0) (nI (i + 1)) = some (nI (cnt (fun j => a_is b j && a_pl b j == r) 8)) := fun h => hk _ (by rw [hn, cnt_s, h]; simp)
    unfold X9_countIn_B5 X9_countIn_J46 X9_countIn_J47
    rw [if_neg (show ¬ (8 : Int32) ≤ nI i from nlit (by decide) hi), et, has_b hT hi, Option.bind_some, nI_1]
    cases e : (a_T b).testBit i
    · have e' : a_is b i = false := e
      rw [if_pos (by decide)]; exact k0 (by rw [e']; rfl)
    · have e' : a_is b i = true := e
      have hpl := hp i hi e'
      rw [if_neg (by decide), if_neg (n6 (by omega)), chk_nI hi (by decide), nI_clamp (by omega), (gt_now hM hi e').1]
      by_cases c : a_pl b i = r
      · rw [if_pos (by rw [c])]
        exact hk _ (by rw [hn, cnt_s, e', c]; simp; exact nI_1 _)
      · rw [if_neg (fun h => c ((nI_eq (by omega) (by omega)).mp h))]; exact k0 (by rw [e']; simp [c])
section RL2
variable {a : AS} {r k m : Nat}
theorem rled_fin (hI : Inv a) (hr : r < a_R a) (hm : m < 1000) (hk : k < 1000) {z w : MS} {s : Nat} (hs : s < 256) (hw : mkeep w = mkeep z) (hM : Mx0 w (ldI a r s 8) lo0) (hsub : s &&& idl a = s) (x4 x5 : Int32) {k50 : MS → Int32 → Int32 → Int32 → Int32 → Int32 → Int32 → Option (Int32 × MS)} : ∃ w', mkeep w' = mkeep z ∧ X9_led_J203 k50 w (nI r) (nI k) (nI m) x4 x5 (nI s) 1 = k50 w' (nI r) (nI k) (nI m) x4 (if gdB a r k m s then nI s else x5) (nI (s + 1)) := by
  have hR6 := hI.1.2.1
  have s9 := (hI.2.1 r (by omega)).2.2.1
  have i8 : a_in (ldI a r s 8) r ≤ 8 := cnt_le _ 8
  have hsz : M_size w r = nI (a_sz a r) := by
    have := (hM.1.2.2.2.1 r (by omega)).2.1
    rw [ld_sz] at this; exact this
  unfold X9_led_J203 X9_led_J233 X9_led_J229
  rw [if_neg (by decide)]
  have go : a_in (ldI a r s 8) r ≤ a_sz a r → ∃ w', mkeep w' = mkeep z ∧ X9_led_J234 k50 w (nI r) (nI k) (nI m) x4 x5 (nI s) 1 = k50 w' (nI r) (nI k) (nI m) x4 (if gdB a r k m s then nI s else x5) (nI (s + 1)) := by
    intro hc
    have hIl := Inv_ld hI hr hs hsub hc
    obtain ⟨w', g1, g2, g3⟩ := goMin_spec hIl (Lo0 _) hM hm
    have hcr := crowdIn_spec (Inv_minN hIl lo0 m) g3.1 (r := r) (by omega)
    have hb := bits_spec (msk_lt (fun g => a_is (minN lo0 (ldI a r s 8) m) g && a_pl (minN lo0 (ldI a r s 8) m) g == r) 8)
    have ec : cnt (fun j => (msk (fun g => a_is (minN lo0 (ldI a r s 8) m) g && a_pl (minN lo0 (ldI a r s 8) m) g == r) 8).testBit j) 8 = a_in (minN lo0 (ldI a r s 8) m) r := cnt_congr (fun j hj => msk_bit _ 8 j hj)
    rw [ec] at hb
    have n8 : a_in (minN lo0 (ldI a r s 8) m) r ≤ 8 := cnt_le _ 8
    refine ⟨w', g2.trans hw, ?_⟩
    unfold X9_led_J234 X9_led_J265 X9_led_J267 gdB
    rw [if_neg (by decide), g1, Option.bind_some, hcr, Option.bind_some, hb, Option.bind_some, nI_1]
    by_cases c3 : k ≤ a_in (minN lo0 (ldI a r s 8) m) r
    · rw [if_neg (nI_nlt c3 (by omega))]; simp [hsub, hc, c3]
    · rw [if_pos (nI_lt (by omega) (by omega))]; simp [c3]
  by_cases c0 : s = 0
  · have hc : a_in (ldI a r s 8) r ≤ a_sz a r := by
      have e : a_in (ldI a r s 8) r = a_in a r := by
        rw [ld_in, a_in_cnt]; subst c0
        exact cnt_congr (fun j _ => by simp)
      rw [e]; exact hI.2.2.2.2.2.2.2.2.2.1 r (by omega)
    rw [if_pos (show nI s = 0 by rw [c0]; rfl)]
    exact go hc
  · have hIl' : f_X9_countIn w (nI r) (-6) = some (nI (a_in (ldI a r s 8) r)) := cin_weak (b := ldI a r s 8) hI.1.2.2.1 (fun g hg hi => by
      rw [ld_pl]
      have h6 := (hI.2.2.2.2.2.1 g hg hi).1
      split <;> omega) hM.1 (show r < 6 by omega)
    rw [if_neg (show ¬ nI s = 0 from fun q => c0 ((nI_eq (by omega) (b := 0) (by decide)).mp q)), hIl', Option.bind_some, chk_nI (show r < 6 by omega) (by decide), nI_clamp (by omega), hsz]
    by_cases hc : a_in (ldI a r s 8) r ≤ a_sz a r
    · rw [if_neg (nI_nlt hc (by omega))]; exact go hc
    · rw [if_pos (nI_lt (by omega) (by omega))]
      refine ⟨w, hw, ?_⟩
      unfold X9_led_J234 X9_led_J267 gdB
      rw [if_pos rfl, nI_1]; simp [hc]
theorem rled_in2 (hI : Inv a) (hr : r < a_R a) (hm : m < 1000) (hk : k < 1000) {z w : MS} {s : Nat} (hs : s < 256) (hw : mkeep w = mkeep z) (hM : Mx0 w a lo0) (hT : s &&& a_T a = s) (x4 x5 : Int32) {k50 : MS → Int32 → Int32 → Int32 → Int32 → Int32 → Int32 → Option (Int32 × MS)} : ∃ w', mkeep w' = mkeep z ∧ it (X9_led_B102 k50) (fun _ _ _ _ _ _ _ _ _ => none) FU w (nI r) (nI k) (nI m) x4 x5 (nI s) 1 0 = k50 w' (nI r) (nI k) (nI m) x4 (if gdB a r k m s then nI s else x5) (nI (s + 1)) := by
  obtain ⟨N, hN, hFU⟩ := FU_ex
  have hR6 := hI.1.2.1
  have hTb := (sub_bit hs).mp hT
  rw [hFU]
  have h0 : Mx0 w (ldI a r s 0) lo0 := hM.now (Mc_now rfl hM.1 (ld_R a r s 0) (ld_T a r s 0) (ld_k a r s 0) (ld_sz a r s 0) (ld_ch a r s 0) (ld_wd a r s 0) (ld_sg a r s 0) (ld_sr a r s 0) (fun r' s' hr hs => by rw [ld_th]; exact gt_th hM.1 hr hs) (fun g k _ _ _ => by unfold lkf; rw [ld_lk]) (fun j hj hi => by
    simp only [ld_pl, ld_bs, ld_mt, ld_lf, Nat.not_lt_zero, false_and, if_false]; exact gt_now hM.1 hj hi)) rfl
  obtain ⟨N, rfl⟩ : ∃ M, N = M + 1 := ⟨N - 1, by omega⟩
  have gen : ∀ n i (y : MS), 8 - i < n → i ≤ 8 → mkeep y = mkeep z → Mx0 y (ldI a r s i) lo0 → (∀ j, j < i → s.testBit j = true → a_bs a j = 0) → ∃ w', mkeep w' = mkeep z ∧ it (X9_led_B102 k50) (fun _ _ _ _ _ _ _ _ _ => none) (n + 1) y (nI r) (nI k) (nI m) x4 x5 (nI s) 1 (nI i) = k50 w' (nI r) (nI k) (nI m) x4 (if gdB a r k m s then nI s else x5) (nI (s + 1)) := by
    intro n
    induction n with
    | zero => intro i y h; omega
    | succ n ih =>
      intro i y h1 h2 hy hMy hb
      have ex : ∀ (y : MS) (x8 : Int32), it (X9_led_B102 k50) (fun _ _ _ _ _ _ _ _ _ => none) (n + 1) y (nI r) (nI k) (nI m) x4 x5 (nI s) 0 x8 = k50 y (nI r) (nI k) (nI m) x4 x5 (nI (s + 1)) := by
        intro y x8
        rw [it_s]
        unfold X9_led_B102 X9_led_J203 X9_led_J233 X9_led_J234 X9_led_J267
        rw [if_pos (show (0 : Int32) = 0 from rfl), if_pos (show (0 : Int32) = 0 from rfl), if_pos (show (0 : Int32) = 0 from rfl), ite_self, nI_1]
      rw [it_s]
      by_cases c8 : i = 8
      · subst c8
        unfold X9_led_B102
        rw [if_pos (by decide)]
        refine rled_fin hI hr hm hk hs hy hMy ((sub_bit hs).mpr (fun j hj hbj => ?_)) x4 x5
        unfold idl
        rw [msk_bit _ 8 j hj, hb j hj hbj, show a_is a j = true from hTb j hj hbj]; rfl
      · have hi : i < 8 := by omega
        have hbs := bs_lt hI hi
        unfold X9_led_B102
        rw [if_neg (show ¬ (8 : Int32) ≤ nI i from nlit (by decide) hi), if_neg (by decide), has_b hs hi, Option.bind_some]
        cases e : s.testBit i
        · obtain ⟨y1, y2, q1, q2, q3, q4, q5⟩ := rld_step hMy hi (v1 := M_at y i) (v2 := M_busyNow y i) (by rw [e]; rfl) (fun y' hy' => by rw [e, hy']; rfl) (fun q => by rw [e] at q; cases q)
          obtain ⟨w', k1, k2⟩ := ih (i + 1) y2 (by omega) (by omega) (q4.trans hy) q5 (fun j hj hbj => by
            by_cases cj : j = i
            · subst cj; rw [e] at hbj; cases hbj
            · exact hb j (by omega) hbj)
          refine ⟨w', k1, ?_⟩
          rw [if_pos (by decide)]
          unfold X9_led_J134 X9_led_J139
          rw [has_b hs hi, Option.bind_some, e, if_pos (by decide), chk_nI hi (by decide), nI_clamp (by omega)]
          unfold X9_led_J168
          rw [chk_nI hi (by decide), nI_clamp (by omega), ltA_eq, ← q1, has_b hs hi, Option.bind_some, e, if_pos (by decide), chk_nI hi (by decide)]
          have q2' : M_set_busyNow y1 (upd (M_busyNow y1) i (M_busyNow y1 i)) = y2 := by rw [q2, q3]
          unfold X9_led_J196
          rw [chk_nI hi (by decide), nI_clamp (by omega), ltA_eq, q2', nI_1]
          exact k2
        · have ig : a_is a i = true := hTb i hi e
          have p2 := (gt_now hMy.1 hi (show a_is (ldI a r s i) i = true from ig)).2.1
          rw [ld_bs, if_neg (by omega)] at p2
          rw [if_neg (by decide), chk_nI hi (by decide), nI_clamp (by omega), p2]
          by_cases cb : a_bs a i = 0
          · have hl := (hI.2.2.2.2.2.2.1 i hi (Or.inl cb)).2
            obtain ⟨y1, y2, q1, q2, q3, q4, q5⟩ := rld_step hMy hi (v1 := nI r) (v2 := 2) (by rw [e]; rfl) (fun y' hy' => by rw [e]; rfl) (fun _ _ => ⟨cb, hl⟩)
            obtain ⟨w', k1, k2⟩ := ih (i + 1) y2 (by omega) (by omega) (q4.trans hy) q5 (fun j hj hbj => by
              by_cases cj : j = i
              · rw [cj]; exact cb
              · exact hb j (by omega) hbj)
            refine ⟨w', k1, ?_⟩
            rw [if_pos (show nI (a_bs a i) = 0 by rw [cb]; rfl)]
            unfold X9_led_J134 X9_led_J139
            rw [has_b hs hi, Option.bind_some, e, if_neg (by decide)]
            unfold X9_led_J168
            rw [chk_nI hi (by decide), nI_clamp (by omega), ltA_eq, ← q1, has_b hs hi, Option.bind_some, e, if_neg (by decide)]
            unfold X9_led_J196
            rw [chk_nI hi (by decide), nI_clamp (by omega), ltA_eq, ← q2, nI_1]
            exact k2
          · have hg : gdB a r k m s = false := by
              cases q : gdB a r k m s
              · rfl
              · exfalso
                unfold gdB at q
                simp only [Bool.and_eq_true, decide_eq_true_eq] at q
                exact cb (idl_bit hs q.1 hi e).2
            obtain ⟨y1, e1⟩ : ∃ x, x = M_set_at y (upd (M_at y) i (nI r)) := ⟨_, rfl⟩
            obtain ⟨y2, e2⟩ : ∃ x, x = M_set_busyNow y1 (upd (M_busyNow y1) i 2) := ⟨_, rfl⟩
            refine ⟨y2, ((set_busyNow e2).1.trans (set_at e1).1).trans hy, ?_⟩
            rw [if_neg (show ¬ nI (a_bs a i) = 0 from fun q => cb ((nI_eq (by omega) (b := 0) (by decide)).mp q)), hg]
            unfold X9_led_J139
            rw [has_b hs hi, Option.bind_some, e, if_neg (by decide)]
            unfold X9_led_J168
            rw [chk_nI hi (by decide), nI_clamp (by omega), ltA_eq, ← e1, has_b hs hi, Option.bind_some, e, if_neg (by decide)]
            unfold X9_led_J196
            rw [chk_nI hi (by decide), nI_clamp (by omega), ltA_eq, ← e2]
            exact ex y2 _
  obtain ⟨M, rfl⟩ : ∃ M, N = M := ⟨N, rfl⟩
  exact gen N 0 w (by omega) (by omega) hw h0 (fun j hj => absurd hj (Nat.not_lt_zero _))
end RL2
