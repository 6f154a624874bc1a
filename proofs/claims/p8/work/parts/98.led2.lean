/-- the best of the sets below n: fewest, then first -/
def rfA (a : AS) (r k m : Nat) : Nat → Option Nat
  | 0 => none
  | n + 1 => if gdB a r k m n = true ∧ (∀ t, rfA a r k m n = some t → pc n < pc t) then some n else rfA a r k m n
theorem rfA_y {a : AS} {r k m n : Nat} (h1 : gdB a r k m n = true) (h2 : ∀ t, rfA a r k m n = some t → pc n < pc t) : rfA a r k m (n + 1) = some n := if_pos ⟨h1, h2⟩
theorem rfA_n {a : AS} {r k m n : Nat} (h : ¬ (gdB a r k m n = true ∧ ∀ t, rfA a r k m n = some t → pc n < pc t)) : rfA a r k m (n + 1) = rfA a r k m n := if_neg h
theorem rf_none {a : AS} {r k m : Nat} : ∀ n, rfA a r k m n = none → ∀ t, t < n → gdB a r k m t = false
  | 0, _, t, ht => absurd ht (Nat.not_lt_zero _)
  | n + 1, h, t, ht => by
    by_cases c : gdB a r k m n = true ∧ ∀ t, rfA a r k m n = some t → pc n < pc t
    · rw [rfA_y c.1 c.2] at h; cases h
    · rw [rfA_n c] at h
      by_cases q : t = n
      · subst q
        cases e : gdB a r k m t
        · rfl
        · exact absurd ⟨e, fun u hu => by rw [h] at hu; cases hu⟩ c
      · exact rf_none n h t (by omega)
theorem rf_some {a : AS} {r k m : Nat} : ∀ n s, rfA a r k m n = some s → s < n ∧ gdB a r k m s = true ∧ (∀ t, t < n → gdB a r k m t = true → pc s ≤ pc t) ∧ ∀ t, t < s → gdB a r k m t = true → pc s < pc t
  | 0, s, h => by cases h
  | n + 1, s, h => by
    by_cases c : gdB a r k m n = true ∧ ∀ t, rfA a r k m n = some t → pc n < pc t
    · rw [rfA_y c.1 c.2] at h
      have e : n = s := Option.some.inj h
      subst e
      have key : ∀ t, t < n → gdB a r k m t = true → pc n < pc t := by
        intro t ht hg
        cases e : rfA a r k m n with
        | none => exact absurd hg (by rw [rf_none n e t ht]; decide)
        | some u =>
          have := (rf_some n u e).2.2.1 t ht hg
          have := c.2 u e
          omega
      refine ⟨Nat.lt_succ_self _, c.1, fun t ht hg => ?_, key⟩
      by_cases q : t = n
      · rw [q]; exact Nat.le_refl _
      · exact Nat.le_of_lt (key t (by omega) hg)
    · rw [rfA_n c] at h
      obtain ⟨h1, h2, h3, h4⟩ := rf_some n s h
      refine ⟨by omega, h2, fun t ht hg => ?_, h4⟩
      by_cases q : t = n
      · subst q
        rcases Nat.lt_or_ge (pc t) (pc s) with w | w
        · exact absurd ⟨hg, fun u hu => by rw [h] at hu; cases hu; exact w⟩ c
        · exact w
      · exact h3 t (by omega) hg
/-- what is told of the best set -/
def ledV (x : Int32) : Option Nat → Int32
  | none => -6
  | some s => if x = 1 then nI s else nI (pc s)
theorem gd_le {a : AS} {r k m t : Nat} (h : gdB a r k m t = true) : t ≤ idl a ∧ pc t ≤ pc (idl a) := by
  unfold gdB at h
  simp only [Bool.and_eq_true, decide_eq_true_eq] at h
  have e := h.1
  refine ⟨by rw [← e]; exact Nat.and_le_right, cnt_mono 8 (fun j _ hj => ?_)⟩
  have := Nat.testBit_and t (idl a) j
  rw [e, hj] at this
  simpa using this.symm
theorem idl_lt (a : AS) : idl a < 256 := msk_lt _ 8
theorem pc_le (s : Nat) : pc s ≤ 8 := cnt_le _ 8
section CL
variable {h : HS} {a : AS} {r k m : Nat}
theorem cled_in (hI : Inv a) (hH : Hc h a) (hr : r < a_R a) (hk : k < 1000) (hm : m < 1000) {x4 : Int32} (hx4 : x4 = 0 ∨ x4 = 1) {k60 : HS → DS → Int32 → Int32 → Int32 → Int32 → Int32 → Int32 → Option (Int32 × DS)} {few : Nat} (hf8 : few ≤ 8) (d : DS) (hno : ∀ t, gdB a r k m t = true → t < 256 → few ≤ pc t) : (∃ d', it (X8_led_B73 k60) (fun _ _ _ _ _ _ _ _ _ => none) FU h d (nI r) (nI k) (nI m) x4 (nI (idl a)) (nI few) 0 = some (ledV x4 (rfA a r k m 256), d')) ∨ ((∀ t, gdB a r k m t = true → t < 256 → few + 1 ≤ pc t) ∧ ∃ d', it (X8_led_B73 k60) (fun _ _ _ _ _ _ _ _ _ => none) FU h d (nI r) (nI k) (nI m) x4 (nI (idl a)) (nI few) 0 = k60 h d' (nI r) (nI k) (nI m) x4 (nI (idl a)) (nI (few + 1))) := by
  obtain ⟨N, hN, hFU⟩ := FU_ex
  have hidl := idl_lt a
  rw [hFU]
  refine it_rule (bot := fun _ _ _ _ _ _ _ _ _ => none) (idl a + 1) (fun i (_ : DS) => ∀ t, t < i → gdB a r k m t = true → pc t ≠ few) (fun kk i d => (∃ d', kk h d (nI r) (nI k) (nI m) x4 (nI (idl a)) (nI few) (nI i) = some (ledV x4 (rfA a r k m 256), d')) ∨ ((∀ t, gdB a r k m t = true → t < 256 → few + 1 ≤ pc t) ∧ ∃ d', kk h d (nI r) (nI k) (nI m) x4 (nI (idl a)) (nI few) (nI i) = k60 h d' (nI r) (nI k) (nI m) x4 (nI (idl a)) (nI (few + 1)))) ?_ ?_ N 0 d (by omega) (by omega) (fun t ht => absurd ht (Nat.not_lt_zero _))
  · intro kk d hn
    refine Or.inr ⟨fun t hg ht => ?_, d, ?_⟩
    · have h1 := hno t hg ht
      have h2 := hn t (Nat.lt_succ_of_le (gd_le hg).1) hg
      omega
    · unfold X8_led_B73
      rw [if_pos (nI_lt (Nat.lt_succ_self _) (by omega)), nI_1]
  · intro kk i d hi hn hk2
    have hi2 : i < 256 := by omega
    have hpi : f_J6_bitCount_0f7a4 (nI i) = some (nI (pc i)) := pop_dec ⟨i, hi2⟩
    have p8 := pc_le i
    have skip : (gdB a r k m i = true → pc i ≠ few) → ∀ d, (∃ d', kk h d (nI r) (nI k) (nI m) x4 (nI (idl a)) (nI few) (nI (i + 1)) = some (ledV x4 (rfA a r k m 256), d')) ∨ ((∀ t, gdB a r k m t = true → t < 256 → few + 1 ≤ pc t) ∧ ∃ d', kk h d (nI r) (nI k) (nI m) x4 (nI (idl a)) (nI few) (nI (i + 1)) = k60 h d' (nI r) (nI k) (nI m) x4 (nI (idl a)) (nI (few + 1))) := fun hs d => hk2 d (fun t ht hg => by
      by_cases q : t = i
      · subst q; exact hs hg
      · exact hn t (by omega) hg)
    unfold X8_led_B73 X8_led_J125
    rw [if_neg (nI_nlt (by omega) (by omega)), hpi, Option.bind_some, nI_1]
    by_cases c1 : pc i = few
    · rw [if_pos (by rw [c1])]
      by_cases c2 : i &&& idl a = i
      · obtain ⟨d1, e1⟩ := leads_spec hI hH d hr hk hm hi2 c2
        rw [if_pos ((sub_1 hi2).mpr c2), e1, Option.bind_some]
        cases cg : gdB a r k m i
        · exact skip (fun q => by rw [cg] at q; cases q) d1
        · refine Or.inl ⟨d1, ?_⟩
          have eL : rfA a r k m 256 = some i := by
            cases e : rfA a r k m 256 with
            | none => exact absurd cg (by rw [rf_none 256 e i hi2]; decide)
            | some s =>
              obtain ⟨s1, s2, s3, s4⟩ := rf_some 256 s e
              have q1 := s3 i hi2 cg
              have q2 := hno s s2 s1
              rcases Nat.lt_trichotomy s i with w | w | w
              · exact absurd (show pc s = few by omega) (hn s w s2)
              · rw [w]
              · have := s4 i w cg; omega
          rw [eL]
          show (if (1 : Int32) = 0 then _ else if x4 = 0 then some (nI few, d1) else some (nI i, d1)) = some (if x4 = 1 then nI i else nI (pc i), d1)
          rw [if_neg (by decide)]
          rcases hx4 with q | q
          · rw [if_pos q, if_neg (by rw [q]; decide), c1]
          · rw [if_neg (by rw [q]; decide), if_pos q]
      · rw [if_neg (fun q => c2 ((sub_1 hi2).mp q))]
        exact skip (fun q => by unfold gdB at q; simp [c2] at q) d
    · rw [if_neg (fun q => c1 ((nI_eq (by omega) (by omega)).mp q))]
      exact skip (fun _ => c1) d
theorem cled_spec (hI : Inv a) (hH : Hc h a) (hr : r < a_R a) (hk : k < 1000) (hm : m < 1000) {x4 : Int32} (hx4 : x4 = 0 ∨ x4 = 1) (d : DS) : ∃ d', it X8_led_B60 (fun _ _ _ _ _ _ _ _ => none) FU h d (nI r) (nI k) (nI m) x4 (nI (idl a)) 0 = some (ledV x4 (rfA a r k m 256), d') := by
  obtain ⟨N, hN, hFU⟩ := FU_ex
  have hidl := idl_lt a
  have hpi : f_J6_bitCount_0f7a4 (nI (idl a)) = some (nI (pc (idl a))) := pop_dec ⟨_, hidl⟩
  have p8 := pc_le (idl a)
  rw [hFU]
  refine it_rule (bot := fun _ _ _ _ _ _ _ _ => none) (pc (idl a) + 1) (fun i (_ : DS) => ∀ t, gdB a r k m t = true → t < 256 → i ≤ pc t) (fun kk i d => ∃ d', kk h d (nI r) (nI k) (nI m) x4 (nI (idl a)) (nI i) = some (ledV x4 (rfA a r k m 256), d')) ?_ ?_ N 0 d (by omega) (by omega) (fun _ _ _ => Nat.zero_le _)
  · intro kk d hn
    refine ⟨d, ?_⟩
    unfold X8_led_B60
    rw [hpi, Option.bind_some, if_pos (nI_lt (Nat.lt_succ_self _) (by omega))]
    have eL : rfA a r k m 256 = none := by
      cases e : rfA a r k m 256 with
      | none => rfl
      | some s =>
        obtain ⟨s1, s2, -⟩ := rf_some 256 s e
        have q1 := hn s s2 s1
        have q2 := (gd_le s2).2
        omega
    rw [eL]; rfl
  · intro kk i d hi hn hk2
    unfold X8_led_B60
    rw [hpi, Option.bind_some, if_neg (nI_nlt (by omega) (by omega))]
    rcases cled_in hI hH hr hk hm hx4 (k60 := kk) (few := i) (by omega) d hn with ⟨d', e⟩ | ⟨h1, d', e⟩
    · exact ⟨d', e⟩
    · obtain ⟨d2, e2⟩ := hk2 d' h1
      exact ⟨d2, e.trans e2⟩
end CL
