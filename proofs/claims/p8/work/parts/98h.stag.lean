/-! one who is drunk: the chances as plain numbers -/
/-- doors of room q among the first n rooms -/
def dzA (b : AS) (q : Nat) : Nat → Nat
  | 0 => 0
  | n + 1 => dzA b q n + (if 0 < a_wd b q n then 1 else 0)
theorem dz_le (b : AS) (q : Nat) : ∀ n, dzA b q n ≤ n
  | 0 => Nat.le_refl _
  | n + 1 => by
    have := dz_le b q n
    show dzA b q n + (if 0 < a_wd b q n then 1 else 0) ≤ n + 1
    split <;> omega
theorem dz_no {b : AS} {q : Nat} : ∀ n, dzA b q n = 0 → ∀ r, r < n → ¬ 0 < a_wd b q r
  | 0, _, r, hr => absurd hr (Nat.not_lt_zero _)
  | n + 1, h, r, hr => by
    have h : dzA b q n + (if 0 < a_wd b q n then 1 else 0) = 0 := h
    by_cases c : 0 < a_wd b q n
    · rw [if_pos c] at h; omega
    · by_cases e : r = n
      · rw [e]; exact c
      · exact dz_no n (by omega) r (by omega)
/-- through one door -/
def thr (b : AS) (c q : Nat) : Nat := 60 * (10 - c) / dzA b q (a_R b)
/-- who stays -/
def sty (b : AS) (c q : Nat) : Nat := if dzA b q (a_R b) = 0 then 600 else 60 * c
/-- what room q gives to room r, of the first n rooms -/
def cbI (b : AS) (c : Nat) (ch : Nat → Nat) (q n r : Nat) : Nat := (if r = q then ch q * sty b c q else 0) + (if r < n ∧ 0 < a_wd b q r then ch q * thr b c q else 0)
def cbA (b : AS) (c : Nat) (ch : Nat → Nat) (q r : Nat) : Nat := cbI b c ch q (a_R b) r
def nxA (b : AS) (c : Nat) (ch : Nat → Nat) : Nat → Nat → Nat
  | 0 => fun _ => 0
  | q + 1 => fun r => nxA b c ch q r + cbA b c ch q r
def chA (b : AS) (g c : Nat) : Nat → Nat → Nat
  | 0 => fun r => if r = a_pl b g then 1 else 0
  | m + 1 => nxA b c (chA b g c m) (a_R b)
def smA (f : Nat → Nat) : Nat → Nat
  | 0 => 0
  | n + 1 => smA f n + f n
theorem sm_mem (f : Nat → Nat) : ∀ n r, r < n → f r ≤ smA f n
  | 0, r, h => absurd h (Nat.not_lt_zero _)
  | n + 1, r, h => by
    show f r ≤ smA f n + f n
    by_cases e : r = n
    · rw [e]; omega
    · have := sm_mem f n r (by omega); omega
theorem sm_add (f g : Nat → Nat) : ∀ n, smA (fun r => f r + g r) n = smA f n + smA g n
  | 0 => rfl
  | n + 1 => by
    show smA (fun r => f r + g r) n + (f n + g n) = (smA f n + f n) + (smA g n + g n)
    rw [sm_add f g n]; omega
theorem sm_zero : ∀ n, smA (fun _ => 0) n = 0
  | 0 => rfl
  | n + 1 => by show smA (fun _ => 0) n + 0 = 0; rw [sm_zero n]
theorem sm_mono (f : Nat → Nat) {k : Nat} : ∀ n, k ≤ n → smA f k ≤ smA f n
  | 0, h => by rw [show k = 0 by omega]; exact Nat.le_refl _
  | n + 1, h => by
    by_cases e : k = n + 1
    · rw [e]; exact Nat.le_refl _
    · have := sm_mono f (k := k) n (by omega)
      show smA f k ≤ smA f n + f n
      omega
theorem sm_one (q X : Nat) : ∀ n, smA (fun r => if r = q then X else 0) n ≤ X ∧ (n ≤ q → smA (fun r => if r = q then X else 0) n = 0)
  | 0 => ⟨Nat.zero_le _, fun _ => rfl⟩
  | n + 1 => by
    obtain ⟨h1, h2⟩ := sm_one q X n
    show smA (fun r => if r = q then X else 0) n + (if n = q then X else 0) ≤ X ∧ (n + 1 ≤ q → smA (fun r => if r = q then X else 0) n + (if n = q then X else 0) = 0)
    by_cases e : n = q
    · rw [if_pos e, h2 (by omega)]; exact ⟨by omega, fun _ => by omega⟩
    · rw [if_neg e]; exact ⟨by omega, fun h => by rw [h2 (by omega)]⟩
theorem dz_mono (b : AS) (q : Nat) {k : Nat} : ∀ n, k ≤ n → dzA b q k ≤ dzA b q n
  | 0, h => by rw [show k = 0 by omega]; exact Nat.le_refl _
  | n + 1, h => by
    by_cases e : k = n + 1
    · rw [e]; exact Nat.le_refl _
    · have := dz_mono b q (k := k) n (by omega)
      show dzA b q k ≤ dzA b q n + (if 0 < a_wd b q n then 1 else 0)
      omega
theorem sm_dz (b : AS) (q R Y : Nat) : ∀ n, smA (fun r => if r < R ∧ 0 < a_wd b q r then Y else 0) n ≤ dzA b q R * Y ∧ (n ≤ R → smA (fun r => if r < R ∧ 0 < a_wd b q r then Y else 0) n = dzA b q n * Y)
  | 0 => ⟨Nat.zero_le _, fun _ => (Nat.zero_mul Y).symm⟩
  | n + 1 => by
    obtain ⟨h1, h2⟩ := sm_dz b q R Y n
    have e : smA (fun r => if r < R ∧ 0 < a_wd b q r then Y else 0) (n + 1) = smA (fun r => if r < R ∧ 0 < a_wd b q r then Y else 0) n + (if n < R ∧ 0 < a_wd b q n then Y else 0) := rfl
    by_cases c : n < R
    · have e2 : smA (fun r => if r < R ∧ 0 < a_wd b q r then Y else 0) (n + 1) = dzA b q (n + 1) * Y := by
        rw [e, h2 (by omega)]
        show _ = (dzA b q n + (if 0 < a_wd b q n then 1 else 0)) * Y
        by_cases d : 0 < a_wd b q n
        · rw [if_pos ⟨c, d⟩, if_pos d, Nat.add_mul, Nat.one_mul]
        · rw [if_neg (fun h => d h.2), if_neg d, Nat.add_zero, Nat.add_zero]
      refine ⟨?_, fun _ => e2⟩
      rw [e2]
      refine Nat.mul_le_mul_right Y ?_
      exact dz_mono b q _ (by omega)
    · rw [e, if_neg (fun h => c h.1), Nat.add_zero]
      exact ⟨h1, fun h => by omega⟩
theorem cb_sum {b : AS} {c : Nat} (hc : c ≤ 10) (ch : Nat → Nat) (q : Nat) : smA (cbA b c ch q) 6 ≤ 600 * ch q := by
  have e : cbA b c ch q = fun r => (if r = q then ch q * sty b c q else 0) + (if r < a_R b ∧ 0 < a_wd b q r then ch q * thr b c q else 0) := rfl
  rw [e, sm_add (fun r => if r = q then ch q * sty b c q else 0) (fun r => if r < a_R b ∧ 0 < a_wd b q r then ch q * thr b c q else 0) 6]
  have h1 := (sm_one q (ch q * sty b c q) 6).1
  have h2 := (sm_dz b q (a_R b) (ch q * thr b c q) 6).1
  have h3 : dzA b q (a_R b) * (ch q * thr b c q) = ch q * (dzA b q (a_R b) * thr b c q) := by
    rw [← Nat.mul_assoc, Nat.mul_comm (dzA b q (a_R b)) (ch q), Nat.mul_assoc]
  have h4 : sty b c q + dzA b q (a_R b) * thr b c q ≤ 600 := by
    unfold sty thr
    by_cases d : dzA b q (a_R b) = 0
    · rw [if_pos d, d]; omega
    · rw [if_neg d]
      have := Nat.mul_div_le (60 * (10 - c)) (dzA b q (a_R b))
      omega
  have h5 : ch q * (sty b c q + dzA b q (a_R b) * thr b c q) ≤ ch q * 600 := Nat.mul_le_mul_left _ h4
  rw [Nat.mul_add] at h5
  omega
theorem nx_sum {b : AS} {c : Nat} (hc : c ≤ 10) (ch : Nat → Nat) : ∀ n, smA (nxA b c ch n) 6 ≤ 600 * smA ch n
  | 0 => by show smA (fun _ => 0) 6 ≤ _; rw [sm_zero]; exact Nat.zero_le _
  | q + 1 => by
    show smA (fun r => nxA b c ch q r + cbA b c ch q r) 6 ≤ 600 * (smA ch q + ch q)
    rw [sm_add]
    have h1 := nx_sum hc ch q (b := b)
    have h2 := cb_sum hc ch q (b := b)
    omega
theorem ch_sum {b : AS} (hI : Inv b) {g c : Nat} (hc : c ≤ 10) : ∀ m, smA (chA b g c m) 6 ≤ 600 ^ m
  | 0 => (sm_one (a_pl b g) 1 6).1
  | m + 1 => by
    have h1 := nx_sum hc (chA b g c m) (a_R b) (b := b)
    have h2 := sm_mono (chA b g c m) 6 hI.1.2.1
    have h3 := ch_sum hI hc m (g := g)
    show smA (nxA b c (chA b g c m) (a_R b)) 6 ≤ _
    rw [Nat.pow_succ]
    omega
theorem ch_le {b : AS} (hI : Inv b) {g c : Nat} (hc : c ≤ 10) (m : Nat) {r : Nat} (hr : r < 6) : chA b g c m r ≤ 600 ^ m := Nat.le_trans (sm_mem _ 6 r hr) (ch_sum hI hc m)
set_option maxRecDepth 100000 in
theorem dv_dec : ∀ d : Fin 7, ∀ c : Fin 11, d.val ≠ 0 → (60 / d.val) * (10 - c.val) = 60 * (10 - c.val) / d.val := by decide +kernel
/-! the class' walk -/
theorem cdoors {b : AS} {h : HS} (hI : Inv b) (hH : Hc h b) {q : Nat} (hq : q < 6) {c : Int32} {sg : SS} {v : Option SS} (hv : (if nI (dzA b q (a_R b)) = 0 then (chk (nI q) 6 (chk (nI q) 6 (chk (nI q) 6 (ltA (vp_updL (S_next sg) (nI q).toNatClampNeg (((S_next sg) (nI q).toNatClampNeg) + ((((S_chance sg) (nI q).toNatClampNeg) * (60 : Int64)) * (10 : Int64)))) fun f68 => (some ((S_set_next sg f68))))))) else (chk (nI q) 6 (chk (nI q) 6 (chk (nI q) 6 (ltA (vp_updL (S_next sg) (nI q).toNatClampNeg (((S_next sg) (nI q).toNatClampNeg) + ((((S_chance sg) (nI q).toNatClampNeg) * (60 : Int64)) * (c).toInt64))) fun f91 => (it X6_spread_B95 (fun _ _ _ _ _ _ => none) FU (S_set_next sg f91) h (nI q) c (nI (dzA b q (a_R b))) (0 : Int32))))))) = v) : f_X6_spread sg h (nI q) c = v := by
  obtain ⟨N, hN, hFU⟩ := FU_ex
  have hR := hI.1.2.1
  unfold f_X6_spread
  rw [hFU]
  rw [hFU] at hv
  refine it_rule (bot := fun _ _ _ _ _ _ => none) (a_R b) (fun i (_ : Unit) => True) (fun k i _ => k sg h (nI q) c (nI (dzA b q i)) (nI i) = v) ?_ ?_ N 0 () (by omega) (by omega) trivial
  · intro k _ _
    unfold X6_spread_B6
    rw [hH.1, if_pos (Int32.le_refl _), hFU]
    exact hv
  · intro k i _ hi _ hk
    have hk := hk () trivial
    have hk : k sg h (nI q) c (nI (dzA b q i + (if 0 < a_wd b q i then 1 else 0))) (nI (i + 1)) = v := hk
    have hw := (hI.2.2.1 q i hq (by omega)).1
    unfold X6_spread_B6 X6_spread_J32
    rw [hH.1, if_neg (nI_ge hi (by omega)), width_spec hH hq (by omega), Option.bind_some, nI_1]
    by_cases d : 0 < a_wd b q i
    · rw [if_pos d] at hk
      rw [if_neg (show ¬ nI (a_wd b q i) ≤ (0 : Int32) from nI_nle d (by omega)), nI_1]
      exact hk
    · rw [if_neg d] at hk
      rw [if_pos (show nI (a_wd b q i) ≤ (0 : Int32) from nI_le (b := 0) (by omega) (by decide)), show nI (dzA b q i) + 0 = nI (dzA b q i + 0) from nI_add _ 0]
      exact hk
