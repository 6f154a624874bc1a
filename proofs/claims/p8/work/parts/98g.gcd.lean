/-! the greatest shared measure -/
theorem nL_toInt {a : Nat} (h : a < 2 ^ 63) : (nL a).toInt = (a : Int) := Int64.toInt_ofNat_of_lt h
theorem nL_div {a b : Nat} (ha : a < 2 ^ 63) (hb : b < 2 ^ 63) : nL a / nL b = nL (a / b) := by
  apply Int64.toInt_inj.mp
  have h : a / b < 2 ^ 63 := Nat.lt_of_le_of_lt (Nat.div_le_self _ _) ha
  rw [Int64.toInt_div, nL_toInt ha, nL_toInt hb, nL_toInt h, ← Int.ofNat_tdiv]
  obtain ⟨q, hq⟩ : ∃ q, q = a / b := ⟨_, rfl⟩
  rw [← hq] at h ⊢
  exact Int.bmod_eq_of_le (by omega) (by omega)
theorem nL_sub {a b : Nat} (h : b ≤ a) : nL a - nL b = nL (a - b) := by
  have : nL (a - b) + nL b = nL a := by rw [nL_add, Nat.sub_add_cancel h]
  rw [← this]
  apply Int64.toBitVec_inj.mp
  rw [Int64.toBitVec_sub, Int64.toBitVec_add]
  exact BitVec.add_sub_cancel _ _
theorem nL_mod {a b : Nat} (ha : a < 2 ^ 63) (hb : b < 2 ^ 63) : nL a - nL a / nL b * nL b = nL (a % b) := by
  rw [nL_div ha hb, nL_mul, nL_sub (Nat.div_mul_le_self a b)]
  congr 1
  have := Nat.div_add_mod a b
  rw [Nat.mul_comm] at this
  omega
theorem nL_0 {a : Nat} (h : a < 2 ^ 63) : nL a = 0 ↔ a = 0 := ⟨fun e => nL_inj h (by decide) e, fun e => by rw [e]; rfl⟩
theorem nL_c0 {a : Nat} (h : a < 2 ^ 63) : (lg_cmp (nL a) 0 = 0) ↔ a = 0 := (lcmp_0 _ _).trans (nL_0 h)
theorem eu_half {a b j : Nat} (h0 : 0 < b) (hle : b ≤ a) (h : a * b < 2 ^ (j + 1)) : b * (a % b) < 2 ^ j := by
  have h1 : a % b < b := Nat.mod_lt _ h0
  have h2 : 2 * (a % b) ≤ a := by
    have := Nat.div_add_mod a b
    have h3 : 1 ≤ a / b := Nat.div_pos hle h0
    have h4 : b * 1 ≤ b * (a / b) := Nat.mul_le_mul_left b h3
    omega
  have h5 : b * (2 * (a % b)) ≤ b * a := Nat.mul_le_mul_left b h2
  rw [Nat.pow_succ] at h
  have e1 : b * (2 * (a % b)) = 2 * (b * (a % b)) := by rw [← Nat.mul_assoc, Nat.mul_comm b 2, Nat.mul_assoc]
  rw [e1, Nat.mul_comm b a] at h5
  omega
theorem eu_0 {a b : Nat} (hle : b ≤ a) (h : a * b < 2 ^ 0) : b = 0 := by
  cases b with
  | zero => rfl
  | succ b =>
    have : 1 * 1 ≤ a * (b + 1) := Nat.mul_le_mul (by omega) (by omega)
    omega
/-- the class' shared measure: j + 1 steps are enough -/
theorem cgcd (sg : SS) : ∀ j n N a b : Nat, j < N → n + j < 1000 → a < 2 ^ 63 → b ≤ a → 0 < a → a * b < 2 ^ j → it X6_shared_B16 (fun _ _ _ _ => none) N sg (nL a) (nL b) (nI n) = some (nL (Nat.gcd a b))
  | j, n, 0, _, _, h, _, _, _, _, _ => absurd h (Nat.not_lt_zero _)
  | j, n, N + 1, a, b, hN, hn, ha, hle, h0, h => by
    obtain ⟨k, hk⟩ : ∃ k, k = it X6_shared_B16 (fun _ _ _ _ => none) N := ⟨_, rfl⟩
    show X6_shared_B16 (it X6_shared_B16 (fun _ _ _ _ => none) N) sg (nL a) (nL b) (nI n) = _
    rw [← hk]
    unfold X6_shared_B16 X6_shared_J50
    have hb : b < 2 ^ 63 := by omega
    rw [if_neg (show ¬ (1000 : Int32) ≤ nI n from nlit (b := 1000) (by decide) (by omega))]
    by_cases c : b = 0
    · rw [if_pos ((nL_c0 hb).mpr c), if_neg (fun q => by have := (nL_c0 ha).mp q; omega), c, Nat.gcd_zero_right]
    · rw [if_neg (fun q => c ((nL_c0 hb).mp q)), nzl_ok (fun q => c ((nL_0 hb).mp q)), nL_mod ha hb, nI_1]
      cases j with
      | zero => exact absurd (eu_0 hle h) c
      | succ j =>
        rw [hk, cgcd sg j (n + 1) N b (a % b) (by omega) (by omega) hb (Nat.le_of_lt (Nat.mod_lt _ (by omega))) (by omega) (eu_half (by omega) hle h)]
        rw [Nat.gcd_comm a b, Nat.gcd_rec b a, Nat.gcd_comm]
/-- the reference's -/
theorem rgcd (w : MS) (r p : Int32) (lw : Int64) {v : Option (Int64 × MS)} (g : Nat) (hv : (if p = 0 then (chk r 6 (nzl (nL g) (some (M_chances w r.toNatClampNeg / nL g, w)))) else (nzl (nL g) (some (lw / nL g, w)))) = v) : ∀ j N a b : Nat, j < N → a < 2 ^ 63 → b ≤ a → a * b < 2 ^ j → Nat.gcd a b = g → it X9_drunk_B353 (fun _ _ _ _ _ _ => none) N w r p lw (nL a) (nL b) = v
  | j, 0, _, _, h, _, _, _, _ => absurd h (Nat.not_lt_zero _)
  | j, N + 1, a, b, hN, ha, hle, h, hg => by
    obtain ⟨k, hk⟩ : ∃ k, k = it X9_drunk_B353 (fun _ _ _ _ _ _ => none) N := ⟨_, rfl⟩
    show X9_drunk_B353 (it X9_drunk_B353 (fun _ _ _ _ _ _ => none) N) w r p lw (nL a) (nL b) = _
    rw [← hk]
    unfold X9_drunk_B353
    have hb : b < 2 ^ 63 := by omega
    by_cases c : b = 0
    · rw [if_pos ((nL_c0 hb).mpr c)]
      rw [c, Nat.gcd_zero_right] at hg
      rw [hg]; exact hv
    · rw [if_neg (fun q => c ((nL_c0 hb).mp q)), nzl_ok (fun q => c ((nL_0 hb).mp q)), nL_mod ha hb]
      cases j with
      | zero => exact absurd (eu_0 hle h) c
      | succ j =>
        rw [hk]
        exact rgcd w r p lw g hv j N b (a % b) (by omega) hb (Nat.le_of_lt (Nat.mod_lt _ (by omega))) (eu_half (by omega) hle h) (by rw [← hg, Nat.gcd_comm a b, Nat.gcd_rec b a, Nat.gcd_comm])
/-- both end alike, and give what they must -/
theorem ends_alike {sg : SS} {w : MS} {r x y : Nat} (hr : r < 6) (hx : x ≤ y) (h0 : 0 < y) (hy : y < 2 ^ 63) (e1 : S_whole sg = nL y) (e2 : S_chance sg r = nL x) (e3 : M_chances w r = nL x) (p : Int32) : ∃ v, (if p = 0 then f_X6_upper sg (nI r) else f_X6_lower sg (nI r)) = some v ∧ it X9_drunk_B353 (fun _ _ _ _ _ _ => none) FU w (nI r) p (nL y) (nL x) (nL y) = some (v, w) := by
  obtain ⟨N, hN, hFU⟩ := FU_ex
  have hxy : y * x < 2 ^ 126 := Nat.lt_of_le_of_lt (Nat.mul_le_mul_left y hx) (Nat.lt_of_lt_of_le (Nat.mul_lt_mul_of_lt_of_le hy (Nat.le_of_lt hy) (by decide)) (by decide))
  have hs : f_X6_shared sg (nI r) = some (nL (Nat.gcd y x)) := by
    unfold f_X6_shared
    rw [chk_nI hr (by decide), nI_clamp (by omega), e1, e2, hFU]
    exact cgcd sg 126 0 N y x (by omega) (by decide) hy hx h0 hxy
  have hg0 : 0 < Nat.gcd y x := Nat.gcd_pos_of_pos_left _ h0
  have hgl : Nat.gcd y x < 2 ^ 63 := Nat.lt_of_le_of_lt (Nat.gcd_le_left _ h0) hy
  have hgn : ¬ nL (Nat.gcd y x) = 0 := fun q => by have := (nL_0 hgl).mp q; omega
  refine ⟨if p = 0 then nL x / nL (Nat.gcd y x) else nL y / nL (Nat.gcd y x), ?_, ?_⟩
  · unfold f_X6_upper f_X6_lower
    rw [hs, Option.bind_some, Option.bind_some, chk_nI hr (by decide), nzl_ok hgn, nzl_ok hgn, nI_clamp (by omega), e1, e2]
    split <;> rfl
  · rw [hFU]
    obtain ⟨N, rfl⟩ : ∃ M, N = M + 1 := ⟨N - 1, by omega⟩
    obtain ⟨k, hk⟩ : ∃ k, k = it X9_drunk_B353 (fun _ _ _ _ _ _ => none) N := ⟨_, rfl⟩
    show X9_drunk_B353 (it X9_drunk_B353 (fun _ _ _ _ _ _ => none) N) w (nI r) p (nL y) (nL x) (nL y) = _
    rw [← hk]
    unfold X9_drunk_B353
    rw [if_neg (fun q => by have := (nL_c0 hy).mp q; omega), nzl_ok (fun q => by have := (nL_0 hy).mp q; omega), nL_mod (by omega) hy]
    have hm : x % y ≤ y := Nat.le_of_lt (Nat.mod_lt _ h0)
    rw [hk]
    refine rgcd w (nI r) p (nL y) (Nat.gcd y x) ?_ 126 N y (x % y) (by omega) hy hm (Nat.lt_of_le_of_lt (Nat.mul_le_mul_left y (Nat.mod_le x y)) hxy) ?_
    · rw [chk_nI hr (by decide), nzl_ok hgn, nzl_ok hgn, nI_clamp (by omega), e3]
      split <;> rfl
    · rw [Nat.gcd_comm y (x % y), ← Nat.gcd_rec]
