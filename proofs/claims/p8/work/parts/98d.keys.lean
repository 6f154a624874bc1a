/-! keys of what goes round: the class' -/
def nL (n : Nat) : Int64 := Int64.ofNat n
theorem nL_bv (a : Nat) : (nL a).toBitVec = BitVec.ofNat 64 a := rfl
theorem nL_or (a b : Nat) : nL a ||| nL b = nL (a ||| b) := by
  apply Int64.toBitVec_inj.mp
  rw [Int64.toBitVec_or, nL_bv, nL_bv, nL_bv]
  apply BitVec.eq_of_toNat_eq
  simp [BitVec.toNat_or, BitVec.toNat_ofNat, Nat.or_mod_two_pow]
theorem nL_inj {a b : Nat} (ha : a < 2 ^ 63) (hb : b < 2 ^ 63) (h : nL a = nL b) : a = b := by
  have := congrArg (fun x : Int64 => x.toBitVec.toNat) h
  simp only [nL_bv, BitVec.toNat_ofNat] at this
  omega
set_option maxRecDepth 100000 in
theorem p4_dec : ∀ p : Fin 8, (nI p.val <<< ((4 : Int32) &&& 31)).toInt64 = nL (16 * p.val) := by decide +kernel
set_option maxRecDepth 100000 in
theorem l_dec : ∀ n : Fin 16, (nI n.val).toInt64 = nL n.val := by decide +kernel
theorem sh7 (k : Nat) : nL k <<< (((7 : Int32)).toInt64 &&& 63) = nL (128 * k) := by
  rw [show (((7 : Int32)).toInt64 &&& 63) = (7 : Int64) from by decide]
  apply Int64.toBitVec_inj.mp
  rw [Int64.toBitVec_shiftLeft, nL_bv, nL_bv]
  apply BitVec.eq_of_toNat_eq
  rw [show (7 : Int64).toBitVec.smod 64 = 7#64 from by decide]
  simp [BitVec.toNat_ofNat, Nat.shiftLeft_eq]
  omega
theorem key_step {k p l : Nat} (hp : p < 8) (hl : l < 16) : ((nL k <<< (((7 : Int32)).toInt64 &&& 63)) ||| (nI p <<< ((4 : Int32) &&& 31)).toInt64) ||| (nI l).toInt64 = nL (128 * k + 16 * p + l) := by
  rw [sh7, p4_dec ⟨p, hp⟩, l_dec ⟨l, hl⟩, nL_or, nL_or]
  show nL ((128 * k ||| 16 * p) ||| l) = _
  rw [← Nat.two_pow_add_eq_or_of_lt (i := 7) (b := 16 * p) (by omega) k]
  rw [show 2 ^ 7 * k + 16 * p = 2 ^ 4 * (8 * k + p) by omega, ← Nat.two_pow_add_eq_or_of_lt (i := 4) (b := l) (by omega) (8 * k + p), show 2 ^ 4 * (8 * k + p) + l = 128 * k + 16 * p + l by omega]
def kyA (b : AS) : Nat → Nat
  | 0 => 0
  | i + 1 => 128 * kyA b i + 16 * a_pl b i + a_lf b i
theorem lf_lt {b : AS} (hI : Inv b) {g : Nat} (hg : g < 8) : a_lf b g ≤ 9 := by
  have h3 := bs_lt hI hg
  by_cases c : a_bs b g = 1
  · obtain ⟨j, -, -, -, -, -, -, -, -, h9⟩ := hI.2.2.2.2.2.2.2.1 g hg c; exact h9
  · rw [lf_0 hI hg c h3]; decide
theorem ckey_spec {h : HS} {b : AS} (hI : Inv b) (hH : Hc h b) : f_X1_key h = some (nL (kyA b 8)) := by
  obtain ⟨N, hN, hFU⟩ := FU_ex
  unfold f_X1_key
  rw [hFU]
  refine it_rule (bot := fun _ _ _ => none) 8 (fun i (x : Int64) => x = nL (kyA b i)) (fun k i x => k h x (nI i) = some (nL (kyA b 8))) ?_ ?_ N 0 0 (by omega) (by omega) rfl
  · intro k x hx
    unfold X1_key_B4
    rw [if_pos (by decide), hx]
  · intro k i x hi hx hk
    have hp := pl_lt hI hi
    have hl := lf_lt hI hi
    obtain ⟨p1, -, -, p4⟩ := hH.2.2.2.2.2.1 i hi
    unfold X1_key_B4
    rw [if_neg (show ¬ (8 : Int32) ≤ nI i from nlit (by decide) hi), chk_nI hi (by decide), chk_nI hi (by decide), nI_clamp (by omega), p1, p4, nI_1, hx, key_step (by omega) (by omega)]
    exact hk _ rfl
/-- equal keys: all are where they were, with as many minutes to talk -/
theorem ky_inj {b c : AS} (hb : Inv b) (hc : Inv c) : ∀ i, i ≤ 8 → kyA b i = kyA c i → ∀ g, g < i → a_pl b g = a_pl c g ∧ a_lf b g = a_lf c g
  | 0, _, _, g, hg => absurd hg (Nat.not_lt_zero _)
  | i + 1, hi, h, g, hg => by
    have p1 := pl_lt hb (show i < 8 by omega)
    have p2 := pl_lt hc (show i < 8 by omega)
    have l1 := lf_lt hb (show i < 8 by omega)
    have l2 := lf_lt hc (show i < 8 by omega)
    have h : 128 * kyA b i + 16 * a_pl b i + a_lf b i = 128 * kyA c i + 16 * a_pl c i + a_lf c i := h
    have e1 : kyA b i = kyA c i := by omega
    by_cases q : g = i
    · subst q; omega
    · exact ky_inj hb hc i (by omega) e1 g (by omega)
theorem ky_lt {b : AS} (hI : Inv b) : ∀ i, i ≤ 8 → kyA b i < 128 ^ i
  | 0, _ => Nat.zero_lt_one
  | i + 1, h => by
    have p1 := pl_lt hI (show i < 8 by omega)
    have l1 := lf_lt hI (show i < 8 by omega)
    have := ky_lt hI i (by omega)
    show 128 * kyA b i + 16 * a_pl b i + a_lf b i < 128 ^ (i + 1)
    rw [Nat.pow_succ]
    omega
