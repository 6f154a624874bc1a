/-! 97.led -/
section
/-! led -/
theorem nI_bv (a : Nat) : (nI a).toBitVec = BitVec.ofNat 32 a := rfl
theorem nI_or (a b : Nat) : nI a ||| nI b = nI (a ||| b) := by
  apply Int32.toBitVec_inj.mp
  rw [Int32.toBitVec_or, nI_bv, nI_bv, nI_bv]
  apply BitVec.eq_of_toNat_eq
  simp [BitVec.toNat_or, BitVec.toNat_ofNat, Nat.or_mod_two_pow]
theorem nI_and (a b : Nat) : nI a &&& nI b = nI (a &&& b) := by
  apply Int32.toBitVec_inj.mp
  rw [Int32.toBitVec_and, nI_bv, nI_bv, nI_bv]
  apply BitVec.eq_of_toNat_eq
  simp [BitVec.toNat_and, BitVec.toNat_ofNat, Nat.and_mod_two_pow]
theorem nI_xor (a b : Nat) : nI a ^^^ nI b = nI (a ^^^ b) := by
  apply Int32.toBitVec_inj.mp
  rw [Int32.toBitVec_xor, nI_bv, nI_bv, nI_bv]
  apply BitVec.eq_of_toNat_eq
  simp [BitVec.toNat_xor, BitVec.toNat_ofNat, Nat.xor_mod_two_pow]
theorem sub_1 {s T : Nat} (hs : s < 256) : (nI s &&& (nI T ^^^ (-1 : Int32)) = 0 ↔ s &&& T = s) := by
  rw [show (-1 : Int32) = nI 4294967295 from by decide, nI_xor, nI_and]
  have e8 : ∀ j, j < 8 → Nat.testBit 4294967295 j = true := by decide
  have lt : s &&& (T ^^^ 4294967295) < 2 ^ 31 := Nat.lt_of_le_of_lt Nat.and_le_left (by omega)
  have h0 : (nI (s &&& (T ^^^ 4294967295)) = 0) ↔ s &&& (T ^^^ 4294967295) = 0 := nI_eq lt (b := 0) (by decide)
  rw [h0]
  have big : ∀ j, 8 ≤ j → s.testBit j = false := fun j q => Nat.testBit_lt_two_pow (Nat.lt_of_lt_of_le hs (show 2 ^ 8 ≤ 2 ^ j from Nat.pow_le_pow_right (by decide) q))
  constructor
  · intro h
    apply Nat.eq_of_testBit_eq
    intro j
    rw [Nat.testBit_and]
    rcases Nat.lt_or_ge j 8 with q | q
    · have := congrArg (fun x => Nat.testBit x j) h
      simp only [Nat.testBit_and, Nat.testBit_xor, e8 j q, Nat.zero_testBit] at this
      cases e : s.testBit j <;> cases e2 : T.testBit j <;> simp [e, e2] at this ⊢
    · rw [big j q]; rfl
  · intro h
    apply Nat.eq_of_testBit_eq
    intro j
    rw [Nat.testBit_and, Nat.testBit_xor, Nat.zero_testBit]
    rcases Nat.lt_or_ge j 8 with q | q
    · have := congrArg (fun x => Nat.testBit x j) h
      simp only [Nat.testBit_and] at this
      rw [e8 j q]
      cases e : s.testBit j <;> cases e2 : T.testBit j <;> simp [e, e2] at this ⊢
    · rw [big j q]; rfl
theorem or2 {s T : Nat} (hs : s < 256) (hT : T < 256) : nI s ||| nI T = nI (s ||| T) ∧ s ||| T < 256 := ⟨nI_or s T, Nat.or_lt_two_pow (n := 8) hs hT⟩
theorem Hc_setPl {h : HS} {a : AS} (hH : Hc h a) (i r : Nat) : Hc (H_set_place h (upd (H_place h) i (nI r))) (setPl a i r) := by
  obtain ⟨b1, b2, b3, b4, b5, b6, b7, b8⟩ := hH
  refine ⟨b1, b2, b3, b4, b5, fun j hj => ?_, b7, b8⟩
  simp only [sp_pl, sp_bs, sp_mt, sp_lf]
  refine ⟨?_, (b6 j hj).2⟩
  show upd (H_place h) i (nI r) j = _
  by_cases q : j = i
  · rw [if_pos q, q, pk_us]
  · rw [if_neg q, pk_un q]; exact (b6 j hj).1
theorem sub_bit {s T : Nat} (hs : s < 256) : s &&& T = s ↔ ∀ j, j < 8 → s.testBit j = true → T.testBit j = true := by
  constructor
  · intro h j _ hj
    have := Nat.testBit_and s T j
    rw [h, hj] at this
    simpa using this.symm
  · intro h
    apply Nat.eq_of_testBit_eq
    intro j
    rw [Nat.testBit_and]
    rcases Nat.lt_or_ge j 8 with q | q
    · cases e : s.testBit j
      · rfl
      · rw [h j q e]; rfl
    · rw [Nat.testBit_lt_two_pow (Nat.lt_of_lt_of_le hs (show 2 ^ 8 ≤ 2 ^ j from Nat.pow_le_pow_right (by decide) q))]; rfl
/-- who is idle, as bits -/
def idl (a : AS) : Nat := msk (fun g => a_is a g && a_bs a g == 0) 8
def pc (s : Nat) : Nat := cnt (fun j => s.testBit j) 8
theorem idle_spec {h : HS} {a : AS} (hI : Inv a) (hH : Hc h a) : f_X1_idle h = some (nI (idl a)) := by
  obtain ⟨N, hN, hFU⟩ := FU_ex
  unfold f_X1_idle idl
  rw [hFU]
  refine it_rule (bot := fun _ _ _ => none) 8 (fun i (x : Int32) => x = nI (msk (fun g => a_is a g && a_bs a g == 0) i)) (fun k i x => k h x (nI i) = some (nI (msk (fun g => a_is a g && a_bs a g == 0) 8))) ?_ ?_ N 0 0 (by omega) (by omega) rfl
  · intro k x hx
    unfold X1_idle_B4
    rw [if_pos (by decide), hx]
  · intro k i x hi hx hk
    have hb := bs_lt hI hi
    unfold X1_idle_B4 X1_idle_J33
    rw [if_neg (show ¬ (8 : Int32) ≤ nI i from nlit (by decide) hi), th_at hI hH hi, Option.bind_some, chk_nI hi (by decide), nI_clamp (by omega), (hH.2.2.2.2.2.1 i hi).2.1, nI_1]
    cases e : a_is a i
    · rw [if_pos (by decide)]
      refine hk x ?_
      rw [hx]
      conv => rhs; unfold msk
      rw [e]; rfl
    · rw [if_neg (by decide)]
      by_cases c : a_bs a i = 0
      · rw [if_pos (show nI (a_bs a i) = 0 by rw [c]; rfl)]
        refine hk _ ?_
        rw [hx, or_bit hi (msk_lt _ i)]
        conv => rhs; unfold msk
        rw [e, c]; simp
      · rw [if_neg (show ¬ nI (a_bs a i) = 0 from fun q => c ((nI_eq (by omega) (b := 0) (by decide)).mp q))]
        refine hk x ?_
        rw [hx]
        conv => rhs; unfold msk
        rw [e]; simp [c]
/-- those of s, of the first n, are led to r -/
def ldI (a : AS) (r s n : Nat) : AS := (a_R a, a_T a, a_k a, a_th a, a_sz a, a_ch a, a_wd a, a_lk a, (fun j => if j < n ∧ s.testBit j = true then r else a_pl a j), (fun j => if j < n ∧ s.testBit j = true then 2 else a_bs a j), (fun j => if j < n ∧ s.testBit j = true then -6 else a_mt a j), (fun j => if j < n ∧ s.testBit j = true then 0 else a_lf a j), a_sg a, a_sr a)
theorem ld_R (a : AS) (r s n : Nat) : a_R (ldI a r s n) = a_R a := rfl
theorem ld_T (a : AS) (r s n : Nat) : a_T (ldI a r s n) = a_T a := rfl
theorem ld_k (a : AS) (r s n : Nat) : a_k (ldI a r s n) = a_k a := rfl
theorem ld_th (a : AS) (r s n : Nat) : a_th (ldI a r s n) = a_th a := rfl
theorem ld_sz (a : AS) (r s n : Nat) : a_sz (ldI a r s n) = a_sz a := rfl
theorem ld_ch (a : AS) (r s n : Nat) : a_ch (ldI a r s n) = a_ch a := rfl
theorem ld_wd (a : AS) (r s n : Nat) : a_wd (ldI a r s n) = a_wd a := rfl
theorem ld_lk (a : AS) (r s n : Nat) : a_lk (ldI a r s n) = a_lk a := rfl
theorem ld_sg (a : AS) (r s n : Nat) : a_sg (ldI a r s n) = a_sg a := rfl
theorem ld_sr (a : AS) (r s n : Nat) : a_sr (ldI a r s n) = a_sr a := rfl
theorem ld_is (a : AS) (r s n j : Nat) : a_is (ldI a r s n) j = a_is a j := rfl
theorem ld_pl (a : AS) (r s n j : Nat) : a_pl (ldI a r s n) j = if j < n ∧ s.testBit j = true then r else a_pl a j := rfl
theorem ld_bs (a : AS) (r s n j : Nat) : a_bs (ldI a r s n) j = if j < n ∧ s.testBit j = true then 2 else a_bs a j := rfl
theorem ld_mt (a : AS) (r s n j : Nat) : a_mt (ldI a r s n) j = if j < n ∧ s.testBit j = true then -6 else a_mt a j := rfl
theorem ld_lf (a : AS) (r s n j : Nat) : a_lf (ldI a r s n) j = if j < n ∧ s.testBit j = true then 0 else a_lf a j := rfl
theorem ld_in (a : AS) (r s n q : Nat) : a_in (ldI a r s n) q = cnt (fun j => a_is a j && (if j < n ∧ s.testBit j = true then r else a_pl a j) == q) 8 := rfl
theorem idl_bit {a : AS} {s : Nat} (hs : s < 256) (h : s &&& idl a = s) {j : Nat} (hj : j < 8) (hb : s.testBit j = true) : a_is a j = true ∧ a_bs a j = 0 := by
  have := (sub_bit hs).mp h j hj hb
  unfold idl at this
  rw [msk_bit _ 8 j hj] at this
  simpa using this
theorem Inv_ld {a : AS} (hI : Inv a) {r s : Nat} (hr : r < a_R a) (hs : s < 256) (h : s &&& idl a = s) (hc : a_in (ldI a r s 8) r ≤ a_sz a r) : Inv (ldI a r s 8) := by
  obtain ⟨i1, i2, i3, i4, i5, i6, i7, i8, i9, i10, i11⟩ := id hI
  unfold Inv
  simp only [ld_R, ld_T, ld_k, ld_th, ld_sz, ld_ch, ld_wd, ld_lk, ld_sg, ld_sr, ld_is, ld_pl, ld_bs, ld_mt, ld_lf]
  refine ⟨i1, i2, i3, i4, ?_, ?_, ?_, ?_, ?_, ?_, i11⟩
  · intro j hj e
    have c : ¬ (j < 8 ∧ s.testBit j = true) := fun q => by rw [(idl_bit hs h hj q.2).1] at e; cases e
    rw [if_neg c, if_neg c]; exact i5 j hj e
  · intro j hj e
    by_cases c : j < 8 ∧ s.testBit j = true
    · rw [if_pos c, if_pos c]; exact ⟨hr, by decide, (i6 j hj e).2.2⟩
    · rw [if_neg c, if_neg c]; exact i6 j hj e
  · intro j hj e
    by_cases c : j < 8 ∧ s.testBit j = true
    · rw [if_pos c, if_pos c]; exact ⟨rfl, rfl⟩
    · rw [if_neg c] at e; rw [if_neg c, if_neg c]; exact i7 j hj e
  · intro j hj e
    have c : ¬ (j < 8 ∧ s.testBit j = true) := fun q => by rw [if_pos q] at e; cases e
    rw [if_neg c] at e; rw [if_neg c, if_neg c]
    obtain ⟨i, k1, k2, k3, k4, k5, k6, k7⟩ := i8 j hj e
    have n1 : ¬ (i < 8 ∧ s.testBit i = true) := fun q => by have := (idl_bit hs h k1 q.2).2; omega
    refine ⟨i, k1, k2, k3, k4, ?_, ?_, ?_⟩
    · rw [if_neg n1]; exact k5
    · rw [if_neg n1]; exact k6
    · rw [if_neg n1]; exact k7
  · intro j hj e
    have c : ¬ (j < 8 ∧ s.testBit j = true) := fun q => by rw [if_pos q] at e; cases e
    rw [if_neg c] at e; rw [if_neg c, if_neg c, if_neg c]; exact i9 j hj e
  · intro q hq
    by_cases c : q = r
    · rw [c]; exact hc
    · rw [ld_in]
      refine Nat.le_trans (cnt_mono (q := fun j => a_is a j && a_pl a j == q) 8 (fun j hj hh => ?_)) (i10 q hq)
      simp only [Bool.and_eq_true, beq_iff_eq] at hh ⊢
      refine ⟨hh.1, ?_⟩
      by_cases cj : j < 8 ∧ s.testBit j = true
      · rw [if_pos cj] at hh; exact absurd hh.2 (fun h => c h.symm)
      · rw [if_neg cj] at hh; exact hh.2
/-- so it can be, and so many then are there -/
def gdB (a : AS) (r k m s : Nat) : Bool := decide (s &&& idl a = s) && (decide (a_in (ldI a r s 8) r ≤ a_sz a r) && decide (k ≤ a_in (minN lo0 (ldI a r s 8) m) r))
theorem tog_spec {a : AS} {r s : Nat} (hs : s < 256) (h : s &&& idl a = s) : cnt (fun j => (msk (fun g => a_is a g && a_pl a g == r) 8 ||| s).testBit j) 8 = a_in (ldI a r s 8) r := by
  rw [ld_in]
  refine cnt_congr (fun j hj => ?_)
  rw [Nat.testBit_or, msk_bit _ 8 j hj]
  cases e : s.testBit j
  · simp
  · have := (idl_bit hs h hj e).1
    simp [hj, this]
theorem isIn_at {s j : Nat} (hs : s < 256) (hj : j < 8) : f_X8_isIn (nI s) (nI j) = some (if s.testBit j then 1 else 0) := by
  unfold f_X8_isIn
  rw [if_neg (nI_pos (by omega)), if_neg (show ¬ (8 : Int32) ≤ nI j from nlit (by decide) hj)]
  cases e : s.testBit j
  · rw [if_neg (fun q => by rw [(bit_1 hs hj).mp q] at e; cases e)]; rfl
  · rw [if_pos ((bit_1 hs hj).mpr e)]; rfl
theorem Hc_ld {h : HS} {a : AS} {r s i : Nat} (hH : Hc h (ldI a r s i)) (hb : s.testBit i = true) {h' : HS} (e : h' = hEng (H_set_place h (upd (H_place h) i (nI r))) i 2 (-6) 0) : Hc h' (ldI a r s (i + 1)) := by
  have h1 := Hc_setPl hH i r
  have h2 : Hc h' (eng (setPl (ldI a r s i) i r) i 2 (-6) 0) := by rw [e]; exact Hc_eng' h1 rfl neg6 rfl
  unfold Hc at h2 ⊢
  simp only [eng_R, eng_T, eng_k, eng_th, eng_sz, eng_ch, eng_wd, eng_lk, eng_pl, eng_sg, eng_sr, eng_bs, eng_mt, eng_lf, sp_R, sp_T, sp_k, sp_th, sp_sz, sp_ch, sp_wd, sp_lk, sp_bs, sp_mt, sp_lf, sp_sg, sp_sr, sp_pl, ld_R, ld_T, ld_k, ld_th, ld_sz, ld_ch, ld_wd, ld_lk, ld_sg, ld_sr, ld_is, ld_pl, ld_bs, ld_mt, ld_lf] at h2 ⊢
  obtain ⟨b1, b2, b3, b4, b5, b6, b7, b8⟩ := h2
  refine ⟨b1, b2, b3, b4, b5, fun j hj => ?_, b7, b8⟩
  have q := b6 j hj
  by_cases c : j = i
  · subst c
    simp only [if_true, Nat.lt_succ_self, hb, and_self] at q ⊢; exact q
  · have e1 : (j < i + 1) ↔ j < i := by omega
    simp only [c, if_false] at q
    simp only [e1]; exact q
theorem ld_0 {h : HS} {a : AS} {r s : Nat} (hH : Hc h a) : Hc h (ldI a r s 0) := by
  unfold Hc at hH ⊢
  simp only [ld_R, ld_T, ld_k, ld_th, ld_sz, ld_ch, ld_wd, ld_lk, ld_sg, ld_sr, ld_is, ld_pl, ld_bs, ld_mt, ld_lf, Nat.not_lt_zero, false_and, if_false]
  exact hH
theorem Hc_ldn {h : HS} {a : AS} {r s i : Nat} (hH : Hc h (ldI a r s i)) (hb : s.testBit i = false) : Hc h (ldI a r s (i + 1)) := by
  unfold Hc at hH ⊢
  simp only [ld_R, ld_T, ld_k, ld_th, ld_sz, ld_ch, ld_wd, ld_lk, ld_sg, ld_sr, ld_is, ld_pl, ld_bs, ld_mt, ld_lf] at hH ⊢
  obtain ⟨b1, b2, b3, b4, b5, b6, b7, b8⟩ := hH
  refine ⟨b1, b2, b3, b4, b5, fun j hj => ?_, b7, b8⟩
  have q := b6 j hj
  by_cases c : j = i
  · subst c
    simp only [hb, Bool.false_eq_true, and_false, if_false] at q ⊢; exact q
  · have e1 : (j < i + 1) ↔ j < i := by omega
    simp only [e1]; exact q
theorem leads_spec {h : HS} {a : AS} (hI : Inv a) (hH : Hc h a) (d : DS) {r k m s : Nat} (hr : r < a_R a) (hk : k < 1000) (hm : m < 1000) (hs : s < 256) (hsub : s &&& idl a = s) : ∃ d', f_X8_leadsTo h d (nI s) (nI r) (nI k) (nI m) = some (if gdB a r k m s then 1 else 0, d') := by
  obtain ⟨N, hN, hFU⟩ := FU_ex
  have hR6 := hI.1.2.1
  have hm1 := msk_lt (fun g => a_is a g && a_pl a g == r) 8
  have o2 := or2 hm1 hs
  have hsz : f_X1_sizeOf h (nI r) = some (nI (a_sz a r)) := by
    unfold f_X1_sizeOf
    rw [show (4 : Int32) = nI 4 from rfl, ix6, chk_nI (by omega) (by decide), nI_clamp (by omega), (hH.2.2.2.1 r (by omega)).2.1]
  have s9 := (hI.2.1 r (by omega)).2.2.1
  have i8 : a_in (ldI a r s 8) r ≤ 8 := cnt_le _ 8
  have hp : f_J6_bitCount_0f7a4 (nI (msk (fun g => a_is a g && a_pl a g == r) 8 ||| s)) = some (nI (a_in (ldI a r s 8) r)) := by
    rw [← tog_spec hs hsub]; exact pop_dec ⟨_, o2.2⟩
  unfold f_X8_leadsTo gdB
  rw [bitsIn_spec hI hH (by omega), Option.bind_some, o2.1, hp, Option.bind_some, hsz, Option.bind_some]
  by_cases c : a_in (ldI a r s 8) r ≤ a_sz a r
  · obtain ⟨g0, c1, c2⟩ := copy_Hc (h := D_house d) hI.1.2.2.2 hH
    have hIl := Inv_ld hI hr hs hsub c
    rw [if_pos (nI_le c (by omega)), c1, Option.bind_some, hFU]
    refine it_rule (bot := fun _ _ _ _ _ _ _ => none) 8 (fun i (t : DS) => Hc (D_house t) (ldI a r s i)) (fun kk i t => ∃ d', kk h t (nI s) (nI r) (nI k) (nI m) (nI i) = some (if decide (s &&& idl a = s) && (decide (a_in (ldI a r s 8) r ≤ a_sz a r) && decide (k ≤ a_in (minN lo0 (ldI a r s 8) m) r)) then 1 else 0, d')) ?_ ?_ N 0 (D_set_house d g0) (by omega) (by omega) (ld_0 c2)
    · intro kk t ht
      obtain ⟨d1, r1, r2⟩ := ready_spec hIl ht
      obtain ⟨d2, gn, n1, n2⟩ := run_spec hIl (Lo0 _) r2 hm
      have hcn := count_spec (Inv_minN hIl lo0 m) n2.1 (r := r) (by omega)
      have n8 : a_in (minN lo0 (ldI a r s 8) m) r ≤ 8 := cnt_le _ 8
      refine ⟨d2, ?_⟩
      unfold X8_leadsTo_B47
      rw [if_pos (by decide), r1, Option.bind_some, n1, Option.bind_some, hcn, Option.bind_some]
      by_cases c3 : k ≤ a_in (minN lo0 (ldI a r s 8) m) r
      · rw [if_neg (nI_nlt c3 (by omega))]; simp [hsub, c, c3]
      · rw [if_pos (nI_lt (by omega) (by omega))]; simp [c3]
    · intro kk i t hi ht hk2
      unfold X8_leadsTo_B47 X8_leadsTo_J89
      rw [if_neg (show ¬ (8 : Int32) ≤ nI i from nlit (by decide) hi), isIn_at hs hi, Option.bind_some, nI_1]
      cases e : s.testBit i
      · rw [if_pos (by decide)]; exact hk2 t (Hc_ldn ht e)
      · unfold f_X1_sit
        rw [if_neg (by decide), chk_nI hi (by decide), nI_clamp (by omega), ltA_eq, engage_spec _ hi, Option.bind_some, Option.bind_some]
        exact hk2 _ (Hc_ld ht e rfl)
  · rw [if_neg (nI_ge (by omega) (by omega))]
    exact ⟨d, by simp [c]⟩
end
/-! 98.led2 -/
section
/-- the best of the sets below n: fewest, then first -/
def rfA (a : AS) (r k m : Nat) : Nat → Option Nat
  | 0 => none
  | n + 1 => if gdB a r k m n = true ∧ (∀ t, rfA a r k m n = some t → pc n < pc t) then some n else rfA a r k m n
theorem rfA_y {a : AS} {r k m n : Nat} (h1 : gdB a r k m n = true) (h2 : ∀ t, rfA a r k m n = some t → pc n < pc t) : rfA a r k m (n + 1) = some n := if_pos ⟨h1, h2⟩
theorem rfA_n {a : AS} {r k m n : Nat} (h : ¬ (gdB a r k m n = true ∧ ∀ t, rfA a r k m n = some t → pc n < pc t)) : rfA a r k m (n + 1) = rfA a r k m n := if_neg h
theorem rf_none {a : AS} {r k m : Nat} : ∀ n, rfA a r k m n = none → ∀ t, t < n → gdB a r k m t = false
  | 0, _, t, ht => absurd ht (Nat.not_lt_zero _)
  | n + 1, h, t, ht => by
    by_cases c : gdB a r k m n = true ∧ ∀ t, rfA a r k m n = some t → pc n < pc t
    · rw [rfA_y c.1 c.2] at h; cases h
    · rw [rfA_n c] at h
      by_cases q : t = n
      · subst q
        cases e : gdB a r k m t
        · rfl
        · exact absurd ⟨e, fun u hu => by rw [h] at hu; cases hu⟩ c
      · exact rf_none n h t (by omega)
theorem rf_some {a : AS} {r k m : Nat} : ∀ n s, rfA a r k m n = some s → s < n ∧ gdB a r k m s = true ∧ (∀ t, t < n → gdB a r k m t = true → pc s ≤ pc t) ∧ ∀ t, t < s → gdB a r k m t = true → pc s < pc t
  | 0, s, h => by cases h
  | n + 1, s, h => by
    by_cases c : gdB a r k m n = true ∧ ∀ t, rfA a r k m n = some t → pc n < pc t
    · rw [rfA_y c.1 c.2] at h
      have e : n = s := Option.some.inj h
      subst e
      have key : ∀ t, t < n → gdB a r k m t = true → pc n < pc t := by
        intro t ht hg
        cases e : rfA a r k m n with
        | none => exact absurd hg (by rw [rf_none n e t ht]; decide)
        | some u =>
          have := (rf_some n u e).2.2.1 t ht hg
          have := c.2 u e
          omega
      refine ⟨Nat.lt_succ_self _, c.1, fun t ht hg => ?_, key⟩
      by_cases q : t = n
      · rw [q]; exact Nat.le_refl _
      · exact Nat.le_of_lt (key t (by omega) hg)
    · rw [rfA_n c] at h
      obtain ⟨h1, h2, h3, h4⟩ := rf_some n s h
      refine ⟨by omega, h2, fun t ht hg => ?_, h4⟩
      by_cases q : t = n
      · subst q
        rcases Nat.lt_or_ge (pc t) (pc s) with w | w
        · exact absurd ⟨hg, fun u hu => by rw [h] at hu; cases hu; exact w⟩ c
        · exact w
      · exact h3 t (by omega) hg
/-- what is told of the best set -/
def ledV (x : Int32) : Option Nat → Int32
  | none => -6
  | some s => if x = 1 then nI s else nI (pc s)
theorem gd_le {a : AS} {r k m t : Nat} (h : gdB a r k m t = true) : t ≤ idl a ∧ pc t ≤ pc (idl a) := by
  unfold gdB at h
  simp only [Bool.and_eq_true, decide_eq_true_eq] at h
  have e := h.1
  refine ⟨by rw [← e]; exact Nat.and_le_right, cnt_mono 8 (fun j _ hj => ?_)⟩
  have := Nat.testBit_and t (idl a) j
  rw [e, hj] at this
  simpa using this.symm
theorem idl_lt (a : AS) : idl a < 256 := msk_lt _ 8
theorem pc_le (s : Nat) : pc s ≤ 8 := cnt_le _ 8
section CL
variable {h : HS} {a : AS} {r k m : Nat}
theorem cled_in (hI : Inv a) (hH : Hc h a) (hr : r < a_R a) (hk : k < 1000) (hm : m < 1000) {x4 : Int32} (hx4 : x4 = 0 ∨ x4 = 1) {k60 : HS → DS → Int32 → Int32 → Int32 → Int32 → Int32 → Int32 → Option (Int32 × DS)} {few : Nat} (hf8 : few ≤ 8) (d : DS) (hno : ∀ t, gdB a r k m t = true → t < 256 → few ≤ pc t) : (∃ d', it (X8_led_B73 k60) (fun _ _ _ _ _ _ _ _ _ => none) FU h d (nI r) (nI k) (nI m) x4 (nI (idl a)) (nI few) 0 = some (ledV x4 (rfA a r k m 256), d')) ∨ ((∀ t, gdB a r k m t = true → t < 256 → few + 1 ≤ pc t) ∧ ∃ d', it (X8_led_B73 k60) (fun _ _ _ _ _ _ _ _ _ => none) FU h d (nI r) (nI k) (nI m) x4 (nI (idl a)) (nI few) 0 = k60 h d' (nI r) (nI k) (nI m) x4 (nI (idl a)) (nI (few + 1))) := by
  obtain ⟨N, hN, hFU⟩ := FU_ex
  have hidl := idl_lt a
  rw [hFU]
  refine it_rule (bot := fun _ _ _ _ _ _ _ _ _ => none) (idl a + 1) (fun i (_ : DS) => ∀ t, t < i → gdB a r k m t = true → pc t ≠ few) (fun kk i d => (∃ d', kk h d (nI r) (nI k) (nI m) x4 (nI (idl a)) (nI few) (nI i) = some (ledV x4 (rfA a r k m 256), d')) ∨ ((∀ t, gdB a r k m t = true → t < 256 → few + 1 ≤ pc t) ∧ ∃ d', kk h d (nI r) (nI k) (nI m) x4 (nI (idl a)) (nI few) (nI i) = k60 h d' (nI r) (nI k) (nI m) x4 (nI (idl a)) (nI (few + 1)))) ?_ ?_ N 0 d (by omega) (by omega) (fun t ht => absurd ht (Nat.not_lt_zero _))
  · intro kk d hn
    refine Or.inr ⟨fun t hg ht => ?_, d, ?_⟩
    · have h1 := hno t hg ht
      have h2 := hn t (Nat.lt_succ_of_le (gd_le hg).1) hg
      omega
    · unfold X8_led_B73
      rw [if_pos (nI_lt (Nat.lt_succ_self _) (by omega)), nI_1]
  · intro kk i d hi hn hk2
    have hi2 : i < 256 := by omega
    have hpi : f_J6_bitCount_0f7a4 (nI i) = some (nI (pc i)) := pop_dec ⟨i, hi2⟩
    have p8 := pc_le i
    have skip : (gdB a r k m i = true → pc i ≠ few) → ∀ d, (∃ d', kk h d (nI r) (nI k) (nI m) x4 (nI (idl a)) (nI few) (nI (i + 1)) = some (ledV x4 (rfA a r k m 256), d')) ∨ ((∀ t, gdB a r k m t = true → t < 256 → few + 1 ≤ pc t) ∧ ∃ d', kk h d (nI r) (nI k) (nI m) x4 (nI (idl a)) (nI few) (nI (i + 1)) = k60 h d' (nI r) (nI k) (nI m) x4 (nI (idl a)) (nI (few + 1))) := fun hs d => hk2 d (fun t ht hg => by
      by_cases q : t = i
      · subst q; exact hs hg
      · exact hn t (by omega) hg)
    unfold X8_led_B73 X8_led_J125
    rw [if_neg (nI_nlt (by omega) (by omega)), hpi, Option.bind_some, nI_1]
    by_cases c1 : pc i = few
    · rw [if_pos (by rw [c1])]
      by_cases c2 : i &&& idl a = i
      · obtain ⟨d1, e1⟩ := leads_spec hI hH d hr hk hm hi2 c2
        rw [if_pos ((sub_1 hi2).mpr c2), e1, Option.bind_some]
        cases cg : gdB a r k m i
        · exact skip (fun q => by rw [cg] at q; cases q) d1
        · refine Or.inl ⟨d1, ?_⟩
          have eL : rfA a r k m 256 = some i := by
            cases e : rfA a r k m 256 with
            | none => exact absurd cg (by rw [rf_none 256 e i hi2]; decide)
            | some s =>
              obtain ⟨s1, s2, s3, s4⟩ := rf_some 256 s e
              have q1 := s3 i hi2 cg
              have q2 := hno s s2 s1
              rcases Nat.lt_trichotomy s i with w | w | w
              · exact absurd (show pc s = few by omega) (hn s w s2)
              · rw [w]
              · have := s4 i w cg; omega
          rw [eL]
          show (if (1 : Int32) = 0 then _ else if x4 = 0 then some (nI few, d1) else some (nI i, d1)) = some (if x4 = 1 then nI i else nI (pc i), d1)
          rw [if_neg (by decide)]
          rcases hx4 with q | q
          · rw [if_pos q, if_neg (by rw [q]; decide), c1]
          · rw [if_neg (by rw [q]; decide), if_pos q]
      · rw [if_neg (fun q => c2 ((sub_1 hi2).mp q))]
        exact skip (fun q => by unfold gdB at q; simp [c2] at q) d
    · rw [if_neg (fun q => c1 ((nI_eq (by omega) (by omega)).mp q))]
      exact skip (fun _ => c1) d
theorem cled_spec (hI : Inv a) (hH : Hc h a) (hr : r < a_R a) (hk : k < 1000) (hm : m < 1000) {x4 : Int32} (hx4 : x4 = 0 ∨ x4 = 1) (d : DS) : ∃ d', it X8_led_B60 (fun _ _ _ _ _ _ _ _ => none) FU h d (nI r) (nI k) (nI m) x4 (nI (idl a)) 0 = some (ledV x4 (rfA a r k m 256), d') := by
  obtain ⟨N, hN, hFU⟩ := FU_ex
  have hidl := idl_lt a
  have hpi : f_J6_bitCount_0f7a4 (nI (idl a)) = some (nI (pc (idl a))) := pop_dec ⟨_, hidl⟩
  have p8 := pc_le (idl a)
  rw [hFU]
  refine it_rule (bot := fun _ _ _ _ _ _ _ _ => none) (pc (idl a) + 1) (fun i (_ : DS) => ∀ t, gdB a r k m t = true → t < 256 → i ≤ pc t) (fun kk i d => ∃ d', kk h d (nI r) (nI k) (nI m) x4 (nI (idl a)) (nI i) = some (ledV x4 (rfA a r k m 256), d')) ?_ ?_ N 0 d (by omega) (by omega) (fun _ _ _ => Nat.zero_le _)
  · intro kk d hn
    refine ⟨d, ?_⟩
    unfold X8_led_B60
    rw [hpi, Option.bind_some, if_pos (nI_lt (Nat.lt_succ_self _) (by omega))]
    have eL : rfA a r k m 256 = none := by
      cases e : rfA a r k m 256 with
      | none => rfl
      | some s =>
        obtain ⟨s1, s2, -⟩ := rf_some 256 s e
        have q1 := hn s s2 s1
        have q2 := (gd_le s2).2
        omega
    rw [eL]; rfl
  · intro kk i d hi hn hk2
    unfold X8_led_B60
    rw [hpi, Option.bind_some, if_neg (nI_nlt (by omega) (by omega))]
    rcases cled_in hI hH hr hk hm hx4 (k60 := kk) (few := i) (by omega) d hn with ⟨d', e⟩ | ⟨h1, d', e⟩
    · exact ⟨d', e⟩
    · obtain ⟨d2, e2⟩ := hk2 d' h1
      exact ⟨d2, e.trans e2⟩
end CL
end
/-! 98b.led3 -/
section
/-! led: the reference's side -/
theorem rld_step {w : MS} {a : AS} {r s i : Nat} (hM : Mx0 w (ldI a r s i) lo0) (hi : i < 8) {v1 v2 : Int32} (h1 : v1 = if s.testBit i then nI r else M_at w i) (h2 : ∀ y : MS, M_busyNow y = M_busyNow w → v2 = if s.testBit i then 2 else M_busyNow y i) (hI : s.testBit i = true → a_is a i = true → a_bs a i = 0 ∧ a_lf a i = 0) : ∃ y1 y2, y1 = M_set_at w (upd (M_at w) i v1) ∧ y2 = M_set_busyNow y1 (upd (M_busyNow y1) i v2) ∧ M_busyNow y1 = M_busyNow w ∧ mkeep y2 = mkeep w ∧ Mx0 y2 (ldI a r s (i + 1)) lo0 := by
  obtain ⟨y1, e1⟩ : ∃ x, x = M_set_at w (upd (M_at w) i v1) := ⟨_, rfl⟩
  obtain ⟨a1, b1⟩ := set_at e1
  obtain ⟨y2, e2⟩ : ∃ x, x = M_set_busyNow y1 (upd (M_busyNow y1) i v2) := ⟨_, rfl⟩
  obtain ⟨a2, b2⟩ := set_busyNow e2
  have f1 : M_busyNow y1 = M_busyNow w := congrArg (fun m => m.2.1) b1
  have g1 : M_at y2 = upd (M_at w) i v1 := (congrArg (fun m => m.1) b2).trans (congrArg (fun m => m.1) b1)
  have g2 : M_busyNow y2 = upd (M_busyNow w) i v2 := by rw [← f1]; exact congrArg (fun m => m.2.1) b2
  have g3 : M_withNow y2 = M_withNow w := (congrArg (fun m => m.2.2.1) b2).trans (congrArg (fun m => m.2.2.1) b1)
  have g4 : M_leftNow y2 = M_leftNow w := (congrArg (fun m => m.2.2.2.1) b2).trans (congrArg (fun m => m.2.2.2.1) b1)
  have g5 : M_thingsNow y2 = M_thingsNow w := (congrArg (fun m => m.2.2.2.2.1) b2).trans (congrArg (fun m => m.2.2.2.2.1) b1)
  have g6 : M_loose y2 = M_loose w := (congrArg (fun m => m.2.2.2.2.2.1) b2).trans (congrArg (fun m => m.2.2.2.2.2.1) b1)
  refine ⟨y1, y2, e1, e2, f1, a2.trans a1, hM.now (Mc_now (a2.trans a1) hM.1 ((ld_R a r s (i + 1)).trans (ld_R a r s i).symm) ((ld_T a r s (i + 1)).trans (ld_T a r s i).symm) ((ld_k a r s (i + 1)).trans (ld_k a r s i).symm) ((ld_sz a r s (i + 1)).trans (ld_sz a r s i).symm) ((ld_ch a r s (i + 1)).trans (ld_ch a r s i).symm) ((ld_wd a r s (i + 1)).trans (ld_wd a r s i).symm) ((ld_sg a r s (i + 1)).trans (ld_sg a r s i).symm) ((ld_sr a r s (i + 1)).trans (ld_sr a r s i).symm) (fun r' s' hr hs => by rw [g5, ld_th]; exact (gt_th hM.1 hr hs).trans (by rw [ld_th])) (fun g k _ _ _ => by unfold lkf; rw [ld_lk, ld_lk]) (fun j hj hij => ?_)) g6⟩
  obtain ⟨p1, p2, p3, p4⟩ := gt_now hM.1 hj hij
  have hij : a_is a j = true := hij
  rw [g1, g2, g3, g4]
  simp only [ld_pl, ld_bs, ld_mt, ld_lf] at p1 p2 p3 p4 ⊢
  by_cases c : j = i
  · subst c
    rw [pk_us, pk_us, h1, h2 w rfl]
    simp only [Nat.lt_irrefl, false_and, if_false] at p1 p2 p3 p4
    cases e : s.testBit j
    · simp [e]; exact ⟨p1, p2, p3, p4⟩
    · obtain ⟨q1, q2⟩ := hI e hij
      rw [q2] at p3
      simp [e]; exact ⟨rfl, p3⟩
  · have e1 : (j < i + 1) ↔ j < i := by omega
    rw [pk_un c, pk_un c]
    simp only [e1]; exact ⟨p1, p2, p3, p4⟩
theorem cin_weak {w : MS} {b : AS} (hT : a_T b < 256) (hp : ∀ g, g < 8 → a_is b g = true → a_pl b g < 1000) (hM : Mc (mnow w) b) {r : Nat} (hr : r < 6) : f_X9_countIn w (nI r) (-6) = some (nI (a_in b r)) := by
  obtain ⟨N, hN, hFU⟩ := FU_ex
  have et : M_there w = nI (a_T b) := hM.2.1
  rw [a_in_cnt]
  unfold f_X9_countIn
  rw [hFU]
  refine it_rule (bot := fun _ _ _ _ _ => none) 8 (fun i (n : Int32) => n = nI (cnt (fun j => a_is b j && a_pl b j == r) i)) (fun k i n => k w (nI r) (-6) n (nI i) = some (nI (cnt (fun j => a_is b j && a_pl b j == r) 8))) ?_ ?_ N 0 0 (by omega) (by omega) rfl
  · intro k n hn
    unfold X9_countIn_B5
    rw [if_pos (by decide), hn]
  · intro k i n hi hn hk
    have k0 : (a_is b i && a_pl b i == r) = false → k w (nI r) (-6) (n + 0) (nI (i + 1)) = some (nI (cnt (fun j => a_is b j && a_pl b j == r) 8)) := fun h => hk _ (by rw [hn, cnt_s, h]; simp)
    unfold X9_countIn_B5 X9_countIn_J46 X9_countIn_J47
    rw [if_neg (show ¬ (8 : Int32) ≤ nI i from nlit (by decide) hi), et, has_b hT hi, Option.bind_some, nI_1]
    cases e : (a_T b).testBit i
    · have e' : a_is b i = false := e
      rw [if_pos (by decide)]; exact k0 (by rw [e']; rfl)
    · have e' : a_is b i = true := e
      have hpl := hp i hi e'
      rw [if_neg (by decide), if_neg (n6 (by omega)), chk_nI hi (by decide), nI_clamp (by omega), (gt_now hM hi e').1]
      by_cases c : a_pl b i = r
      · rw [if_pos (by rw [c])]
        exact hk _ (by rw [hn, cnt_s, e', c]; simp; exact nI_1 _)
      · rw [if_neg (fun h => c ((nI_eq (by omega) (by omega)).mp h))]; exact k0 (by rw [e']; simp [c])
section RL2
variable {a : AS} {r k m : Nat}
theorem rled_fin (hI : Inv a) (hr : r < a_R a) (hm : m < 1000) (hk : k < 1000) {z w : MS} {s : Nat} (hs : s < 256) (hw : mkeep w = mkeep z) (hM : Mx0 w (ldI a r s 8) lo0) (hsub : s &&& idl a = s) (x4 x5 : Int32) {k50 : MS → Int32 → Int32 → Int32 → Int32 → Int32 → Int32 → Option (Int32 × MS)} : ∃ w', mkeep w' = mkeep z ∧ X9_led_J203 k50 w (nI r) (nI k) (nI m) x4 x5 (nI s) 1 = k50 w' (nI r) (nI k) (nI m) x4 (if gdB a r k m s then nI s else x5) (nI (s + 1)) := by
  have hR6 := hI.1.2.1
  have s9 := (hI.2.1 r (by omega)).2.2.1
  have i8 : a_in (ldI a r s 8) r ≤ 8 := cnt_le _ 8
  have hsz : M_size w r = nI (a_sz a r) := by
    have := (hM.1.2.2.2.1 r (by omega)).2.1
    rw [ld_sz] at this; exact this
  unfold X9_led_J203 X9_led_J233 X9_led_J229
  rw [if_neg (by decide)]
  have go : a_in (ldI a r s 8) r ≤ a_sz a r → ∃ w', mkeep w' = mkeep z ∧ X9_led_J234 k50 w (nI r) (nI k) (nI m) x4 x5 (nI s) 1 = k50 w' (nI r) (nI k) (nI m) x4 (if gdB a r k m s then nI s else x5) (nI (s + 1)) := by
    intro hc
    have hIl := Inv_ld hI hr hs hsub hc
    obtain ⟨w', g1, g2, g3⟩ := goMin_spec hIl (Lo0 _) hM hm
    have hcr := crowdIn_spec (Inv_minN hIl lo0 m) g3.1 (r := r) (by omega)
    have hb := bits_spec (msk_lt (fun g => a_is (minN lo0 (ldI a r s 8) m) g && a_pl (minN lo0 (ldI a r s 8) m) g == r) 8)
    have ec : cnt (fun j => (msk (fun g => a_is (minN lo0 (ldI a r s 8) m) g && a_pl (minN lo0 (ldI a r s 8) m) g == r) 8).testBit j) 8 = a_in (minN lo0 (ldI a r s 8) m) r := cnt_congr (fun j hj => msk_bit _ 8 j hj)
    rw [ec] at hb
    have n8 : a_in (minN lo0 (ldI a r s 8) m) r ≤ 8 := cnt_le _ 8
    refine ⟨w', g2.trans hw, ?_⟩
    unfold X9_led_J234 X9_led_J265 X9_led_J267 gdB
    rw [if_neg (by decide), g1, Option.bind_some, hcr, Option.bind_some, hb, Option.bind_some, nI_1]
    by_cases c3 : k ≤ a_in (minN lo0 (ldI a r s 8) m) r
    · rw [if_neg (nI_nlt c3 (by omega))]; simp [hsub, hc, c3]
    · rw [if_pos (nI_lt (by omega) (by omega))]; simp [c3]
  by_cases c0 : s = 0
  · have hc : a_in (ldI a r s 8) r ≤ a_sz a r := by
      have e : a_in (ldI a r s 8) r = a_in a r := by
        rw [ld_in, a_in_cnt]; subst c0
        exact cnt_congr (fun j _ => by simp)
      rw [e]; exact hI.2.2.2.2.2.2.2.2.2.1 r (by omega)
    rw [if_pos (show nI s = 0 by rw [c0]; rfl)]
    exact go hc
  · have hIl' : f_X9_countIn w (nI r) (-6) = some (nI (a_in (ldI a r s 8) r)) := cin_weak (b := ldI a r s 8) hI.1.2.2.1 (fun g hg hi => by
      rw [ld_pl]
      have h6 := (hI.2.2.2.2.2.1 g hg hi).1
      split <;> omega) hM.1 (show r < 6 by omega)
    rw [if_neg (show ¬ nI s = 0 from fun q => c0 ((nI_eq (by omega) (b := 0) (by decide)).mp q)), hIl', Option.bind_some, chk_nI (show r < 6 by omega) (by decide), nI_clamp (by omega), hsz]
    by_cases hc : a_in (ldI a r s 8) r ≤ a_sz a r
    · rw [if_neg (nI_nlt hc (by omega))]; exact go hc
    · rw [if_pos (nI_lt (by omega) (by omega))]
      refine ⟨w, hw, ?_⟩
      unfold X9_led_J234 X9_led_J267 gdB
      rw [if_pos rfl, nI_1]; simp [hc]
theorem rled_in2 (hI : Inv a) (hr : r < a_R a) (hm : m < 1000) (hk : k < 1000) {z w : MS} {s : Nat} (hs : s < 256) (hw : mkeep w = mkeep z) (hM : Mx0 w a lo0) (hT : s &&& a_T a = s) (x4 x5 : Int32) {k50 : MS → Int32 → Int32 → Int32 → Int32 → Int32 → Int32 → Option (Int32 × MS)} : ∃ w', mkeep w' = mkeep z ∧ it (X9_led_B102 k50) (fun _ _ _ _ _ _ _ _ _ => none) FU w (nI r) (nI k) (nI m) x4 x5 (nI s) 1 0 = k50 w' (nI r) (nI k) (nI m) x4 (if gdB a r k m s then nI s else x5) (nI (s + 1)) := by
  obtain ⟨N, hN, hFU⟩ := FU_ex
  have hR6 := hI.1.2.1
  have hTb := (sub_bit hs).mp hT
  rw [hFU]
  have h0 : Mx0 w (ldI a r s 0) lo0 := hM.now (Mc_now rfl hM.1 (ld_R a r s 0) (ld_T a r s 0) (ld_k a r s 0) (ld_sz a r s 0) (ld_ch a r s 0) (ld_wd a r s 0) (ld_sg a r s 0) (ld_sr a r s 0) (fun r' s' hr hs => by rw [ld_th]; exact gt_th hM.1 hr hs) (fun g k _ _ _ => by unfold lkf; rw [ld_lk]) (fun j hj hi => by
    simp only [ld_pl, ld_bs, ld_mt, ld_lf, Nat.not_lt_zero, false_and, if_false]; exact gt_now hM.1 hj hi)) rfl
  obtain ⟨N, rfl⟩ : ∃ M, N = M + 1 := ⟨N - 1, by omega⟩
  have gen : ∀ n i (y : MS), 8 - i < n → i ≤ 8 → mkeep y = mkeep z → Mx0 y (ldI a r s i) lo0 → (∀ j, j < i → s.testBit j = true → a_bs a j = 0) → ∃ w', mkeep w' = mkeep z ∧ it (X9_led_B102 k50) (fun _ _ _ _ _ _ _ _ _ => none) (n + 1) y (nI r) (nI k) (nI m) x4 x5 (nI s) 1 (nI i) = k50 w' (nI r) (nI k) (nI m) x4 (if gdB a r k m s then nI s else x5) (nI (s + 1)) := by
    intro n
    induction n with
    | zero => intro i y h; omega
    | succ n ih =>
      intro i y h1 h2 hy hMy hb
      have ex : ∀ (y : MS) (x8 : Int32), it (X9_led_B102 k50) (fun _ _ _ _ _ _ _ _ _ => none) (n + 1) y (nI r) (nI k) (nI m) x4 x5 (nI s) 0 x8 = k50 y (nI r) (nI k) (nI m) x4 x5 (nI (s + 1)) := by
        intro y x8
        rw [it_s]
        unfold X9_led_B102 X9_led_J203 X9_led_J233 X9_led_J234 X9_led_J267
        rw [if_pos (show (0 : Int32) = 0 from rfl), if_pos (show (0 : Int32) = 0 from rfl), if_pos (show (0 : Int32) = 0 from rfl), ite_self, nI_1]
      rw [it_s]
      by_cases c8 : i = 8
      · subst c8
        unfold X9_led_B102
        rw [if_pos (by decide)]
        refine rled_fin hI hr hm hk hs hy hMy ((sub_bit hs).mpr (fun j hj hbj => ?_)) x4 x5
        unfold idl
        rw [msk_bit _ 8 j hj, hb j hj hbj, show a_is a j = true from hTb j hj hbj]; rfl
      · have hi : i < 8 := by omega
        have hbs := bs_lt hI hi
        unfold X9_led_B102
        rw [if_neg (show ¬ (8 : Int32) ≤ nI i from nlit (by decide) hi), if_neg (by decide), has_b hs hi, Option.bind_some]
        cases e : s.testBit i
        · obtain ⟨y1, y2, q1, q2, q3, q4, q5⟩ := rld_step hMy hi (v1 := M_at y i) (v2 := M_busyNow y i) (by rw [e]; rfl) (fun y' hy' => by rw [e, hy']; rfl) (fun q => by rw [e] at q; cases q)
          obtain ⟨w', k1, k2⟩ := ih (i + 1) y2 (by omega) (by omega) (q4.trans hy) q5 (fun j hj hbj => by
            by_cases cj : j = i
            · subst cj; rw [e] at hbj; cases hbj
            · exact hb j (by omega) hbj)
          refine ⟨w', k1, ?_⟩
          rw [if_pos (by decide)]
          unfold X9_led_J134 X9_led_J139
          rw [has_b hs hi, Option.bind_some, e, if_pos (by decide), chk_nI hi (by decide), nI_clamp (by omega)]
          unfold X9_led_J168
          rw [chk_nI hi (by decide), nI_clamp (by omega), ltA_eq, ← q1, has_b hs hi, Option.bind_some, e, if_pos (by decide), chk_nI hi (by decide)]
          have q2' : M_set_busyNow y1 (upd (M_busyNow y1) i (M_busyNow y1 i)) = y2 := by rw [q2, q3]
          unfold X9_led_J196
          rw [chk_nI hi (by decide), nI_clamp (by omega), ltA_eq, q2', nI_1]
          exact k2
        · have ig : a_is a i = true := hTb i hi e
          have p2 := (gt_now hMy.1 hi (show a_is (ldI a r s i) i = true from ig)).2.1
          rw [ld_bs, if_neg (by omega)] at p2
          rw [if_neg (by decide), chk_nI hi (by decide), nI_clamp (by omega), p2]
          by_cases cb : a_bs a i = 0
          · have hl := (hI.2.2.2.2.2.2.1 i hi (Or.inl cb)).2
            obtain ⟨y1, y2, q1, q2, q3, q4, q5⟩ := rld_step hMy hi (v1 := nI r) (v2 := 2) (by rw [e]; rfl) (fun y' hy' => by rw [e]; rfl) (fun _ _ => ⟨cb, hl⟩)
            obtain ⟨w', k1, k2⟩ := ih (i + 1) y2 (by omega) (by omega) (q4.trans hy) q5 (fun j hj hbj => by
              by_cases cj : j = i
              · rw [cj]; exact cb
              · exact hb j (by omega) hbj)
            refine ⟨w', k1, ?_⟩
            rw [if_pos (show nI (a_bs a i) = 0 by rw [cb]; rfl)]
            unfold X9_led_J134 X9_led_J139
            rw [has_b hs hi, Option.bind_some, e, if_neg (by decide)]
            unfold X9_led_J168
            rw [chk_nI hi (by decide), nI_clamp (by omega), ltA_eq, ← q1, has_b hs hi, Option.bind_some, e, if_neg (by decide)]
            unfold X9_led_J196
            rw [chk_nI hi (by decide), nI_clamp (by omega), ltA_eq, ← q2, nI_1]
            exact k2
          · have hg : gdB a r k m s = false := by
              cases q : gdB a r k m s
              · rfl
              · exfalso
                unfold gdB at q
                simp only [Bool.and_eq_true, decide_eq_true_eq] at q
                exact cb (idl_bit hs q.1 hi e).2
            obtain ⟨y1, e1⟩ : ∃ x, x = M_set_at y (upd (M_at y) i (nI r)) := ⟨_, rfl⟩
            obtain ⟨y2, e2⟩ : ∃ x, x = M_set_busyNow y1 (upd (M_busyNow y1) i 2) := ⟨_, rfl⟩
            refine ⟨y2, ((set_busyNow e2).1.trans (set_at e1).1).trans hy, ?_⟩
            rw [if_neg (show ¬ nI (a_bs a i) = 0 from fun q => cb ((nI_eq (by omega) (b := 0) (by decide)).mp q)), hg]
            unfold X9_led_J139
            rw [has_b hs hi, Option.bind_some, e, if_neg (by decide)]
            unfold X9_led_J168
            rw [chk_nI hi (by decide), nI_clamp (by omega), ltA_eq, ← e1, has_b hs hi, Option.bind_some, e, if_neg (by decide)]
            unfold X9_led_J196
            rw [chk_nI hi (by decide), nI_clamp (by omega), ltA_eq, ← e2]
            exact ex y2 _
  obtain ⟨M, rfl⟩ : ∃ M, N = M := ⟨N, rfl⟩
  exact gen N 0 w (by omega) (by omega) hw h0 (fun j hj => absurd hj (Nat.not_lt_zero _))
end RL2
end
/-! 98c.led4 -/
section
def fdA : Option Nat → Int32
  | none => -6
  | some s => nI s
section RL3
variable {a : AS} {r k m : Nat}
theorem rled_out {w : MS} (x4 x5 : Int32) {s : Nat} {k50 : MS → Int32 → Int32 → Int32 → Int32 → Int32 → Int32 → Option (Int32 × MS)} : it (X9_led_B102 k50) (fun _ _ _ _ _ _ _ _ _ => none) FU w (nI r) (nI k) (nI m) x4 x5 (nI s) 0 0 = k50 w (nI r) (nI k) (nI m) x4 x5 (nI (s + 1)) := by
  obtain ⟨N, hN, hFU⟩ := FU_ex
  obtain ⟨n, rfl⟩ : ∃ n, N = n + 1 := ⟨N - 1, by omega⟩
  rw [hFU, it_s]
  unfold X9_led_B102 X9_led_J203 X9_led_J233 X9_led_J234 X9_led_J267
  rw [if_pos (show (0 : Int32) = 0 from rfl), if_pos (show (0 : Int32) = 0 from rfl), if_pos (show (0 : Int32) = 0 from rfl), ite_self, nI_1]
theorem rled_spec {z w : MS} (hI : Inv a) (hMz : Mc (mcore z) a) (hw : mkeep w = mkeep z) (hr : r < a_R a) (hm : m < 1000) (hk : k < 1000) {x4 : Int32} (hx4 : x4 = 0 ∨ x4 = 1) : ∃ w', it X9_led_B50 (fun _ _ _ _ _ _ _ => none) FU w (nI r) (nI k) (nI m) x4 (-6) 0 = some (ledV x4 (rfA a r k m 256), w') ∧ mkeep w' = mkeep z := by
  obtain ⟨N, hN, hFU⟩ := FU_ex
  have hT := hI.1.2.2.1
  rw [hFU]
  refine it_rule (bot := fun _ _ _ _ _ _ _ => none) 256 (fun _ (y : MS) => mkeep y = mkeep z) (fun kk i y => ∃ w', kk y (nI r) (nI k) (nI m) x4 (fdA (rfA a r k m i)) (nI i) = some (ledV x4 (rfA a r k m 256), w') ∧ mkeep w' = mkeep z) ?_ ?_ N 0 w (by omega) (by omega) hw
  · intro kk y hy
    refine ⟨y, ?_, hy⟩
    unfold X9_led_B50 X9_led_J284
    rw [if_pos (by decide)]
    cases e : rfA a r k m 256 with
    | none => rw [show fdA none = -6 from rfl, if_pos (by decide)]; rfl
    | some s =>
      have hs := (rf_some 256 s e).1
      have hb : f_X9_bits (nI s) = some (nI (pc s)) := bits_spec hs
      rw [show fdA (some s) = nI s from rfl, if_neg (nI_pos (by omega)), hb, Option.bind_some]
      show _ = some (if x4 = 1 then nI s else nI (pc s), y)
      by_cases c : x4 = 1
      · rw [if_pos c, if_pos c]
      · rw [if_neg c, if_neg c]
  · intro kk i y hi hy hk2
    have hMy : Mc (mcore y) a := by rw [show mcore y = mcore z from congrArg (fun m => m.1) hy]; exact hMz
    obtain ⟨y1, e1, e2, e3⟩ := asNow_Mx hMy
    have hy1 := e2.trans hy
    have skip : ¬ (gdB a r k m i = true ∧ ∀ t, rfA a r k m i = some t → pc i < pc t) → ∃ w', X9_led_J92 kk y (nI r) (nI k) (nI m) x4 (fdA (rfA a r k m i)) (nI i) = some (ledV x4 (rfA a r k m 256), w') ∧ mkeep w' = mkeep z := by
      intro hn
      have := hk2 y1 hy1
      rw [rfA_n hn] at this
      unfold X9_led_J92 X9_led_J93
      rw [e1, Option.bind_some, rled_out]
      exact this
    have tryit : i &&& a_T a = i → (∀ t, rfA a r k m i = some t → pc i < pc t) → ∃ w', X9_led_J88 kk y (nI r) (nI k) (nI m) x4 (fdA (rfA a r k m i)) (nI i) = some (ledV x4 (rfA a r k m 256), w') ∧ mkeep w' = mkeep z := by
      intro hsub hpc
      obtain ⟨w2, k1, k2⟩ := rled_in2 hI hr hm hk hi hy1 e3 hsub x4 (fdA (rfA a r k m i)) (k50 := kk)
      have := hk2 w2 k1
      unfold X9_led_J88 X9_led_J93
      rw [e1, Option.bind_some, k2]
      cases e : gdB a r k m i
      · rw [rfA_n (fun h => by rw [e] at h; cases h.1)] at this; exact this
      · rw [rfA_y e hpc] at this; exact this
    unfold X9_led_B50
    rw [if_neg (show ¬ (256 : Int32) ≤ nI i from nlit (by decide) hi), m_there hMy]
    by_cases c : i &&& a_T a = i
    · rw [if_pos ((sub_1 hi).mpr c)]
      cases e : rfA a r k m i with
      | none =>
        rw [e] at tryit
        rw [show fdA none = -6 from rfl, if_pos (by decide)]
        exact tryit c (fun t h => by cases h)
      | some t =>
        have ht := (rf_some i t e).1
        have b1 : f_X9_bits (nI i) = some (nI (pc i)) := bits_spec hi
        have b2 : f_X9_bits (nI t) = some (nI (pc t)) := bits_spec (show t < 256 by omega)
        have p1 := pc_le i
        have p2 := pc_le t
        rw [e] at tryit skip
        rw [show fdA (some t) = nI t from rfl, if_neg (nI_pos (by omega)), b1, Option.bind_some, b2, Option.bind_some]
        by_cases c2 : pc t ≤ pc i
        · rw [if_pos (nI_le c2 (by omega))]
          exact skip (fun h => by have := h.2 t rfl; omega)
        · rw [if_neg (nI_ge (by omega) (by omega))]
          exact tryit c (fun u h => by cases h; omega)
    · rw [if_neg (fun q => c ((sub_1 hi).mp q))]
      refine skip (fun h => c ?_)
      have hg := h.1
      unfold gdB at hg
      simp only [Bool.and_eq_true, decide_eq_true_eq] at hg
      exact (sub_bit hi).mpr (fun j hj hb => (idl_bit hi hg.1 hj hb).1)
end RL3
theorem sim_led : Sim_led Rel := by
  intro S z x1 x2 x3 x4 h
  obtain ⟨⟨a, hI, hH, hM⟩, h3⟩ := id h
  have hH : Hc (K_now S) a := hH
  have hM : Mc (mcore z) a := hM
  have n10 : ¬ (1 : Int32) = 0 := by decide
  have out : ∀ v : Int32, f_X8_led (K_now S) (K_drift S) x1 x2 x3 x4 = some (v, K_drift S) → f_X9_led z x1 x2 x3 x4 = some (v, z) → ∃ q w, f_X8_led (K_now S) (K_drift S) x1 x2 x3 x4 = some q ∧ f_X9_led z x1 x2 x3 x4 = some w ∧ q.1 = w.1 ∧ Rel (K_set_drift S q.2) w.2 := fun v e1 e2 => ⟨_, _, e1, e2, rfl, h.to rfl rfl⟩
  rcases rm_cases hI hH hM x1 with ⟨r, hr, rfl, a1, a2⟩ | ⟨-, a1, a2⟩
  · by_cases b1 : x2 < 1
    · exact out (-2) (by unfold f_X8_led; rw [a1, Option.bind_some, if_neg n10, if_pos b1]) (by unfold f_X9_led; rw [a2, Option.bind_some, if_neg n10, in_0 (Or.inl b1), Option.bind_some, if_pos rfl])
    · by_cases b2 : (8 : Int32) < x2
      · exact out (-2) (by unfold f_X8_led; rw [a1, Option.bind_some, if_neg n10, if_neg b1, if_pos b2]) (by unfold f_X9_led; rw [a2, Option.bind_some, if_neg n10, in_0 (Or.inr b2), Option.bind_some, if_pos rfl])
      · by_cases b3 : x3 < 0
        · exact out (-2) (by unfold f_X8_led; rw [a1, Option.bind_some, if_neg n10, if_neg b1, if_neg b2, if_pos b3]) (by unfold f_X9_led; rw [a2, Option.bind_some, if_neg n10, in_1 b1 b2, Option.bind_some, if_neg n10, in_0 (Or.inl b3), Option.bind_some, if_pos rfl])
        · by_cases b4 : (20 : Int32) < x3
          · exact out (-2) (by unfold f_X8_led; rw [a1, Option.bind_some, if_neg n10, if_neg b1, if_neg b2, if_neg b3, if_pos b4]) (by unfold f_X9_led; rw [a2, Option.bind_some, if_neg n10, in_1 b1 b2, Option.bind_some, if_neg n10, in_0 (Or.inr b4), Option.bind_some, if_pos rfl])
          · by_cases b5 : x4 < 0
            · exact out (-2) (by unfold f_X8_led; rw [a1, Option.bind_some, if_neg n10, if_neg b1, if_neg b2, if_neg b3, if_neg b4, if_pos b5]) (by unfold f_X9_led; rw [a2, Option.bind_some, if_neg n10, in_1 b1 b2, Option.bind_some, if_neg n10, in_1 b3 b4, Option.bind_some, if_neg n10, in_0 (Or.inl b5), Option.bind_some, if_pos rfl])
            · by_cases b6 : x4 ≤ 1
              · obtain ⟨k, hk', rfl⟩ := nI_of (x := x2) (fun q => b1 (Int32.lt_of_lt_of_le q (by decide)))
                obtain ⟨m, hm', rfl⟩ := nI_of b3
                have hk8 : k ≤ 8 := (nI_leI hk' (b := 8) (by decide)).mp (Int32.not_lt.mp b2)
                have hm20 : m ≤ 20 := (nI_leI hm' (b := 20) (by decide)).mp (Int32.not_lt.mp b4)
                have hx4 : x4 = 0 ∨ x4 = 1 := by
                  obtain ⟨j, hj', rfl⟩ := nI_of b5
                  have hj : j ≤ 1 := (nI_leI hj' (b := 1) (by decide)).mp b6
                  rcases (show j = 0 ∨ j = 1 by omega) with rfl | rfl
                  · exact Or.inl rfl
                  · exact Or.inr rfl
                obtain ⟨d', e1⟩ := cled_spec hI hH hr (show k < 1000 by omega) (show m < 1000 by omega) hx4 (K_drift S)
                obtain ⟨w', e2, e3⟩ := rled_spec (z := z) (w := z) hI hM rfl hr (show m < 1000 by omega) (show k < 1000 by omega) hx4
                refine ⟨(ledV x4 (rfA a r k m 256), d'), (ledV x4 (rfA a r k m 256), w'), ?_, ?_, rfl, h.to rfl e3⟩
                · unfold f_X8_led
                  rw [a1, Option.bind_some, if_neg n10, if_neg b1, if_neg b2, if_neg b3, if_neg b4, if_neg b5, if_pos b6, idle_spec hI hH, Option.bind_some]
                  exact e1
                · unfold f_X9_led
                  rw [a2, Option.bind_some, if_neg n10, in_1 b1 b2, Option.bind_some, if_neg n10, in_1 b3 b4, Option.bind_some, if_neg n10, in_1 b5 (Int32.not_lt.mpr b6), Option.bind_some, if_neg n10]
                  exact e2
              · exact out (-2) (by unfold f_X8_led; rw [a1, Option.bind_some, if_neg n10, if_neg b1, if_neg b2, if_neg b3, if_neg b4, if_neg b5, if_neg b6]) (by unfold f_X9_led; rw [a2, Option.bind_some, if_neg n10, in_1 b1 b2, Option.bind_some, if_neg n10, in_1 b3 b4, Option.bind_some, if_neg n10, in_0 (Or.inr (Int32.not_le.mp b6)), Option.bind_some, if_pos rfl])
  · exact out (-1) (by unfold f_X8_led; rw [a1, Option.bind_some, if_pos rfl]) (by unfold f_X9_led; rw [a2, Option.bind_some, if_pos rfl])
end
/-! 98d.keys -/
section
/-! keys of what goes round: the class' -/
def nL (n : Nat) : Int64 := Int64.ofNat n
theorem nL_bv (a : Nat) : (nL a).toBitVec = BitVec.ofNat 64 a := rfl
theorem nL_or (a b : Nat) : nL a ||| nL b = nL (a ||| b) := by
  apply Int64.toBitVec_inj.mp
  rw [Int64.toBitVec_or, nL_bv, nL_bv, nL_bv]
  apply BitVec.eq_of_toNat_eq
  simp [BitVec.toNat_or, BitVec.toNat_ofNat, Nat.or_mod_two_pow]
theorem nL_inj {a b : Nat} (ha : a < 2 ^ 63) (hb : b < 2 ^ 63) (h : nL a = nL b) : a = b := by
  have := congrArg (fun x : Int64 => x.toBitVec.toNat) h
  simp only [nL_bv, BitVec.toNat_ofNat] at this
  omega
set_option maxRecDepth 100000 in
theorem p4_dec : ∀ p : Fin 8, (nI p.val <<< ((4 : Int32) &&& 31)).toInt64 = nL (16 * p.val) := by decide +kernel
set_option maxRecDepth 100000 in
theorem l_dec : ∀ n : Fin 16, (nI n.val).toInt64 = nL n.val := by decide +kernel
theorem sh7 (k : Nat) : nL k <<< (((7 : Int32)).toInt64 &&& 63) = nL (128 * k) := by
  rw [show (((7 : Int32)).toInt64 &&& 63) = (7 : Int64) from by decide]
  apply Int64.toBitVec_inj.mp
  rw [Int64.toBitVec_shiftLeft, nL_bv, nL_bv]
  apply BitVec.eq_of_toNat_eq
  rw [show (7 : Int64).toBitVec.smod 64 = 7#64 from by decide]
  simp [BitVec.toNat_ofNat, Nat.shiftLeft_eq]
  omega
theorem key_step {k p l : Nat} (hp : p < 8) (hl : l < 16) : ((nL k <<< (((7 : Int32)).toInt64 &&& 63)) ||| (nI p <<< ((4 : Int32) &&& 31)).toInt64) ||| (nI l).toInt64 = nL (128 * k + 16 * p + l) := by
  rw [sh7, p4_dec ⟨p, hp⟩, l_dec ⟨l, hl⟩, nL_or, nL_or]
  show nL ((128 * k ||| 16 * p) ||| l) = _
  rw [← Nat.two_pow_add_eq_or_of_lt (i := 7) (b := 16 * p) (by omega) k]
  rw [show 2 ^ 7 * k + 16 * p = 2 ^ 4 * (8 * k + p) by omega, ← Nat.two_pow_add_eq_or_of_lt (i := 4) (b := l) (by omega) (8 * k + p), show 2 ^ 4 * (8 * k + p) + l = 128 * k + 16 * p + l by omega]
def kyA (b : AS) : Nat → Nat
  | 0 => 0
  | i + 1 => 128 * kyA b i + 16 * a_pl b i + a_lf b i
theorem lf_lt {b : AS} (hI : Inv b) {g : Nat} (hg : g < 8) : a_lf b g ≤ 9 := by
  have h3 := bs_lt hI hg
  by_cases c : a_bs b g = 1
  · obtain ⟨j, -, -, -, -, -, -, -, -, h9⟩ := hI.2.2.2.2.2.2.2.1 g hg c; exact h9
  · rw [lf_0 hI hg c h3]; decide
theorem ckey_spec {h : HS} {b : AS} (hI : Inv b) (hH : Hc h b) : f_X1_key h = some (nL (kyA b 8)) := by
  obtain ⟨N, hN, hFU⟩ := FU_ex
  unfold f_X1_key
  rw [hFU]
  refine it_rule (bot := fun _ _ _ => none) 8 (fun i (x : Int64) => x = nL (kyA b i)) (fun k i x => k h x (nI i) = some (nL (kyA b 8))) ?_ ?_ N 0 0 (by omega) (by omega) rfl
  · intro k x hx
    unfold X1_key_B4
    rw [if_pos (by decide), hx]
  · intro k i x hi hx hk
    have hp := pl_lt hI hi
    have hl := lf_lt hI hi
    obtain ⟨p1, -, -, p4⟩ := hH.2.2.2.2.2.1 i hi
    unfold X1_key_B4
    rw [if_neg (show ¬ (8 : Int32) ≤ nI i from nlit (by decide) hi), chk_nI hi (by decide), chk_nI hi (by decide), nI_clamp (by omega), p1, p4, nI_1, hx, key_step (by omega) (by omega)]
    exact hk _ rfl
/-- equal keys: all are where they were, with as many minutes to talk -/
theorem ky_inj {b c : AS} (hb : Inv b) (hc : Inv c) : ∀ i, i ≤ 8 → kyA b i = kyA c i → ∀ g, g < i → a_pl b g = a_pl c g ∧ a_lf b g = a_lf c g
  | 0, _, _, g, hg => absurd hg (Nat.not_lt_zero _)
  | i + 1, hi, h, g, hg => by
    have p1 := pl_lt hb (show i < 8 by omega)
    have p2 := pl_lt hc (show i < 8 by omega)
    have l1 := lf_lt hb (show i < 8 by omega)
    have l2 := lf_lt hc (show i < 8 by omega)
    have h : 128 * kyA b i + 16 * a_pl b i + a_lf b i = 128 * kyA c i + 16 * a_pl c i + a_lf c i := h
    have e1 : kyA b i = kyA c i := by omega
    by_cases q : g = i
    · subst q; omega
    · exact ky_inj hb hc i (by omega) e1 g (by omega)
theorem ky_lt {b : AS} (hI : Inv b) : ∀ i, i ≤ 8 → kyA b i < 128 ^ i
  | 0, _ => Nat.zero_lt_one
  | i + 1, h => by
    have p1 := pl_lt hI (show i < 8 by omega)
    have l1 := lf_lt hI (show i < 8 by omega)
    have := ky_lt hI i (by omega)
    show 128 * kyA b i + 16 * a_pl b i + a_lf b i < 128 ^ (i + 1)
    rw [Nat.pow_succ]
    omega
end
/-! 98e.note -/
section
/-! keys of what goes round: the reference's two numbers -/
theorem nL_add (a b : Nat) : nL a + nL b = nL (a + b) := (Int64.ofNat_add a b).symm
theorem nL_mul (a b : Nat) : nL a * nL b = nL (a * b) := (Int64.ofNat_mul a b).symm
set_option maxRecDepth 100000 in
theorem l128_dec : ∀ n : Fin 128, (nI n.val).toInt64 = nL n.val := by decide +kernel
theorem l128 {n : Nat} (h : n < 128) : (nI n).toInt64 = nL n := l128_dec ⟨n, h⟩
def d1A (b : AS) (g : Nat) : Nat := if a_is b g = true then 4 * a_pl b g + a_bs b g else 0
def d2A (b : AS) (g : Nat) : Nat := if a_is b g = true ∧ a_bs b g = 1 then 9 * (a_mt b g).toNat + a_lf b g else if a_is b g = true ∧ a_bs b g = 3 then (a_mt b g).toNat else 0
def n1A (b : AS) : Nat → Nat
  | 0 => 0
  | i + 1 => n1A b i * 32 + d1A b i
def n2A (b : AS) : Nat → Nat
  | 0 => 0
  | i + 1 => n2A b i * 80 + d2A b i
theorem sst {z z' : MS} {f : Nat → Int64} (h : z' = M_set_states z f) : mkeep z' = mkeep z ∧ msc z' = msc z ∧ M_states z' = f := by subst h; exact ⟨rfl, rfl, rfl⟩
theorem note_spec {w : MS} {b : AS} (hI : Inv b) (hM : Mc (mnow w) b) {m : Nat} (hm : m < 100) : ∃ w', f_X9_note w (nI m) = some w' ∧ mkeep w' = mkeep w ∧ msc w' = msc w ∧ M_states w' = vp_updL (vp_updL (M_states w) (2 * m) (nL (n1A b 8))) (2 * m + 1) (nL (n2A b 8)) := by
  obtain ⟨N, hN, hFU⟩ := FU_ex
  have hT := hI.1.2.2.1
  have hR6 := hI.1.2.1
  have et : M_there w = nI (a_T b) := hM.2.1
  unfold f_X9_note
  rw [hFU]
  refine it_rule (bot := fun _ _ _ _ _ => none) 8 (fun i (s : Int64 × Int64) => s = (nL (n1A b i), nL (n2A b i))) (fun k i s => ∃ w', k w (nI m) s.1 s.2 (nI i) = some w' ∧ mkeep w' = mkeep w ∧ msc w' = msc w ∧ M_states w' = vp_updL (vp_updL (M_states w) (2 * m) (nL (n1A b 8))) (2 * m + 1) (nL (n2A b 8))) ?_ ?_ N 0 (0, 0) (by omega) (by omega) rfl
  · intro k s hs
    obtain ⟨y1, e1⟩ : ∃ x, x = M_set_states w (vp_updL (M_states w) (2 * m) (nL (n1A b 8))) := ⟨_, rfl⟩
    obtain ⟨a1, b1, c1⟩ := sst e1
    obtain ⟨y2, e2⟩ : ∃ x, x = M_set_states y1 (vp_updL (M_states y1) (2 * m + 1) (nL (n2A b 8))) := ⟨_, rfl⟩
    obtain ⟨a2, b2, c2⟩ := sst e2
    refine ⟨y2, ?_, a2.trans a1, b2.trans b1, by rw [c2, c1]⟩
    rw [hs]
    show X9_note_B8 k w (nI m) (nL (n1A b 8)) (nL (n2A b 8)) (nI 8) = _
    unfold X9_note_B8
    rw [if_pos (by decide), show (2 : Int32) * nI m = nI (2 * m) from pk_mul 2 m, nI_1, chk_nI (by omega) (by decide), nI_clamp (by omega), nI_clamp (by omega), ltA_eq, ← e1, chk_nI (by omega) (by decide), ltA_eq, ← e2]
  · intro k i s hi hs hk
    have hk' := hk (nL (n1A b (i + 1)), nL (n2A b (i + 1))) rfl
    have hk' : ∃ w', k w (nI m) (nL (n1A b i * 32 + d1A b i)) (nL (n2A b i * 80 + d2A b i)) (nI (i + 1)) = some w' ∧ mkeep w' = mkeep w ∧ msc w' = msc w ∧ M_states w' = vp_updL (vp_updL (M_states w) (2 * m) (nL (n1A b 8))) (2 * m + 1) (nL (n2A b 8)) := hk'
    have hb := bs_lt hI hi
    have hp := pl_lt hI hi
    have hl := lf_lt hI hi
    rw [hs]
    show ∃ w', X9_note_B8 k w (nI m) (nL (n1A b i)) (nL (n2A b i)) (nI i) = some w' ∧ _
    unfold X9_note_B8 X9_note_J57 X9_note_J80 X9_note_J81 X9_note_J145 X9_note_J146
    rw [if_neg (show ¬ (8 : Int32) ≤ nI i from nlit (by decide) hi), et, has_b hT hi, Option.bind_some, nI_1, show (32 : Int64) = nL 32 from rfl, show (80 : Int64) = nL 80 from rfl, nL_mul, nL_mul]
    cases e : (a_T b).testBit i
    · have e' : a_is b i = false := e
      have d1 : d1A b i = 0 := by unfold d1A; rw [if_neg (by rw [e']; decide)]
      have d2 : d2A b i = 0 := by unfold d2A; rw [if_neg (fun h => by rw [e'] at h; cases h.1), if_neg (fun h => by rw [e'] at h; cases h.1)]
      rw [d1, d2] at hk'
      simp only [Bool.false_eq_true, if_false, if_true]
      rw [show ((0 : Int32)).toInt64 = nL 0 from rfl, nL_add, nL_add]
      exact hk'
    · have e' : a_is b i = true := e
      obtain ⟨p1, p2, p3, p4⟩ := gt_now hM hi e'
      have d1 : d1A b i = 4 * a_pl b i + a_bs b i := by unfold d1A; rw [if_pos e']
      rw [d1] at hk'
      simp only [if_true]
      rw [if_neg (show ¬ (1 : Int32) = 0 by decide), chk_nI hi (by decide), chk_nI hi (by decide), if_neg (show ¬ (1 : Int32) = 0 by decide)]
      simp only [chk_nI hi (show 8 < 2 ^ 31 by decide)]
      rw [nI_clamp (show i < 2 ^ 31 by omega), p1, p2, p3]
      have e4 : nI (a_pl b i) * (4 : Int32) + nI (a_bs b i) = nI (4 * a_pl b i + a_bs b i) := by rw [show (4 : Int32) = nI 4 from rfl, pk_mul, nI_add, Nat.mul_comm]
      rw [e4, l128 (by omega), nL_add]
      by_cases c1 : a_bs b i = 1
      · obtain ⟨j, j1, -, j3, -⟩ := hI.2.2.2.2.2.2.2.1 i hi c1
        have d2 : d2A b i = 9 * j + a_lf b i := by unfold d2A; rw [if_pos ⟨e', c1⟩, j3]; rfl
        rw [d2] at hk'
        rw [if_pos (show nI (a_bs b i) = (1 : Int32) by rw [c1]; rfl), if_neg (show ¬ (1 : Int32) = 0 by decide), p4 (Or.inl c1), j3, oI_nat]
        have e5 : ((1 : Int32) + nI j * 9 + nI (a_lf b i)) - 1 = nI (9 * j + a_lf b i) := by
          rw [show (9 : Int32) = nI 9 from rfl, pk_mul, show (1 : Int32) = nI 1 from rfl, nI_add, nI_add]
          rw [show nI (1 + j * 9 + a_lf b i) - nI 1 = nI (1 + j * 9 + a_lf b i - 1) from pk_sub (b := 1) (by omega)]
          congr 1; omega
        rw [e5, l128 (by omega), nL_add]
        exact hk'
      · rw [if_neg (show ¬ nI (a_bs b i) = (1 : Int32) from fun h => c1 ((nI_eq (by omega) (b := 1) (by decide)).mp h)), if_neg (show ¬ (1 : Int32) = 0 by decide)]
        by_cases c3 : a_bs b i = 3
        · obtain ⟨-, q, q1, -, q3, -⟩ := hI.2.2.2.2.2.2.2.2.1 i hi c3
          have d2 : d2A b i = q := by unfold d2A; rw [if_neg (fun h => c1 h.2), if_pos ⟨e', c3⟩, q3]; rfl
          rw [d2] at hk'
          rw [if_pos (show nI (a_bs b i) = (3 : Int32) by rw [c3]; rfl), p4 (Or.inr c3), q3, oI_nat, l128 (by omega), nL_add]
          exact hk'
        · have d2 : d2A b i = 0 := by unfold d2A; rw [if_neg (fun h => c1 h.2), if_neg (fun h => c3 h.2)]
          rw [d2] at hk'
          rw [if_neg (show ¬ nI (a_bs b i) = (3 : Int32) from fun h => c3 ((nI_eq (by omega) (b := 3) (by decide)).mp h)), show ((0 : Int32)).toInt64 = nL 0 from rfl, nL_add]
          exact hk'
end
/-! 98f.round -/
section
/-! what goes round -/
theorem lcmp_0 (x y : Int64) : (lg_cmp x y = 0) ↔ x = y := by
  unfold lg_cmp
  by_cases c : x > y
  · rw [if_pos c]
    refine ⟨fun h => absurd h (by decide), fun h => ?_⟩
    subst h; exact absurd c (Int64.lt_irrefl)
  · rw [if_neg c]
    by_cases d : x = y
    · rw [if_pos d]; exact ⟨fun _ => d, fun _ => rfl⟩
    · rw [if_neg d]; exact ⟨fun h => absurd h (by decide), fun h => absurd h d⟩
theorem d1_lt {b : AS} (hI : Inv b) {g : Nat} (hg : g < 8) : d1A b g < 32 := by
  have := pl_lt hI hg; have := bs_lt hI hg
  unfold d1A; split <;> omega
theorem d2_lt {b : AS} (hI : Inv b) {g : Nat} (hg : g < 8) : d2A b g < 80 := by
  unfold d2A
  by_cases c1 : a_is b g = true ∧ a_bs b g = 1
  · obtain ⟨j, j1, -, j3, -, -, -, -, -, j9⟩ := hI.2.2.2.2.2.2.2.1 g hg c1.2
    rw [if_pos c1, j3, Int.toNat_natCast]; omega
  · rw [if_neg c1]
    by_cases c3 : a_is b g = true ∧ a_bs b g = 3
    · obtain ⟨-, q, q1, -, q3, -⟩ := hI.2.2.2.2.2.2.2.2.1 g hg c3.2
      have := hI.1.2.1
      rw [if_pos c3, q3, Int.toNat_natCast]; omega
    · rw [if_neg c3]; decide
theorem n1_inj {b c : AS} (hb : Inv b) (hc : Inv c) : ∀ i, i ≤ 8 → n1A b i = n1A c i → ∀ g, g < i → d1A b g = d1A c g
  | 0, _, _, g, hg => absurd hg (Nat.not_lt_zero _)
  | i + 1, hi, h, g, hg => by
    have p1 := d1_lt hb (show i < 8 by omega)
    have p2 := d1_lt hc (show i < 8 by omega)
    have h : n1A b i * 32 + d1A b i = n1A c i * 32 + d1A c i := h
    by_cases q : g = i
    · subst q; omega
    · exact n1_inj hb hc i (by omega) (by omega) g (by omega)
theorem n2_inj {b c : AS} (hb : Inv b) (hc : Inv c) : ∀ i, i ≤ 8 → n2A b i = n2A c i → ∀ g, g < i → d2A b g = d2A c g
  | 0, _, _, g, hg => absurd hg (Nat.not_lt_zero _)
  | i + 1, hi, h, g, hg => by
    have p1 := d2_lt hb (show i < 8 by omega)
    have p2 := d2_lt hc (show i < 8 by omega)
    have h : n2A b i * 80 + d2A b i = n2A c i * 80 + d2A c i := h
    by_cases q : g = i
    · subst q; omega
    · exact n2_inj hb hc i (by omega) (by omega) g (by omega)
theorem n1_lt {b : AS} (hb : Inv b) : ∀ i, i ≤ 8 → n1A b i < 32 ^ i
  | 0, _ => Nat.zero_lt_one
  | i + 1, h => by
    have p1 := d1_lt hb (show i < 8 by omega)
    have := n1_lt hb i (by omega)
    show n1A b i * 32 + d1A b i < 32 ^ (i + 1)
    rw [Nat.pow_succ]; omega
theorem n2_lt {b : AS} (hb : Inv b) : ∀ i, i ≤ 8 → n2A b i < 80 ^ i
  | 0, _ => Nat.zero_lt_one
  | i + 1, h => by
    have p1 := d2_lt hb (show i < 8 by omega)
    have := n2_lt hb i (by omega)
    show n2A b i * 80 + d2A b i < 80 ^ (i + 1)
    rw [Nat.pow_succ]; omega
theorem n1_congr {b c : AS} : ∀ i, (∀ g, g < i → d1A b g = d1A c g) → n1A b i = n1A c i
  | 0, _ => rfl
  | i + 1, h => by
    show n1A b i * 32 + d1A b i = n1A c i * 32 + d1A c i
    rw [n1_congr i (fun g hg => h g (by omega)), h i (by omega)]
theorem n2_congr {b c : AS} : ∀ i, (∀ g, g < i → d2A b g = d2A c g) → n2A b i = n2A c i
  | 0, _ => rfl
  | i + 1, h => by
    show n2A b i * 80 + d2A b i = n2A c i * 80 + d2A c i
    rw [n2_congr i (fun g hg => h g (by omega)), h i (by omega)]
theorem ky_congr {b c : AS} : ∀ i, (∀ g, g < i → a_pl b g = a_pl c g ∧ a_lf b g = a_lf c g) → kyA b i = kyA c i
  | 0, _ => rfl
  | i + 1, h => by
    show 128 * kyA b i + 16 * a_pl b i + a_lf b i = 128 * kyA c i + 16 * a_pl c i + a_lf c i
    rw [ky_congr i (fun g hg => h g (by omega)), (h i (by omega)).1, (h i (by omega)).2]
theorem lf_pos {b : AS} (hI : Inv b) {g : Nat} (hg : g < 8) (h : a_bs b g = 1) : 1 ≤ a_lf b g := by
  obtain ⟨j, -, -, -, -, -, -, -, h8, -⟩ := hI.2.2.2.2.2.2.2.1 g hg h; exact h8
theorem lf_min {b : AS} (hI : Inv b) (lo : Nat → Nat → Bool) {g : Nat} (hg : g < 8) : a_lf (minA lo b) g = a_lf b g - 1 := by
  obtain ⟨-, -, -, -, -, -, -, -, k9, k10, k11⟩ := Kp_mv hI lo 8 (Nat.le_refl _)
  unfold minA
  rw [tk_lf, k9, k11]
  by_cases c : a_bs b g = 1
  · rw [if_pos ⟨hg, c⟩]
  · rw [if_neg (fun h => c h.2), lf_0 hI hg c (bs_lt hI hg)]
theorem bs_min {b : AS} (hI : Inv b) (lo : Nat → Nat → Bool) {g : Nat} (h : a_bs b g ≠ 1) : a_bs (minA lo b) g = a_bs b g ∧ a_mt (minA lo b) g = a_mt b g := by
  obtain ⟨-, -, -, -, -, -, -, -, k9, k10, k11⟩ := Kp_mv hI lo 8 (Nat.le_refl _)
  unfold minA
  rw [tk_bs, tk_mt, k9, k10, k11, if_neg (fun q => h q.2.1), if_neg (fun q => h q.2.1)]
  exact ⟨rfl, rfl⟩
theorem lf_minN {b : AS} (hI : Inv b) (lo : Nat → Nat → Bool) {g : Nat} (hg : g < 8) (s : Nat) : ∀ n, a_lf (minN lo b (s + n)) g = a_lf (minN lo b s) g - n
  | 0 => rfl
  | n + 1 => by
    show a_lf (minA lo (minN lo b (s + n))) g = _
    rw [lf_min (Inv_minN hI lo _) lo hg, lf_minN hI lo hg s n]; omega
theorem bs_minN {b : AS} (hI : Inv b) (lo : Nat → Nat → Bool) {g : Nat} {s : Nat} (h : a_bs (minN lo b s) g ≠ 1) : ∀ n, a_bs (minN lo b (s + n)) g = a_bs (minN lo b s) g ∧ a_mt (minN lo b (s + n)) g = a_mt (minN lo b s) g
  | 0 => ⟨rfl, rfl⟩
  | n + 1 => by
    obtain ⟨h1, h2⟩ := bs_minN hI lo h n
    obtain ⟨g1, g2⟩ := bs_min (Inv_minN hI lo (s + n)) lo (g := g) (by rw [h1]; exact h)
    exact ⟨g1.trans h1, g2.trans h2⟩
theorem note_iff {a : AS} (hI : Inv a) {s t : Nat} (hst : s < t) : kyA (minN lo0 a s) 8 = kyA (minN lo0 a t) 8 ↔ (n1A (minN lo0 a s) 8 = n1A (minN lo0 a t) 8 ∧ n2A (minN lo0 a s) 8 = n2A (minN lo0 a t) 8) := by
  have hs := Inv_minN hI lo0 s
  have ht := Inv_minN hI lo0 t
  have eT : a_T (minN lo0 a t) = a_T (minN lo0 a s) := (minN_keep hI lo0 t).2.1.trans (minN_keep hI lo0 s).2.1.symm
  have eis : ∀ g, a_is (minN lo0 a t) g = a_is (minN lo0 a s) g := fun g => by unfold a_is; rw [eT]
  constructor
  · intro h
    have h := ky_inj hs ht 8 (Nat.le_refl _) h
    obtain ⟨n, rfl⟩ : ∃ n, t = s + n := ⟨t - s, by omega⟩
    have key : ∀ g, g < 8 → d1A (minN lo0 a s) g = d1A (minN lo0 a (s + n)) g ∧ d2A (minN lo0 a s) g = d2A (minN lo0 a (s + n)) g := by
      intro g hg
      obtain ⟨e1, e2⟩ := h g hg
      have e3 := lf_minN hI lo0 hg s n
      have c : a_bs (minN lo0 a s) g ≠ 1 := fun c => by
        have := lf_pos hs hg c
        omega
      obtain ⟨e4, e5⟩ := bs_minN hI lo0 c n
      unfold d1A d2A
      rw [eis g, e1, e2, e4, e5]
      exact ⟨rfl, rfl⟩
    exact ⟨n1_congr 8 (fun g hg => (key g hg).1), n2_congr 8 (fun g hg => (key g hg).2)⟩
  · intro ⟨h1, h2⟩
    have h1 := n1_inj hs ht 8 (Nat.le_refl _) h1
    have h2 := n2_inj hs ht 8 (Nat.le_refl _) h2
    refine ky_congr 8 (fun g hg => ?_)
    have h1 := h1 g hg
    have h2 := h2 g hg
    unfold d1A at h1
    unfold d2A at h2
    rw [eis g] at h1 h2
    cases e : a_is (minN lo0 a s) g
    · have e' := (eis g).trans e
      obtain ⟨p1, p2, -⟩ := hs.2.2.2.2.1 g hg e
      obtain ⟨q1, q2, -⟩ := ht.2.2.2.2.1 g hg e'
      rw [p1, q1, lf_0 hs hg (by omega) (by omega), lf_0 ht hg (by omega) (by omega)]
      exact ⟨rfl, rfl⟩
    · rw [e, if_pos rfl, if_pos rfl] at h1
      have b1 := bs_lt hs hg
      have b2 := bs_lt ht hg
      have eb : a_bs (minN lo0 a s) g = a_bs (minN lo0 a t) g := by omega
      refine ⟨by omega, ?_⟩
      by_cases c : a_bs (minN lo0 a s) g = 1
      · obtain ⟨j, j1, -, j3, -, -, -, -, j8, j9⟩ := hs.2.2.2.2.2.2.2.1 g hg c
        obtain ⟨i, i1, -, i3, -, -, -, -, i8, i9⟩ := ht.2.2.2.2.2.2.2.1 g hg (eb ▸ c)
        rw [if_pos ⟨e, c⟩, if_pos ⟨e, eb ▸ c⟩, j3, i3, Int.toNat_natCast, Int.toNat_natCast] at h2
        omega
      · rw [lf_0 hs hg c b1, lf_0 ht hg (eb ▸ c) b2]
theorem fsA_nn (b : AS) : ∀ n i, n + i < 1000 → fsA b n i = -6 ∨ ¬ fsA b n i < 0
  | 0, _, _ => Or.inl rfl
  | n + 1, i, h => by
    rw [fsA_s]
    split
    · exact Or.inr (fun q => absurd (Int32.lt_of_lt_of_le q (nI_le (a := 0) (Nat.zero_le (i + 1)) (by omega))) Int32.lt_irrefl)
    · exact fsA_nn b n (i + 1) (by omega)
theorem sim_round : Sim_round Rel := by
  intro S z h
  obtain ⟨⟨a, hI, hH, hM⟩, h3⟩ := id h
  have hH : Hc (K_now S) a := hH
  have hM : Mc (mcore z) a := hM
  obtain ⟨d', e1⟩ := cstill_spec hI hH (K_drift S)
  obtain ⟨w, e2, e3⟩ := rstill_spec hI hM
  by_cases c : fsA a 99 0 = -6
  · have hMw : Mc (mcore w) a := by
      have : mcore w = mcore z := congrArg (fun m => m.1) e3
      rw [this]; exact hM
    obtain ⟨d0, b1, b2⟩ := begin_spec (d := d') hI hH
    obtain ⟨w0, b3, b4, b5⟩ := asNow_Mx hMw
    obtain ⟨w1, n1, n2, n3, n4⟩ := note_spec hI b5.1 (m := 0) (by decide)
    obtain ⟨N, hN, hFU⟩ := FU_ex
    have key : ∃ q w', it X8_round_B41 (fun _ _ _ _ => none) FU (K_now S) d0 (vp_updL (K_ends S) 0 (nL (kyA a 8))) (nI 1) = some q ∧ it X9_round_B21 (fun _ _ => none) FU w1 (nI 1) = some w' ∧ q.1 = w'.1 ∧ mkeep w'.2 = mkeep z := by
      rw [hFU]
      refine it_rule2 (bot := fun _ _ _ _ => none) (bot2 := fun _ _ => none) 99 (fun i (s : DS × (Nat → Int64) × MS) => (∃ gn, Dx s.1 (minN lo0 a i) gn lo0) ∧ mkeep s.2.2 = mkeep z ∧ Mx0 s.2.2 (minN lo0 a i) lo0 ∧ ∀ j, j ≤ i → s.2.1 j = nL (kyA (minN lo0 a j) 8) ∧ M_states s.2.2 (2 * j) = nL (n1A (minN lo0 a j) 8) ∧ M_states s.2.2 (2 * j + 1) = nL (n2A (minN lo0 a j) 8)) (fun k k' i s => ∃ (q : Int32 × DS × (Nat → Int64)) (w' : Int32 × MS), k (K_now S) s.1 s.2.1 (nI (i + 1)) = some q ∧ k' s.2.2 (nI (i + 1)) = some w' ∧ q.1 = w'.1 ∧ mkeep w'.2 = mkeep z) ?_ ?_ N 0 (d0, vp_updL (K_ends S) 0 (nL (kyA a 8)), w1) (by omega) (by omega) ⟨⟨_, b2⟩, n2.trans (b4.trans e3), b5.sc n2 n3, ?_⟩
      · intro k k' s ⟨_, p2, _, _⟩
        refine ⟨(-6, s.1, s.2.1), (-6, s.2.2), ?_, ?_, rfl, p2⟩
        · unfold X8_round_B41; rw [if_pos (by decide)]
        · unfold X9_round_B21; rw [if_pos (by decide)]
      · intro k k' i ⟨d, en, y⟩ hi ⟨⟨gn, p1⟩, p2, p3, p4⟩ hk
        have p1 : Dx d (minN lo0 a i) gn lo0 := p1
        have p2 : mkeep y = mkeep z := p2
        have p3 : Mx0 y (minN lo0 a i) lo0 := p3
        have p4 : ∀ j, j ≤ i → en j = nL (kyA (minN lo0 a j) 8) ∧ M_states y (2 * j) = nL (n1A (minN lo0 a j) 8) ∧ M_states y (2 * j + 1) = nL (n2A (minN lo0 a j) 8) := p4
        obtain ⟨d1, gn1, f1, f2⟩ := minute_spec (Inv_minN hI lo0 i) (Lo0 _) p1
        have f2 : Dx d1 (minN lo0 a (i + 1)) gn1 lo0 := f2
        obtain ⟨y1, gn2, g1, g2, g3⟩ := pass_spec (Inv_minN hI lo0 i) (Lo0 _) p3
        have g3 : Mx y1 (minN lo0 a (i + 1)) gn2 lo0 := g3
        have g4 : M_states y1 = M_states y := congrArg (fun m => m.2.2.1) (pass_rest g1)
        obtain ⟨y2, m1, m2, m3, m4⟩ := note_spec (Inv_minN hI lo0 (i + 1)) g3.1 (m := i + 1) (by omega)
        have hJ : Inv (minN lo0 a (i + 1)) := Inv_minN hI lo0 (i + 1)
        have hall : ∀ j, j ≤ i + 1 → vp_updL en (i + 1) (nL (kyA (minN lo0 a (i + 1)) 8)) j = nL (kyA (minN lo0 a j) 8) ∧ M_states y2 (2 * j) = nL (n1A (minN lo0 a j) 8) ∧ M_states y2 (2 * j + 1) = nL (n2A (minN lo0 a j) 8) := by
          intro j hj
          rw [m4, g4]
          unfold vp_updL
          by_cases q : j = i + 1
          · subst q
            refine ⟨by rw [if_pos rfl], ?_, by rw [if_pos rfl]⟩
            rw [if_neg (by omega), if_pos rfl]
          · obtain ⟨r1, r2, r3⟩ := p4 j (by omega)
            refine ⟨by rw [if_neg q]; exact r1, ?_, ?_⟩
            · rw [if_neg (by omega), if_neg (by omega)]; exact r2
            · rw [if_neg (by omega), if_neg (by omega)]; exact r3
        obtain ⟨en1, hen1⟩ : ∃ x, x = vp_updL en (i + 1) (nL (kyA (minN lo0 a (i + 1)) 8)) := ⟨_, rfl⟩
        rw [← hen1] at hall
        have hkk : ∃ q w', k (K_now S) d1 en1 (nI (i + 1 + 1)) = some q ∧ k' y2 (nI (i + 1 + 1)) = some w' ∧ q.1 = w'.1 ∧ mkeep w'.2 = mkeep z := hk (d1, en1, y2) ⟨⟨gn1, f2⟩, m2.trans (g2.trans p2), g3.to0.sc m2 m3, hall⟩
        show ∃ q w', X8_round_B41 k (K_now S) d en (nI (i + 1)) = some q ∧ X9_round_B21 k' y (nI (i + 1)) = some w' ∧ _
        unfold X8_round_B41 X9_round_B21
        rw [if_neg (show ¬ (99 : Int32) < nI (i + 1) from nI_nlt (a := 99) (by omega) (by omega)), if_neg (show ¬ (100 : Int32) ≤ nI (i + 1) from nlit (b := 100) (by decide) (by omega)), f1, g1, Option.bind_some, Option.bind_some]
        show ∃ q w', ((f_X1_key (D_house d1)).bind _ = _) ∧ ((f_X9_note y1 (nI (i + 1))).bind _ = _) ∧ _
        rw [ckey_spec hJ f2.1, m1, Option.bind_some, Option.bind_some, chk_nI (by omega) (by decide), ltA_eq, nI_clamp (by omega), ← hen1]
        show ∃ q w', (it (X8_round_B73 k) (fun _ _ _ _ _ => none) FU (K_now S) d1 en1 (nI (i + 1)) (nI 0) = some q) ∧ (it (X9_round_B39 k') (fun _ _ _ => none) FU y2 (nI (i + 1)) (nI 0) = some w') ∧ _
        rw [hFU]
        refine it_rule2 (bot := fun _ _ _ _ _ => none) (bot2 := fun _ _ _ => none) (i + 1) (fun _ (_ : Unit) => True) (fun kk kk' j _ => ∃ (q : Int32 × DS × (Nat → Int64)) (w' : Int32 × MS), kk (K_now S) d1 en1 (nI (i + 1)) (nI j) = some q ∧ kk' y2 (nI (i + 1)) (nI j) = some w' ∧ q.1 = w'.1 ∧ mkeep w'.2 = mkeep z) ?_ ?_ N 0 () (by omega) (by omega) trivial
        · intro kk kk' _ _
          unfold X8_round_B73 X9_round_B39
          rw [if_pos (Int32.le_refl _), if_pos (Int32.le_refl _), nI_1]
          exact hkk
        · intro kk kk' j _ hj _ hk2
          have hk2 := hk2 () trivial
          obtain ⟨r1, r2, r3⟩ := hall j (by omega)
          obtain ⟨t1, t2, t3⟩ := hall (i + 1) (Nat.le_refl _)
          have hj' := Inv_minN hI lo0 j
          have ky := note_iff hI hj
          have el : ∀ b : AS, Inv b → kyA b 8 < 2 ^ 63 ∧ n1A b 8 < 2 ^ 63 ∧ n2A b 8 < 2 ^ 63 := fun b hb => ⟨Nat.lt_of_lt_of_le (ky_lt hb 8 (Nat.le_refl _)) (by decide), Nat.lt_of_lt_of_le (n1_lt hb 8 (Nat.le_refl _)) (by decide), Nat.lt_of_lt_of_le (n2_lt hb 8 (Nat.le_refl _)) (by decide)⟩
          obtain ⟨u1, u2, u3⟩ := el _ hj'
          obtain ⟨v1, v2, v3⟩ := el _ hJ
          have eK : (lg_cmp (nL (kyA (minN lo0 a j) 8)) (nL (kyA (minN lo0 a (i + 1)) 8)) = 0) ↔ kyA (minN lo0 a j) 8 = kyA (minN lo0 a (i + 1)) 8 := (lcmp_0 _ _).trans ⟨nL_inj u1 v1, fun h => by rw [h]⟩
          have e1' : (lg_cmp (nL (n1A (minN lo0 a j) 8)) (nL (n1A (minN lo0 a (i + 1)) 8)) = 0) ↔ n1A (minN lo0 a j) 8 = n1A (minN lo0 a (i + 1)) 8 := (lcmp_0 _ _).trans ⟨nL_inj u2 v2, fun h => by rw [h]⟩
          have e2' : (lg_cmp (nL (n2A (minN lo0 a j) 8)) (nL (n2A (minN lo0 a (i + 1)) 8)) = 0) ↔ n2A (minN lo0 a j) 8 = n2A (minN lo0 a (i + 1)) 8 := (lcmp_0 _ _).trans ⟨nL_inj u3 v3, fun h => by rw [h]⟩
          unfold X8_round_B73 X9_round_B39 X9_round_J92
          rw [if_neg (nI_ge hj (by omega)), if_neg (nI_ge hj (by omega)), show (2 : Int32) * nI j = nI (2 * j) from pk_mul 2 j, show (2 : Int32) * nI (i + 1) = nI (2 * (i + 1)) from pk_mul 2 (i + 1), nI_1, nI_1, nI_1]
          simp only [chk_nI (show j < 100 by omega) (show 100 < 2 ^ 31 by decide), chk_nI (show i + 1 < 100 by omega) (show 100 < 2 ^ 31 by decide), chk_nI (show 2 * j < 200 by omega) (show 200 < 2 ^ 31 by decide), chk_nI (show 2 * (i + 1) < 200 by omega) (show 200 < 2 ^ 31 by decide), chk_nI (show 2 * j + 1 < 200 by omega) (show 200 < 2 ^ 31 by decide), chk_nI (show 2 * (i + 1) + 1 < 200 by omega) (show 200 < 2 ^ 31 by decide)]
          rw [nI_clamp (show j < 2 ^ 31 by omega), nI_clamp (show i + 1 < 2 ^ 31 by omega), nI_clamp (show 2 * j < 2 ^ 31 by omega), nI_clamp (show 2 * (i + 1) < 2 ^ 31 by omega), nI_clamp (show 2 * j + 1 < 2 ^ 31 by omega), nI_clamp (show 2 * (i + 1) + 1 < 2 ^ 31 by omega), r1, r2, r3, t1, t2, t3]
          by_cases q1 : n1A (minN lo0 a j) 8 = n1A (minN lo0 a (i + 1)) 8
          · rw [if_pos (e1'.mpr q1)]
            by_cases q2 : n2A (minN lo0 a j) 8 = n2A (minN lo0 a (i + 1)) 8
            · rw [if_pos (e2'.mpr q2), if_pos (eK.mpr (ky.mpr ⟨q1, q2⟩))]
              exact ⟨_, _, rfl, rfl, rfl, m2.trans (g2.trans p2)⟩
            · rw [if_neg (fun h => q2 (e2'.mp h)), if_neg (fun h => q2 (ky.mp (eK.mp h)).2)]
              exact hk2
          · rw [if_neg (fun h => q1 (e1'.mp h)), if_neg (fun h => q1 (ky.mp (eK.mp h)).1)]
            exact hk2
      · intro j hj
        obtain rfl : j = 0 := by omega
        refine ⟨rfl, ?_, ?_⟩
        · show M_states w1 0 = _
          rw [n4]; rfl
        · show M_states w1 1 = _
          rw [n4]; rfl
    obtain ⟨q, w', k1, k2, k3, k4⟩ := key
    refine ⟨q, w', ?_, ?_, k3, h.to rfl k4⟩
    · unfold f_X8_round
      rw [e1, Option.bind_some, if_pos c]
      show (f_X0_begin d' (K_now S)).bind _ = _
      rw [b1, Option.bind_some, ckey_spec hI b2.1, Option.bind_some, show (0 : Int32) = nI 0 from rfl, chk_nI (by decide) (by decide), ltA_eq]
      exact k1
    · unfold f_X9_round
      rw [e2, Option.bind_some, if_pos (show fsA a 99 0 < 0 by rw [c]; decide)]
      show (f_X9_asNow w).bind _ = _
      rw [b3, Option.bind_some, show (0 : Int32) = nI 0 from rfl, n1, Option.bind_some]
      exact k2
  · refine ⟨(-6, d', K_ends S), (-6, w), ?_, ?_, rfl, h.to rfl e3⟩
    · unfold f_X8_round
      rw [e1, Option.bind_some, if_neg c]
    · unfold f_X9_round
      rw [e2, Option.bind_some, if_neg (show ¬ fsA a 99 0 < 0 from (fsA_nn a 99 0 (by decide)).resolve_left c)]
end
/-! 98g.gcd -/
section
/-! the greatest shared measure -/
theorem nL_toInt {a : Nat} (h : a < 2 ^ 63) : (nL a).toInt = (a : Int) := Int64.toInt_ofNat_of_lt h
theorem nL_div {a b : Nat} (ha : a < 2 ^ 63) (hb : b < 2 ^ 63) : nL a / nL b = nL (a / b) := by
  apply Int64.toInt_inj.mp
  have h : a / b < 2 ^ 63 := Nat.lt_of_le_of_lt (Nat.div_le_self _ _) ha
  rw [Int64.toInt_div, nL_toInt ha, nL_toInt hb, nL_toInt h, ← Int.ofNat_tdiv]
  obtain ⟨q, hq⟩ : ∃ q, q = a / b := ⟨_, rfl⟩
  rw [← hq] at h ⊢
  exact Int.bmod_eq_of_le (by omega) (by omega)
theorem nL_sub {a b : Nat} (h : b ≤ a) : nL a - nL b = nL (a - b) := by
  have : nL (a - b) + nL b = nL a := by rw [nL_add, Nat.sub_add_cancel h]
  rw [← this]
  apply Int64.toBitVec_inj.mp
  rw [Int64.toBitVec_sub, Int64.toBitVec_add]
  exact BitVec.add_sub_cancel _ _
theorem nL_mod {a b : Nat} (ha : a < 2 ^ 63) (hb : b < 2 ^ 63) : nL a - nL a / nL b * nL b = nL (a % b) := by
  rw [nL_div ha hb, nL_mul, nL_sub (Nat.div_mul_le_self a b)]
  congr 1
  have := Nat.div_add_mod a b
  rw [Nat.mul_comm] at this
  omega
theorem nL_0 {a : Nat} (h : a < 2 ^ 63) : nL a = 0 ↔ a = 0 := ⟨fun e => nL_inj h (by decide) e, fun e => by rw [e]; rfl⟩
theorem nL_c0 {a : Nat} (h : a < 2 ^ 63) : (lg_cmp (nL a) 0 = 0) ↔ a = 0 := (lcmp_0 _ _).trans (nL_0 h)
theorem eu_half {a b j : Nat} (h0 : 0 < b) (hle : b ≤ a) (h : a * b < 2 ^ (j + 1)) : b * (a % b) < 2 ^ j := by
  have h1 : a % b < b := Nat.mod_lt _ h0
  have h2 : 2 * (a % b) ≤ a := by
    have := Nat.div_add_mod a b
    have h3 : 1 ≤ a / b := Nat.div_pos hle h0
    have h4 : b * 1 ≤ b * (a / b) := Nat.mul_le_mul_left b h3
    omega
  have h5 : b * (2 * (a % b)) ≤ b * a := Nat.mul_le_mul_left b h2
  rw [Nat.pow_succ] at h
  have e1 : b * (2 * (a % b)) = 2 * (b * (a % b)) := by rw [← Nat.mul_assoc, Nat.mul_comm b 2, Nat.mul_assoc]
  rw [e1, Nat.mul_comm b a] at h5
  omega
theorem eu_0 {a b : Nat} (hle : b ≤ a) (h : a * b < 2 ^ 0) : b = 0 := by
  cases b with
  | zero => rfl
  | succ b =>
    have : 1 * 1 ≤ a * (b + 1) := Nat.mul_le_mul (by omega) (by omega)
    omega
/-- the class' shared measure: j + 1 steps are enough -/
theorem cgcd (sg : SS) : ∀ j n N a b : Nat, j < N → n + j < 1000 → a < 2 ^ 63 → b ≤ a → 0 < a → a * b < 2 ^ j → it X6_shared_B16 (fun _ _ _ _ => none) N sg (nL a) (nL b) (nI n) = some (nL (Nat.gcd a b))
  | j, n, 0, _, _, h, _, _, _, _, _ => absurd h (Nat.not_lt_zero _)
  | j, n, N + 1, a, b, hN, hn, ha, hle, h0, h => by
    obtain ⟨k, hk⟩ : ∃ k, k = it X6_shared_B16 (fun _ _ _ _ => none) N := ⟨_, rfl⟩
    show X6_shared_B16 (it X6_shared_B16 (fun _ _ _ _ => none) N) sg (nL a) (nL b) (nI n) = _
    rw [← hk]
    unfold X6_shared_B16 X6_shared_J50
    have hb : b < 2 ^ 63 := by omega
    rw [if_neg (show ¬ (1000 : Int32) ≤ nI n from nlit (b := 1000) (by decide) (by omega))]
    by_cases c : b = 0
    · rw [if_pos ((nL_c0 hb).mpr c), if_neg (fun q => by have := (nL_c0 ha).mp q; omega), c, Nat.gcd_zero_right]
    · rw [if_neg (fun q => c ((nL_c0 hb).mp q)), nzl_ok (fun q => c ((nL_0 hb).mp q)), nL_mod ha hb, nI_1]
      cases j with
      | zero => exact absurd (eu_0 hle h) c
      | succ j =>
        rw [hk, cgcd sg j (n + 1) N b (a % b) (by omega) (by omega) hb (Nat.le_of_lt (Nat.mod_lt _ (by omega))) (by omega) (eu_half (by omega) hle h)]
        rw [Nat.gcd_comm a b, Nat.gcd_rec b a, Nat.gcd_comm]
/-- the reference's -/
theorem rgcd (w : MS) (r p : Int32) (lw : Int64) {v : Option (Int64 × MS)} (g : Nat) (hv : (if p = 0 then (chk r 6 (nzl (nL g) (some (M_chances w r.toNatClampNeg / nL g, w)))) else (nzl (nL g) (some (lw / nL g, w)))) = v) : ∀ j N a b : Nat, j < N → a < 2 ^ 63 → b ≤ a → a * b < 2 ^ j → Nat.gcd a b = g → it X9_drunk_B353 (fun _ _ _ _ _ _ => none) N w r p lw (nL a) (nL b) = v
  | j, 0, _, _, h, _, _, _, _ => absurd h (Nat.not_lt_zero _)
  | j, N + 1, a, b, hN, ha, hle, h, hg => by
    obtain ⟨k, hk⟩ : ∃ k, k = it X9_drunk_B353 (fun _ _ _ _ _ _ => none) N := ⟨_, rfl⟩
    show X9_drunk_B353 (it X9_drunk_B353 (fun _ _ _ _ _ _ => none) N) w r p lw (nL a) (nL b) = _
    rw [← hk]
    unfold X9_drunk_B353
    have hb : b < 2 ^ 63 := by omega
    by_cases c : b = 0
    · rw [if_pos ((nL_c0 hb).mpr c)]
      rw [c, Nat.gcd_zero_right] at hg
      rw [hg]; exact hv
    · rw [if_neg (fun q => c ((nL_c0 hb).mp q)), nzl_ok (fun q => c ((nL_0 hb).mp q)), nL_mod ha hb]
      cases j with
      | zero => exact absurd (eu_0 hle h) c
      | succ j =>
        rw [hk]
        exact rgcd w r p lw g hv j N b (a % b) (by omega) hb (Nat.le_of_lt (Nat.mod_lt _ (by omega))) (eu_half (by omega) hle h) (by rw [← hg, Nat.gcd_comm a b, Nat.gcd_rec b a, Nat.gcd_comm])
/-- both end alike, and give what they must -/
theorem ends_alike {sg : SS} {w : MS} {r x y : Nat} (hr : r < 6) (hx : x ≤ y) (h0 : 0 < y) (hy : y < 2 ^ 63) (e1 : S_whole sg = nL y) (e2 : S_chance sg r = nL x) (e3 : M_chances w r = nL x) (p : Int32) : ∃ v, (if p = 0 then f_X6_upper sg (nI r) else f_X6_lower sg (nI r)) = some v ∧ it X9_drunk_B353 (fun _ _ _ _ _ _ => none) FU w (nI r) p (nL y) (nL x) (nL y) = some (v, w) := by
  obtain ⟨N, hN, hFU⟩ := FU_ex
  have hxy : y * x < 2 ^ 126 := Nat.lt_of_le_of_lt (Nat.mul_le_mul_left y hx) (Nat.lt_of_lt_of_le (Nat.mul_lt_mul_of_lt_of_le hy (Nat.le_of_lt hy) (by decide)) (by decide))
  have hs : f_X6_shared sg (nI r) = some (nL (Nat.gcd y x)) := by
    unfold f_X6_shared
    rw [chk_nI hr (by decide), nI_clamp (by omega), e1, e2, hFU]
    exact cgcd sg 126 0 N y x (by omega) (by decide) hy hx h0 hxy
  have hg0 : 0 < Nat.gcd y x := Nat.gcd_pos_of_pos_left _ h0
  have hgl : Nat.gcd y x < 2 ^ 63 := Nat.lt_of_le_of_lt (Nat.gcd_le_left _ h0) hy
  have hgn : ¬ nL (Nat.gcd y x) = 0 := fun q => by have := (nL_0 hgl).mp q; omega
  refine ⟨if p = 0 then nL x / nL (Nat.gcd y x) else nL y / nL (Nat.gcd y x), ?_, ?_⟩
  · unfold f_X6_upper f_X6_lower
    rw [hs, Option.bind_some, Option.bind_some, chk_nI hr (by decide), nzl_ok hgn, nzl_ok hgn, nI_clamp (by omega), e1, e2]
    split <;> rfl
  · rw [hFU]
    obtain ⟨N, rfl⟩ : ∃ M, N = M + 1 := ⟨N - 1, by omega⟩
    obtain ⟨k, hk⟩ : ∃ k, k = it X9_drunk_B353 (fun _ _ _ _ _ _ => none) N := ⟨_, rfl⟩
    show X9_drunk_B353 (it X9_drunk_B353 (fun _ _ _ _ _ _ => none) N) w (nI r) p (nL y) (nL x) (nL y) = _
    rw [← hk]
    unfold X9_drunk_B353
    rw [if_neg (fun q => by have := (nL_c0 hy).mp q; omega), nzl_ok (fun q => by have := (nL_0 hy).mp q; omega), nL_mod (by omega) hy]
    have hm : x % y ≤ y := Nat.le_of_lt (Nat.mod_lt _ h0)
    rw [hk]
    refine rgcd w (nI r) p (nL y) (Nat.gcd y x) ?_ 126 N y (x % y) (by omega) hy hm (Nat.lt_of_le_of_lt (Nat.mul_le_mul_left y (Nat.mod_le x y)) hxy) ?_
    · rw [chk_nI hr (by decide), nzl_ok hgn, nzl_ok hgn, nI_clamp (by omega), e3]
      split <;> rfl
    · rw [Nat.gcd_comm y (x % y), ← Nat.gcd_rec]
end
/-! 98h.stag -/
section
/-! one who is drunk: the chances as plain numbers -/
/-- doors of room q among the first n rooms -/
def dzA (b : AS) (q : Nat) : Nat → Nat
  | 0 => 0
  | n + 1 => dzA b q n + (if 0 < a_wd b q n then 1 else 0)
theorem dz_le (b : AS) (q : Nat) : ∀ n, dzA b q n ≤ n
  | 0 => Nat.le_refl _
  | n + 1 => by
    have := dz_le b q n
    show dzA b q n + (if 0 < a_wd b q n then 1 else 0) ≤ n + 1
    split <;> omega
theorem dz_no {b : AS} {q : Nat} : ∀ n, dzA b q n = 0 → ∀ r, r < n → ¬ 0 < a_wd b q r
  | 0, _, r, hr => absurd hr (Nat.not_lt_zero _)
  | n + 1, h, r, hr => by
    have h : dzA b q n + (if 0 < a_wd b q n then 1 else 0) = 0 := h
    by_cases c : 0 < a_wd b q n
    · rw [if_pos c] at h; omega
    · by_cases e : r = n
      · rw [e]; exact c
      · exact dz_no n (by omega) r (by omega)
/-- through one door -/
def thr (b : AS) (c q : Nat) : Nat := 60 * (10 - c) / dzA b q (a_R b)
/-- who stays -/
def sty (b : AS) (c q : Nat) : Nat := if dzA b q (a_R b) = 0 then 600 else 60 * c
/-- what room q gives to room r, of the first n rooms -/
def cbI (b : AS) (c : Nat) (ch : Nat → Nat) (q n r : Nat) : Nat := (if r = q then ch q * sty b c q else 0) + (if r < n ∧ 0 < a_wd b q r then ch q * thr b c q else 0)
def cbA (b : AS) (c : Nat) (ch : Nat → Nat) (q r : Nat) : Nat := cbI b c ch q (a_R b) r
def nxA (b : AS) (c : Nat) (ch : Nat → Nat) : Nat → Nat → Nat
  | 0 => fun _ => 0
  | q + 1 => fun r => nxA b c ch q r + cbA b c ch q r
def chA (b : AS) (g c : Nat) : Nat → Nat → Nat
  | 0 => fun r => if r = a_pl b g then 1 else 0
  | m + 1 => nxA b c (chA b g c m) (a_R b)
def smA (f : Nat → Nat) : Nat → Nat
  | 0 => 0
  | n + 1 => smA f n + f n
theorem sm_mem (f : Nat → Nat) : ∀ n r, r < n → f r ≤ smA f n
  | 0, r, h => absurd h (Nat.not_lt_zero _)
  | n + 1, r, h => by
    show f r ≤ smA f n + f n
    by_cases e : r = n
    · rw [e]; omega
    · have := sm_mem f n r (by omega); omega
theorem sm_add (f g : Nat → Nat) : ∀ n, smA (fun r => f r + g r) n = smA f n + smA g n
  | 0 => rfl
  | n + 1 => by
    show smA (fun r => f r + g r) n + (f n + g n) = (smA f n + f n) + (smA g n + g n)
    rw [sm_add f g n]; omega
theorem sm_zero : ∀ n, smA (fun _ => 0) n = 0
  | 0 => rfl
  | n + 1 => by show smA (fun _ => 0) n + 0 = 0; rw [sm_zero n]
theorem sm_mono (f : Nat → Nat) {k : Nat} : ∀ n, k ≤ n → smA f k ≤ smA f n
  | 0, h => by rw [show k = 0 by omega]; exact Nat.le_refl _
  | n + 1, h => by
    by_cases e : k = n + 1
    · rw [e]; exact Nat.le_refl _
    · have := sm_mono f (k := k) n (by omega)
      show smA f k ≤ smA f n + f n
      omega
theorem sm_one (q X : Nat) : ∀ n, smA (fun r => if r = q then X else 0) n ≤ X ∧ (n ≤ q → smA (fun r => if r = q then X else 0) n = 0)
  | 0 => ⟨Nat.zero_le _, fun _ => rfl⟩
  | n + 1 => by
    obtain ⟨h1, h2⟩ := sm_one q X n
    show smA (fun r => if r = q then X else 0) n + (if n = q then X else 0) ≤ X ∧ (n + 1 ≤ q → smA (fun r => if r = q then X else 0) n + (if n = q then X else 0) = 0)
    by_cases e : n = q
    · rw [if_pos e, h2 (by omega)]; exact ⟨by omega, fun _ => by omega⟩
    · rw [if_neg e]; exact ⟨by omega, fun h => by rw [h2 (by omega)]⟩
theorem dz_mono (b : AS) (q : Nat) {k : Nat} : ∀ n, k ≤ n → dzA b q k ≤ dzA b q n
  | 0, h => by rw [show k = 0 by omega]; exact Nat.le_refl _
  | n + 1, h => by
    by_cases e : k = n + 1
    · rw [e]; exact Nat.le_refl _
    · have := dz_mono b q (k := k) n (by omega)
      show dzA b q k ≤ dzA b q n + (if 0 < a_wd b q n then 1 else 0)
      omega
theorem sm_dz (b : AS) (q R Y : Nat) : ∀ n, smA (fun r => if r < R ∧ 0 < a_wd b q r then Y else 0) n ≤ dzA b q R * Y ∧ (n ≤ R → smA (fun r => if r < R ∧ 0 < a_wd b q r then Y else 0) n = dzA b q n * Y)
  | 0 => ⟨Nat.zero_le _, fun _ => (Nat.zero_mul Y).symm⟩
  | n + 1 => by
    obtain ⟨h1, h2⟩ := sm_dz b q R Y n
    have e : smA (fun r => if r < R ∧ 0 < a_wd b q r then Y else 0) (n + 1) = smA (fun r => if r < R ∧ 0 < a_wd b q r then Y else 0) n + (if n < R ∧ 0 < a_wd b q n then Y else 0) := rfl
    by_cases c : n < R
    · have e2 : smA (fun r => if r < R ∧ 0 < a_wd b q r then Y else 0) (n + 1) = dzA b q (n + 1) * Y := by
        rw [e, h2 (by omega)]
        show _ = (dzA b q n + (if 0 < a_wd b q n then 1 else 0)) * Y
        by_cases d : 0 < a_wd b q n
        · rw [if_pos ⟨c, d⟩, if_pos d, Nat.add_mul, Nat.one_mul]
        · rw [if_neg (fun h => d h.2), if_neg d, Nat.add_zero, Nat.add_zero]
      refine ⟨?_, fun _ => e2⟩
      rw [e2]
      refine Nat.mul_le_mul_right Y ?_
      exact dz_mono b q _ (by omega)
    · rw [e, if_neg (fun h => c h.1), Nat.add_zero]
      exact ⟨h1, fun h => by omega⟩
theorem cb_sum {b : AS} {c : Nat} (hc : c ≤ 10) (ch : Nat → Nat) (q : Nat) : smA (cbA b c ch q) 6 ≤ 600 * ch q := by
  have e : cbA b c ch q = fun r => (if r = q then ch q * sty b c q else 0) + (if r < a_R b ∧ 0 < a_wd b q r then ch q * thr b c q else 0) := rfl
  rw [e, sm_add (fun r => if r = q then ch q * sty b c q else 0) (fun r => if r < a_R b ∧ 0 < a_wd b q r then ch q * thr b c q else 0) 6]
  have h1 := (sm_one q (ch q * sty b c q) 6).1
  have h2 := (sm_dz b q (a_R b) (ch q * thr b c q) 6).1
  have h3 : dzA b q (a_R b) * (ch q * thr b c q) = ch q * (dzA b q (a_R b) * thr b c q) := by
    rw [← Nat.mul_assoc, Nat.mul_comm (dzA b q (a_R b)) (ch q), Nat.mul_assoc]
  have h4 : sty b c q + dzA b q (a_R b) * thr b c q ≤ 600 := by
    unfold sty thr
    by_cases d : dzA b q (a_R b) = 0
    · rw [if_pos d, d]; omega
    · rw [if_neg d]
      have := Nat.mul_div_le (60 * (10 - c)) (dzA b q (a_R b))
      omega
  have h5 : ch q * (sty b c q + dzA b q (a_R b) * thr b c q) ≤ ch q * 600 := Nat.mul_le_mul_left _ h4
  rw [Nat.mul_add] at h5
  omega
theorem nx_sum {b : AS} {c : Nat} (hc : c ≤ 10) (ch : Nat → Nat) : ∀ n, smA (nxA b c ch n) 6 ≤ 600 * smA ch n
  | 0 => by show smA (fun _ => 0) 6 ≤ _; rw [sm_zero]; exact Nat.zero_le _
  | q + 1 => by
    show smA (fun r => nxA b c ch q r + cbA b c ch q r) 6 ≤ 600 * (smA ch q + ch q)
    rw [sm_add]
    have h1 := nx_sum hc ch q (b := b)
    have h2 := cb_sum hc ch q (b := b)
    omega
theorem ch_sum {b : AS} (hI : Inv b) {g c : Nat} (hc : c ≤ 10) : ∀ m, smA (chA b g c m) 6 ≤ 600 ^ m
  | 0 => (sm_one (a_pl b g) 1 6).1
  | m + 1 => by
    have h1 := nx_sum hc (chA b g c m) (a_R b) (b := b)
    have h2 := sm_mono (chA b g c m) 6 hI.1.2.1
    have h3 := ch_sum hI hc m (g := g)
    show smA (nxA b c (chA b g c m) (a_R b)) 6 ≤ _
    rw [Nat.pow_succ]
    omega
theorem ch_le {b : AS} (hI : Inv b) {g c : Nat} (hc : c ≤ 10) (m : Nat) {r : Nat} (hr : r < 6) : chA b g c m r ≤ 600 ^ m := Nat.le_trans (sm_mem _ 6 r hr) (ch_sum hI hc m)
set_option maxRecDepth 100000 in
theorem dv_dec : ∀ d : Fin 7, ∀ c : Fin 11, d.val ≠ 0 → (60 / d.val) * (10 - c.val) = 60 * (10 - c.val) / d.val := by decide +kernel
/-! the class' walk -/
theorem cdoors {b : AS} {h : HS} (hI : Inv b) (hH : Hc h b) {q : Nat} (hq : q < 6) {c : Int32} {sg : SS} {v : Option SS} (hv : (if nI (dzA b q (a_R b)) = 0 then (chk (nI q) 6 (chk (nI q) 6 (chk (nI q) 6 (ltA (vp_updL (S_next sg) (nI q).toNatClampNeg (((S_next sg) (nI q).toNatClampNeg) + ((((S_chance sg) (nI q).toNatClampNeg) * (60 : Int64)) * (10 : Int64)))) fun f68 => (some ((S_set_next sg f68))))))) else (chk (nI q) 6 (chk (nI q) 6 (chk (nI q) 6 (ltA (vp_updL (S_next sg) (nI q).toNatClampNeg (((S_next sg) (nI q).toNatClampNeg) + ((((S_chance sg) (nI q).toNatClampNeg) * (60 : Int64)) * (c).toInt64))) fun f91 => (it X6_spread_B95 (fun _ _ _ _ _ _ => none) FU (S_set_next sg f91) h (nI q) c (nI (dzA b q (a_R b))) (0 : Int32))))))) = v) : f_X6_spread sg h (nI q) c = v := by
  obtain ⟨N, hN, hFU⟩ := FU_ex
  have hR := hI.1.2.1
  unfold f_X6_spread
  rw [hFU]
  rw [hFU] at hv
  refine it_rule (bot := fun _ _ _ _ _ _ => none) (a_R b) (fun i (_ : Unit) => True) (fun k i _ => k sg h (nI q) c (nI (dzA b q i)) (nI i) = v) ?_ ?_ N 0 () (by omega) (by omega) trivial
  · intro k _ _
    unfold X6_spread_B6
    rw [hH.1, if_pos (Int32.le_refl _), hFU]
    exact hv
  · intro k i _ hi _ hk
    have hk := hk () trivial
    have hk : k sg h (nI q) c (nI (dzA b q i + (if 0 < a_wd b q i then 1 else 0))) (nI (i + 1)) = v := hk
    have hw := (hI.2.2.1 q i hq (by omega)).1
    unfold X6_spread_B6 X6_spread_J32
    rw [hH.1, if_neg (nI_ge hi (by omega)), width_spec hH hq (by omega), Option.bind_some, nI_1]
    by_cases d : 0 < a_wd b q i
    · rw [if_pos d] at hk
      rw [if_neg (show ¬ nI (a_wd b q i) ≤ (0 : Int32) from nI_nle d (by omega)), nI_1]
      exact hk
    · rw [if_neg d] at hk
      rw [if_pos (show nI (a_wd b q i) ≤ (0 : Int32) from nI_le (b := 0) (by omega) (by decide)), show nI (dzA b q i) + 0 = nI (dzA b q i + 0) from nI_add _ 0]
      exact hk
end
