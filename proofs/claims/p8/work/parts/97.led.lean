/-! led -/
theorem nI_bv (a : Nat) : (nI a).toBitVec = BitVec.ofNat 32 a := rfl
theorem nI_or (a b : Nat) : nI a ||| nI b = nI (a ||| b) := by
  apply Int32.toBitVec_inj.mp
  rw [Int32.toBitVec_or, nI_bv, nI_bv, nI_bv]
  apply BitVec.eq_of_toNat_eq
  simp [BitVec.toNat_or, BitVec.toNat_ofNat, Nat.or_mod_two_pow]
theorem nI_and (a b : Nat) : nI a &&& nI b = nI (a &&& b) := by
  apply Int32.toBitVec_inj.mp
  rw [Int32.toBitVec_and, nI_bv, nI_bv, nI_bv]
  apply BitVec.eq_of_toNat_eq
  simp [BitVec.toNat_and, BitVec.toNat_ofNat, Nat.and_mod_two_pow]
theorem nI_xor (a b : Nat) : nI a ^^^ nI b = nI (a ^^^ b) := by
  apply Int32.toBitVec_inj.mp
  rw [Int32.toBitVec_xor, nI_bv, nI_bv, nI_bv]
  apply BitVec.eq_of_toNat_eq
  simp [BitVec.toNat_xor, BitVec.toNat_ofNat, Nat.xor_mod_two_pow]
theorem sub_1 {s T : Nat} (hs : s < 256) : (nI s &&& (nI T ^^^ (-1 : Int32)) = 0 ↔ s &&& T = s) := by
  rw [show (-1 : Int32) = nI 4294967295 from by decide, nI_xor, nI_and]
  have e8 : ∀ j, j < 8 → Nat.testBit 4294967295 j = true := by decide
  have lt : s &&& (T ^^^ 4294967295) < 2 ^ 31 := Nat.lt_of_le_of_lt Nat.and_le_left (by omega)
  have h0 : (nI (s &&& (T ^^^ 4294967295)) = 0) ↔ s &&& (T ^^^ 4294967295) = 0 := nI_eq lt (b := 0) (by decide)
  rw [h0]
  have big : ∀ j, 8 ≤ j → s.testBit j = false := fun j q => Nat.testBit_lt_two_pow (Nat.lt_of_lt_of_le hs (show 2 ^ 8 ≤ 2 ^ j from Nat.pow_le_pow_right (by decide) q))
  constructor
  · intro h
    apply Nat.eq_of_testBit_eq
    intro j
    rw [Nat.testBit_and]
    rcases Nat.lt_or_ge j 8 with q | q
    · have := congrArg (fun x => Nat.testBit x j) h
      simp only [Nat.testBit_and, Nat.testBit_xor, e8 j q, Nat.zero_testBit] at this
      cases e : s.testBit j <;> cases e2 : T.testBit j <;> simp [e, e2] at this ⊢
    · rw [big j q]; rfl
  · intro h
    apply Nat.eq_of_testBit_eq
    intro j
    rw [Nat.testBit_and, Nat.testBit_xor, Nat.zero_testBit]
    rcases Nat.lt_or_ge j 8 with q | q
    · have := congrArg (fun x => Nat.testBit x j) h
      simp only [Nat.testBit_and] at this
      rw [e8 j q]
      cases e : s.testBit j <;> cases e2 : T.testBit j <;> simp [e, e2] at this ⊢
    · rw [big j q]; rfl
theorem or2 {s T : Nat} (hs : s < 256) (hT : T < 256) : nI s ||| nI T = nI (s ||| T) ∧ s ||| T < 256 := ⟨nI_or s T, Nat.or_lt_two_pow (n := 8) hs hT⟩
theorem Hc_setPl {h : HS} {a : AS} (hH : Hc h a) (i r : Nat) : Hc (H_set_place h (upd (H_place h) i (nI r))) (setPl a i r) := by
  obtain ⟨b1, b2, b3, b4, b5, b6, b7, b8⟩ := hH
  refine ⟨b1, b2, b3, b4, b5, fun j hj => ?_, b7, b8⟩
  simp only [sp_pl, sp_bs, sp_mt, sp_lf]
  refine ⟨?_, (b6 j hj).2⟩
  show upd (H_place h) i (nI r) j = _
  by_cases q : j = i
  · rw [if_pos q, q, pk_us]
  · rw [if_neg q, pk_un q]; exact (b6 j hj).1
theorem sub_bit {s T : Nat} (hs : s < 256) : s &&& T = s ↔ ∀ j, j < 8 → s.testBit j = true → T.testBit j = true := by
  constructor
  · intro h j _ hj
    have := Nat.testBit_and s T j
    rw [h, hj] at this
    simpa using this.symm
  · intro h
    apply Nat.eq_of_testBit_eq
    intro j
    rw [Nat.testBit_and]
    rcases Nat.lt_or_ge j 8 with q | q
    · cases e : s.testBit j
      · rfl
      · rw [h j q e]; rfl
    · rw [Nat.testBit_lt_two_pow (Nat.lt_of_lt_of_le hs (show 2 ^ 8 ≤ 2 ^ j from Nat.pow_le_pow_right (by decide) q))]; rfl
/-- who is idle, as bits -/
def idl (a : AS) : Nat := msk (fun g => a_is a g && a_bs a g == 0) 8
def pc (s : Nat) : Nat := cnt (fun j => s.testBit j) 8
theorem idle_spec {h : HS} {a : AS} (hI : Inv a) (hH : Hc h a) : f_X1_idle h = some (nI (idl a)) := by
  obtain ⟨N, hN, hFU⟩ := FU_ex
  unfold f_X1_idle idl
  rw [hFU]
  refine it_rule (bot := fun _ _ _ => none) 8 (fun i (x : Int32) => x = nI (msk (fun g => a_is a g && a_bs a g == 0) i)) (fun k i x => k h x (nI i) = some (nI (msk (fun g => a_is a g && a_bs a g == 0) 8))) ?_ ?_ N 0 0 (by omega) (by omega) rfl
  · intro k x hx
    unfold X1_idle_B4
    rw [if_pos (by decide), hx]
  · intro k i x hi hx hk
    have hb := bs_lt hI hi
    unfold X1_idle_B4 X1_idle_J33
    rw [if_neg (show ¬ (8 : Int32) ≤ nI i from nlit (by decide) hi), th_at hI hH hi, Option.bind_some, chk_nI hi (by decide), nI_clamp (by omega), (hH.2.2.2.2.2.1 i hi).2.1, nI_1]
    cases e : a_is a i
    · rw [if_pos (by decide)]
      refine hk x ?_
      rw [hx]
      conv => rhs; unfold msk
      rw [e]; rfl
    · rw [if_neg (by decide)]
      by_cases c : a_bs a i = 0
      · rw [if_pos (show nI (a_bs a i) = 0 by rw [c]; rfl)]
        refine hk _ ?_
        rw [hx, or_bit hi (msk_lt _ i)]
        conv => rhs; unfold msk
        rw [e, c]; simp
      · rw [if_neg (show ¬ nI (a_bs a i) = 0 from fun q => c ((nI_eq (by omega) (b := 0) (by decide)).mp q))]
        refine hk x ?_
        rw [hx]
        conv => rhs; unfold msk
        rw [e]; simp [c]
/-- those of s, of the first n, are led to r -/
def ldI (a : AS) (r s n : Nat) : AS := (a_R a, a_T a, a_k a, a_th a, a_sz a, a_ch a, a_wd a, a_lk a, (fun j => if j < n ∧ s.testBit j = true then r else a_pl a j), (fun j => if j < n ∧ s.testBit j = true then 2 else a_bs a j), (fun j => if j < n ∧ s.testBit j = true then -6 else a_mt a j), (fun j => if j < n ∧ s.testBit j = true then 0 else a_lf a j), a_sg a, a_sr a)
theorem ld_R (a : AS) (r s n : Nat) : a_R (ldI a r s n) = a_R a := rfl
theorem ld_T (a : AS) (r s n : Nat) : a_T (ldI a r s n) = a_T a := rfl
theorem ld_k (a : AS) (r s n : Nat) : a_k (ldI a r s n) = a_k a := rfl
theorem ld_th (a : AS) (r s n : Nat) : a_th (ldI a r s n) = a_th a := rfl
theorem ld_sz (a : AS) (r s n : Nat) : a_sz (ldI a r s n) = a_sz a := rfl
theorem ld_ch (a : AS) (r s n : Nat) : a_ch (ldI a r s n) = a_ch a := rfl
theorem ld_wd (a : AS) (r s n : Nat) : a_wd (ldI a r s n) = a_wd a := rfl
theorem ld_lk (a : AS) (r s n : Nat) : a_lk (ldI a r s n) = a_lk a := rfl
theorem ld_sg (a : AS) (r s n : Nat) : a_sg (ldI a r s n) = a_sg a := rfl
theorem ld_sr (a : AS) (r s n : Nat) : a_sr (ldI a r s n) = a_sr a := rfl
theorem ld_is (a : AS) (r s n j : Nat) : a_is (ldI a r s n) j = a_is a j := rfl
theorem ld_pl (a : AS) (r s n j : Nat) : a_pl (ldI a r s n) j = if j < n ∧ s.testBit j = true then r else a_pl a j := rfl
theorem ld_bs (a : AS) (r s n j : Nat) : a_bs (ldI a r s n) j = if j < n ∧ s.testBit j = true then 2 else a_bs a j := rfl
theorem ld_mt (a : AS) (r s n j : Nat) : a_mt (ldI a r s n) j = if j < n ∧ s.testBit j = true then -6 else a_mt a j := rfl
theorem ld_lf (a : AS) (r s n j : Nat) : a_lf (ldI a r s n) j = if j < n ∧ s.testBit j = true then 0 else a_lf a j := rfl
theorem ld_in (a : AS) (r s n q : Nat) : a_in (ldI a r s n) q = cnt (fun j => a_is a j && (if j < n ∧ s.testBit j = true then r else a_pl a j) == q) 8 := rfl
theorem idl_bit {a : AS} {s : Nat} (hs : s < 256) (h : s &&& idl a = s) {j : Nat} (hj : j < 8) (hb : s.testBit j = true) : a_is a j = true ∧ a_bs a j = 0 := by
  have := (sub_bit hs).mp h j hj hb
  unfold idl at this
  rw [msk_bit _ 8 j hj] at this
  simpa using this
theorem Inv_ld {a : AS} (hI : Inv a) {r s : Nat} (hr : r < a_R a) (hs : s < 256) (h : s &&& idl a = s) (hc : a_in (ldI a r s 8) r ≤ a_sz a r) : Inv (ldI a r s 8) := by
  obtain ⟨i1, i2, i3, i4, i5, i6, i7, i8, i9, i10, i11⟩ := id hI
  unfold Inv
  simp only [ld_R, ld_T, ld_k, ld_th, ld_sz, ld_ch, ld_wd, ld_lk, ld_sg, ld_sr, ld_is, ld_pl, ld_bs, ld_mt, ld_lf]
  refine ⟨i1, i2, i3, i4, ?_, ?_, ?_, ?_, ?_, ?_, i11⟩
  · intro j hj e
    have c : ¬ (j < 8 ∧ s.testBit j = true) := fun q => by rw [(idl_bit hs h hj q.2).1] at e; cases e
    rw [if_neg c, if_neg c]; exact i5 j hj e
  · intro j hj e
    by_cases c : j < 8 ∧ s.testBit j = true
    · rw [if_pos c, if_pos c]; exact ⟨hr, by decide, (i6 j hj e).2.2⟩
    · rw [if_neg c, if_neg c]; exact i6 j hj e
  · intro j hj e
    by_cases c : j < 8 ∧ s.testBit j = true
    · rw [if_pos c, if_pos c]; exact ⟨rfl, rfl⟩
    · rw [if_neg c] at e; rw [if_neg c, if_neg c]; exact i7 j hj e
  · intro j hj e
    have c : ¬ (j < 8 ∧ s.testBit j = true) := fun q => by rw [if_pos q] at e; cases e
    rw [if_neg c] at e; rw [if_neg c, if_neg c]
    obtain ⟨i, k1, k2, k3, k4, k5, k6, k7⟩ := i8 j hj e
    have n1 : ¬ (i < 8 ∧ s.testBit i = true) := fun q => by have := (idl_bit hs h k1 q.2).2; omega
    refine ⟨i, k1, k2, k3, k4, ?_, ?_, ?_⟩
    · rw [if_neg n1]; exact k5
    · rw [if_neg n1]; exact k6
    · rw [if_neg n1]; exact k7
  · intro j hj e
    have c : ¬ (j < 8 ∧ s.testBit j = true) := fun q => by rw [if_pos q] at e; cases e
    rw [if_neg c] at e; rw [if_neg c, if_neg c, if_neg c]; exact i9 j hj e
  · intro q hq
    by_cases c : q = r
    · rw [c]; exact hc
    · rw [ld_in]
      refine Nat.le_trans (cnt_mono (q := fun j => a_is a j && a_pl a j == q) 8 (fun j hj hh => ?_)) (i10 q hq)
      simp only [Bool.and_eq_true, beq_iff_eq] at hh ⊢
      refine ⟨hh.1, ?_⟩
      by_cases cj : j < 8 ∧ s.testBit j = true
      · rw [if_pos cj] at hh; exact absurd hh.2 (fun h => c h.symm)
      · rw [if_neg cj] at hh; exact hh.2
/-- so it can be, and so many then are there -/
def gdB (a : AS) (r k m s : Nat) : Bool := decide (s &&& idl a = s) && (decide (a_in (ldI a r s 8) r ≤ a_sz a r) && decide (k ≤ a_in (minN lo0 (ldI a r s 8) m) r))
theorem tog_spec {a : AS} {r s : Nat} (hs : s < 256) (h : s &&& idl a = s) : cnt (fun j => (msk (fun g => a_is a g && a_pl a g == r) 8 ||| s).testBit j) 8 = a_in (ldI a r s 8) r := by
  rw [ld_in]
  refine cnt_congr (fun j hj => ?_)
  rw [Nat.testBit_or, msk_bit _ 8 j hj]
  cases e : s.testBit j
  · simp
  · have := (idl_bit hs h hj e).1
    simp [hj, this]
theorem isIn_at {s j : Nat} (hs : s < 256) (hj : j < 8) : f_X8_isIn (nI s) (nI j) = some (if s.testBit j then 1 else 0) := by
  unfold f_X8_isIn
  rw [if_neg (nI_pos (by omega)), if_neg (show ¬ (8 : Int32) ≤ nI j from nlit (by decide) hj)]
  cases e : s.testBit j
  · rw [if_neg (fun q => by rw [(bit_1 hs hj).mp q] at e; cases e)]; rfl
  · rw [if_pos ((bit_1 hs hj).mpr e)]; rfl
theorem Hc_ld {h : HS} {a : AS} {r s i : Nat} (hH : Hc h (ldI a r s i)) (hb : s.testBit i = true) {h' : HS} (e : h' = hEng (H_set_place h (upd (H_place h) i (nI r))) i 2 (-6) 0) : Hc h' (ldI a r s (i + 1)) := by
  have h1 := Hc_setPl hH i r
  have h2 : Hc h' (eng (setPl (ldI a r s i) i r) i 2 (-6) 0) := by rw [e]; exact Hc_eng' h1 rfl neg6 rfl
  unfold Hc at h2 ⊢
  simp only [eng_R, eng_T, eng_k, eng_th, eng_sz, eng_ch, eng_wd, eng_lk, eng_pl, eng_sg, eng_sr, eng_bs, eng_mt, eng_lf, sp_R, sp_T, sp_k, sp_th, sp_sz, sp_ch, sp_wd, sp_lk, sp_bs, sp_mt, sp_lf, sp_sg, sp_sr, sp_pl, ld_R, ld_T, ld_k, ld_th, ld_sz, ld_ch, ld_wd, ld_lk, ld_sg, ld_sr, ld_is, ld_pl, ld_bs, ld_mt, ld_lf] at h2 ⊢
  obtain ⟨b1, b2, b3, b4, b5, b6, b7, b8⟩ := h2
  refine ⟨b1, b2, b3, b4, b5, fun j hj => ?_, b7, b8⟩
  have q := b6 j hj
  by_cases c : j = i
  · subst c
    simp only [if_true, Nat.lt_succ_self, hb, and_self] at q ⊢; exact q
  · have e1 : (j < i + 1) ↔ j < i := by omega
    simp only [c, if_false] at q
    simp only [e1]; exact q
theorem ld_0 {h : HS} {a : AS} {r s : Nat} (hH : Hc h a) : Hc h (ldI a r s 0) := by
  unfold Hc at hH ⊢
  simp only [ld_R, ld_T, ld_k, ld_th, ld_sz, ld_ch, ld_wd, ld_lk, ld_sg, ld_sr, ld_is, ld_pl, ld_bs, ld_mt, ld_lf, Nat.not_lt_zero, false_and, if_false]
  exact hH
theorem Hc_ldn {h : HS} {a : AS} {r s i : Nat} (hH : Hc h (ldI a r s i)) (hb : s.testBit i = false) : Hc h (ldI a r s (i + 1)) := by
  unfold Hc at hH ⊢
  simp only [ld_R, ld_T, ld_k, ld_th, ld_sz, ld_ch, ld_wd, ld_lk, ld_sg, ld_sr, ld_is, ld_pl, ld_bs, ld_mt, ld_lf] at hH ⊢
  obtain ⟨b1, b2, b3, b4, b5, b6, b7, b8⟩ := hH
  refine ⟨b1, b2, b3, b4, b5, fun j hj => ?_, b7, b8⟩
  have q := b6 j hj
  by_cases c : j = i
  · subst c
    simp only [hb, Bool.false_eq_true, and_false, if_false] at q ⊢; exact q
  · have e1 : (j < i + 1) ↔ j < i := by omega
    simp only [e1]; exact q
theorem leads_spec {h : HS} {a : AS} (hI : Inv a) (hH : Hc h a) (d : DS) {r k m s : Nat} (hr : r < a_R a) (hk : k < 1000) (hm : m < 1000) (hs : s < 256) (hsub : s &&& idl a = s) : ∃ d', f_X8_leadsTo h d (nI s) (nI r) (nI k) (nI m) = some (if gdB a r k m s then 1 else 0, d') := by
  obtain ⟨N, hN, hFU⟩ := FU_ex
  have hR6 := hI.1.2.1
  have hm1 := msk_lt (fun g => a_is a g && a_pl a g == r) 8
  have o2 := or2 hm1 hs
  have hsz : f_X1_sizeOf h (nI r) = some (nI (a_sz a r)) := by
    unfold f_X1_sizeOf
    rw [show (4 : Int32) = nI 4 from rfl, ix6, chk_nI (by omega) (by decide), nI_clamp (by omega), (hH.2.2.2.1 r (by omega)).2.1]
  have s9 := (hI.2.1 r (by omega)).2.2.1
  have i8 : a_in (ldI a r s 8) r ≤ 8 := cnt_le _ 8
  have hp : f_J6_bitCount_0f7a4 (nI (msk (fun g => a_is a g && a_pl a g == r) 8 ||| s)) = some (nI (a_in (ldI a r s 8) r)) := by
    rw [← tog_spec hs hsub]; exact pop_dec ⟨_, o2.2⟩
  unfold f_X8_leadsTo gdB
  rw [bitsIn_spec hI hH (by omega), Option.bind_some, o2.1, hp, Option.bind_some, hsz, Option.bind_some]
  by_cases c : a_in (ldI a r s 8) r ≤ a_sz a r
  · obtain ⟨g0, c1, c2⟩ := copy_Hc (h := D_house d) hI.1.2.2.2 hH
    have hIl := Inv_ld hI hr hs hsub c
    rw [if_pos (nI_le c (by omega)), c1, Option.bind_some, hFU]
    refine it_rule (bot := fun _ _ _ _ _ _ _ => none) 8 (fun i (t : DS) => Hc (D_house t) (ldI a r s i)) (fun kk i t => ∃ d', kk h t (nI s) (nI r) (nI k) (nI m) (nI i) = some (if decide (s &&& idl a = s) && (decide (a_in (ldI a r s 8) r ≤ a_sz a r) && decide (k ≤ a_in (minN lo0 (ldI a r s 8) m) r)) then 1 else 0, d')) ?_ ?_ N 0 (D_set_house d g0) (by omega) (by omega) (ld_0 c2)
    · intro kk t ht
      obtain ⟨d1, r1, r2⟩ := ready_spec hIl ht
      obtain ⟨d2, gn, n1, n2⟩ := run_spec hIl (Lo0 _) r2 hm
      have hcn := count_spec (Inv_minN hIl lo0 m) n2.1 (r := r) (by omega)
      have n8 : a_in (minN lo0 (ldI a r s 8) m) r ≤ 8 := cnt_le _ 8
      refine ⟨d2, ?_⟩
      unfold X8_leadsTo_B47
      rw [if_pos (by decide), r1, Option.bind_some, n1, Option.bind_some, hcn, Option.bind_some]
      by_cases c3 : k ≤ a_in (minN lo0 (ldI a r s 8) m) r
      · rw [if_neg (nI_nlt c3 (by omega))]; simp [hsub, c, c3]
      · rw [if_pos (nI_lt (by omega) (by omega))]; simp [c3]
    · intro kk i t hi ht hk2
      unfold X8_leadsTo_B47 X8_leadsTo_J89
      rw [if_neg (show ¬ (8 : Int32) ≤ nI i from nlit (by decide) hi), isIn_at hs hi, Option.bind_some, nI_1]
      cases e : s.testBit i
      · rw [if_pos (by decide)]; exact hk2 t (Hc_ldn ht e)
      · unfold f_X1_sit
        rw [if_neg (by decide), chk_nI hi (by decide), nI_clamp (by omega), ltA_eq, engage_spec _ hi, Option.bind_some, Option.bind_some]
        exact hk2 _ (Hc_ld ht e rfl)
  · rw [if_neg (nI_ge (by omega) (by omega))]
    exact ⟨d, by simp [c]⟩
