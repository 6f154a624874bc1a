/-- the class' images: the two Houses -/
def imgF (A : Nat → Nat) : Nat → Option Nat := fun i => if i = 0 then some (A 20) else some (A 30)
/-- a boolean is 0 or 1 -/
def zb {α : Type} (v : Int32) (x : Option α) : Option α := if v = 0 ∨ v = 1 then x else none
theorem zb_some {α : Type} {d : Int32} {x : Option α} {v : α} (h : zb d x = some v) : (d = 0 ∨ d = 1) ∧ x = some v := o_if h
theorem zb_nar {v : Int32} (h : v = 0 ∨ v = 1) : narrow .boolean (.int v) = .int v := by rcases h with rfl | rfl <;> rfl
theorem img_1 {x : Int32} (h : vp_in x 2) (h0 : ¬ x = 0) : x = 1 := by
  obtain ⟨j, hj, rfl⟩ := vp_in_of h (by decide)
  rcases (show j = 0 ∨ j = 1 by omega) with rfl | rfl
  · exact absurd rfl h0
  · rfl
section VP
variable {K : Kx} {ws ws' : va_W} {pc : Nat} {lv : List (Nat × Value)} {rest : List Value}
theorem V.perm (is : List Nat) (h : is.map (fun i => ws[i]?) = ws'.map some) (hn : va_nd is = true) (n : V K ws' pc lv rest) : V K ws pc lv rest := by
  obtain ⟨p, l, e, R, s, m, args, below, meth, c, cc, nL, own, E, cy, A, Q, cs⟩ := K
  exact fun H locs ls hP hD hS hl => n H locs ls (hP.sub is (fm_of h)) (hD.sub is hn h) hS hl
end VP
theorem fill_0 {α : Type} (v : α) (f : Nat → α) : fillA 0 v f = f := by funext j; simp [fillA]
theorem fill_1 {i : Nat} (v : Int32) (f : Nat → Int32) (hi : i < 2 ^ 31) : fillA (i + 1) v f = upd (fillA i v f) (nI i).toNatClampNeg v := by
  rw [nI_clamp hi]
  funext j
  by_cases h : j = i
  · subst h; rw [pk_us]; simp [fillA]
  · rw [pk_un h]; unfold fillA; by_cases h2 : j < i
    · rw [if_pos h2, if_pos (by omega)]
    · rw [if_neg h2, if_neg (by omega)]
theorem fill_1L {i : Nat} (v : Int64) (f : Nat → Int64) (hi : i < 2 ^ 31) : fillA (i + 1) v f = vp_updL (fillA i v f) (nI i).toNatClampNeg v := by
  rw [nI_clamp hi]
  funext j
  by_cases h : j = i
  · subst h; rw [pk_uLs]; simp [fillA]
  · rw [pk_uLn h]; unfold fillA; by_cases h2 : j < i
    · rw [if_pos h2, if_pos (by omega)]
    · rw [if_neg h2, if_neg (by omega)]
theorem ks_fillA : KS yJ7_fill_53178 cJ7_fill_53178 4 none 2 := ⟨mw_293, mw_64, mw_294, by decide +kernel⟩
theorem ks_fillL : KS yJ7_fill_d0a16 cJ7_fill_d0a16 5 none 2 := ⟨mw_796, mw_64, mw_797, by decide +kernel⟩
set_option maxHeartbeats 4000000 in
theorem c_fillA {l : Launch} {E : va_G} {cy : Nat → ClassId} (a n : Nat) (f : Nat → Int32) (v : Int32) (g : Nat → Int32) (hg : g = fillA n v f) (hn : n < 2 ^ 31) : Cv l yJ7_fill_53178 cJ7_fill_53178 4 none 1 60 E cy [.ref a, .int v] [(a, .inl (cy 0, n, .inl f))] [(a, .inl (cy 0, n, .inl g))] := by
  refine Cv.of RJ7 (by decide) rfl (Nat.le_of_ble_eq_true rfl) ?_
  intro K hK
  have hc := hK.cq
  have L : ∀ (d i : Nat), i + d = n → V K [(a, .inl (cy 0, n, .inl (fillA i v f)))] 5 [(2, .int (nI i)), (3, .int (nI n)), (0, .ref a), (1, .int v)] [] := by
    intro d
    induction d with
    | zero =>
      intro i hi
      have hi' : i = n := by omega
      subst hi'
      refine r_iload_n hc 0 dJ7_fill_53178_5 rfl ?_
      refine r_iload_n hc 1 dJ7_fill_53178_6 rfl ?_
      refine r_icmp_ge hc 20 dJ7_fill_53178_7 (by decide) (fun c_1 => ?_) (fun c_1 => ?_)
      · exact r_vret hK (by rw [hg]) dJ7_fill_53178_20
      · exact absurd (nI_le (Nat.le_refl _) hn) c_1
    | succ d ih =>
      intro i hi
      refine r_iload_n hc 0 dJ7_fill_53178_5 rfl ?_
      refine r_iload_n hc 1 dJ7_fill_53178_6 rfl ?_
      refine r_icmp_ge hc 20 dJ7_fill_53178_7 (by decide) (fun c_1 => ?_) (fun c_1 => ?_)
      · exact absurd c_1 (nI_ge (by omega) hn)
      · refine r_aload_n hc 2 dJ7_fill_53178_10 rfl ?_
        refine r_iload_n hc 0 dJ7_fill_53178_11 rfl ?_
        refine r_iload_n hc 3 dJ7_fill_53178_12 rfl ?_
        refine r_iast (f := fillA i v f) hc 0 rfl (vp_in_nI (by omega) hn) dJ7_fill_53178_13 (fillA (i + 1) v f) (fill_1 v f (by omega)) [(a, .inl (cy 0, n, .inl (fillA (i + 1) v f)))] rfl ?_
        refine r_iinc hc 0 [(2, .int (nI (i + 1))), (3, .int (nI n)), (0, .ref a), (1, .int v)] (nI (i + 1)) dJ7_fill_53178_14 rfl (nI_1 i) (by decide) rfl ?_
        refine r_goto hc 5 dJ7_fill_53178_17 (by decide) ?_
        exact ih (i + 1) (by omega)
  show V K [(a, .inl (cy 0, n, .inl f))] 0 [(0, .ref a), (1, .int v)] []
  refine r_iconst hc (nI 0) dJ7_fill_53178_0 (by decide) ?_
  refine r_istore_n hc [(2, .int (nI 0)), (0, .ref a), (1, .int v)] dJ7_fill_53178_1 (by decide) rfl ?_
  refine r_aload_n hc 1 dJ7_fill_53178_2 rfl ?_
  refine r_alen hc 0 0 rfl rfl (nI n) rfl dJ7_fill_53178_3 ?_
  refine r_istore_n hc [(3, .int (nI n)), (2, .int (nI 0)), (0, .ref a), (1, .int v)] dJ7_fill_53178_4 (by decide) rfl ?_
  refine V.eqw (ws' := [(a, .inl (cy 0, n, .inl (fillA 0 v f)))]) (by rw [fill_0]) ?_
  exact V.sub [1, 0, 2, 3] rfl (L n 0 (by omega))
set_option maxHeartbeats 4000000 in
theorem c_fillL {l : Launch} {E : va_G} {cy : Nat → ClassId} (a n : Nat) (f : Nat → Int64) (v : Int64) (g : Nat → Int64) (hg : g = fillA n v f) (hn : n < 2 ^ 31) : Cv l yJ7_fill_d0a16 cJ7_fill_d0a16 5 none 1 60 E cy [.ref a, .long v] [(a, .inl (cy 1, n, .inr (.inl f)))] [(a, .inl (cy 1, n, .inr (.inl g)))] := by
  refine Cv.of RJ7 (by decide) rfl (Nat.le_of_ble_eq_true rfl) ?_
  intro K hK
  have hc := hK.cq
  have L : ∀ (d i : Nat), i + d = n → V K [(a, .inl (cy 1, n, .inr (.inl (fillA i v f))))] 6 [(3, .int (nI i)), (4, .int (nI n)), (0, .ref a), (1, .long v)] [] := by
    intro d
    induction d with
    | zero =>
      intro i hi
      have hi' : i = n := by omega
      subst hi'
      refine r_iload_n hc 0 dJ7_fill_d0a16_6 rfl ?_
      refine r_iload hc 1 dJ7_fill_d0a16_7 rfl ?_
      refine r_icmp_ge hc 22 dJ7_fill_d0a16_9 (by decide) (fun c_1 => ?_) (fun c_1 => ?_)
      · exact r_vret hK (by rw [hg]) dJ7_fill_d0a16_22
      · exact absurd (nI_le (Nat.le_refl _) hn) c_1
    | succ d ih =>
      intro i hi
      refine r_iload_n hc 0 dJ7_fill_d0a16_6 rfl ?_
      refine r_iload hc 1 dJ7_fill_d0a16_7 rfl ?_
      refine r_icmp_ge hc 22 dJ7_fill_d0a16_9 (by decide) (fun c_1 => ?_) (fun c_1 => ?_)
      · exact absurd c_1 (nI_ge (by omega) hn)
      · refine r_aload_n hc 2 dJ7_fill_d0a16_12 rfl ?_
        refine r_iload_n hc 0 dJ7_fill_d0a16_13 rfl ?_
        refine r_lload_n hc 3 dJ7_fill_d0a16_14 rfl ?_
        refine r_last (f := fillA i v f) hc 0 rfl (vp_in_nI (by omega) hn) dJ7_fill_d0a16_15 (fillA (i + 1) v f) (fill_1L v f (by omega)) [(a, .inl (cy 1, n, .inr (.inl (fillA (i + 1) v f))))] rfl ?_
        refine r_iinc hc 0 [(3, .int (nI (i + 1))), (4, .int (nI n)), (0, .ref a), (1, .long v)] (nI (i + 1)) dJ7_fill_d0a16_16 rfl (nI_1 i) (by decide) rfl ?_
        refine r_goto hc 6 dJ7_fill_d0a16_19 (by decide) ?_
        exact ih (i + 1) (by omega)
  show V K [(a, .inl (cy 1, n, .inr (.inl f)))] 0 [(0, .ref a), (1, .long v)] []
  refine r_iconst hc (nI 0) dJ7_fill_d0a16_0 (by decide) ?_
  refine r_istore_n hc [(3, .int (nI 0)), (0, .ref a), (1, .long v)] dJ7_fill_d0a16_1 (by decide) rfl ?_
  refine r_aload_n hc 1 dJ7_fill_d0a16_2 rfl ?_
  refine r_alen hc 0 1 rfl rfl (nI n) rfl dJ7_fill_d0a16_3 ?_
  refine r_istore hc [(4, .int (nI n)), (3, .int (nI 0)), (0, .ref a), (1, .long v)] dJ7_fill_d0a16_4 (by decide) rfl ?_
  refine V.eqw (ws' := [(a, .inl (cy 1, n, .inr (.inl (fillA 0 v f))))]) (by rw [fill_0]) ?_
  exact V.sub [1, 0, 2, 3] rfl (L n 0 (by omega))
