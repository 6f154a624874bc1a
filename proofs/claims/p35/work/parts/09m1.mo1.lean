def f_X9_in (x0 : Int32) (x1 : Int32) (x2 : Int32) : Option (Int32) :=
  (if x0 < x1 then (some ((0 : Int32))) else (if x2 < x0 then (some ((0 : Int32))) else (some ((1 : Int32)))))
theorem ks_X9_in : KS yX9_in cX9_in 3 (some .boolean) 3 := ⟨mw_956, mw_65, mw_957, by decide +kernel⟩
set_option maxHeartbeats 8000000 in
set_option maxRecDepth 100000 in
theorem c_X9_in {l : Launch} {E : va_G} {cy : Nat → ClassId} (x0 : Int32) (x1 : Int32) (x2 : Int32) (q : Int32) (hf : f_X9_in x0 x1 x2 = some q) : Ci l yX9_in cX9_in 3 (some .boolean) 1 60 E cy [.int x0, .int x1, .int x2] ([]) q ([]) := by
  refine Ci.of RX9 (by decide) rfl (Nat.le_of_ble_eq_true rfl) ?_
  intro K hK
  have hc := hK.cq
  show V K ([]) 0 [(0, .int x0), (1, .int x1), (2, .int x2)] []
  unfold f_X9_in at hf
  refine r_iload_n hc 0 dX9_in_0 rfl ?_
  refine r_iload_n hc 1 dX9_in_1 rfl ?_
  refine r_icmp_lt hc 14 dX9_in_2 (by decide) (fun c_1 => ?_) (fun c_1 => ?_)
  · have hf := o_pos c_1 hf
    refine r_iconst hc (0 : Int32) dX9_in_14 rfl ?_
    exact r_zret hK rfl (Option.some.inj hf) rfl dX9_in_15
  · have hf := o_neg c_1 hf
    refine r_iload_n hc 0 dX9_in_5 rfl ?_
    refine r_iload_n hc 2 dX9_in_6 rfl ?_
    refine r_icmp_gt hc 14 dX9_in_7 (by decide) (fun c_2 => ?_) (fun c_2 => ?_)
    · have hf := o_pos c_2 hf
      refine r_iconst hc (0 : Int32) dX9_in_14 rfl ?_
      exact r_zret hK rfl (Option.some.inj hf) rfl dX9_in_15
    · have hf := o_neg c_2 hf
      refine r_iconst hc (1 : Int32) dX9_in_10 rfl ?_
      refine r_goto hc 15 dX9_in_11 (by decide) ?_
      exact r_zret hK rfl (Option.some.inj hf) rfl dX9_in_15
def f_X9_has (x0 : Int32) (x1 : Int32) : Option (Int32) :=
  (if ((x0 >>> (x1 &&& 31)) &&& (1 : Int32)) = (1 : Int32) then (some ((1 : Int32))) else (some ((0 : Int32))))
theorem ks_X9_has : KS yX9_has cX9_has 2 (some .boolean) 2 := ⟨mw_971, mw_65, mw_972, by decide +kernel⟩
set_option maxHeartbeats 8000000 in
set_option maxRecDepth 100000 in
theorem c_X9_has {l : Launch} {E : va_G} {cy : Nat → ClassId} (x0 : Int32) (x1 : Int32) (q : Int32) (hf : f_X9_has x0 x1 = some q) : Ci l yX9_has cX9_has 2 (some .boolean) 1 60 E cy [.int x0, .int x1] ([]) q ([]) := by
  refine Ci.of RX9 (by decide) rfl (Nat.le_of_ble_eq_true rfl) ?_
  intro K hK
  have hc := hK.cq
  show V K ([]) 0 [(0, .int x0), (1, .int x1)] []
  unfold f_X9_has at hf
  refine r_iload_n hc 0 dX9_has_0 rfl ?_
  refine r_iload_n hc 1 dX9_has_1 rfl ?_
  refine r_ishr hc dX9_has_2 ?_
  refine r_iconst hc (1 : Int32) dX9_has_3 rfl ?_
  refine r_iand hc dX9_has_4 ?_
  refine r_iconst hc (1 : Int32) dX9_has_5 rfl ?_
  refine r_icmp_ne hc 13 dX9_has_6 (by decide) (fun c_1 => ?_) (fun c_1 => ?_)
  · have hf := o_neg c_1 hf
    refine r_iconst hc (0 : Int32) dX9_has_13 rfl ?_
    exact r_zret hK rfl (Option.some.inj hf) rfl dX9_has_14
  · have hf := o_pos c_1 hf
    refine r_iconst hc (1 : Int32) dX9_has_9 rfl ?_
    refine r_goto hc 14 dX9_has_10 (by decide) ?_
    exact r_zret hK rfl (Option.some.inj hf) rfl dX9_has_14
def X9_bits_B4 (k4 : Int32 → Int32 → Int32 → Option (Int32)) (x0 : Int32) (x1 : Int32) (x2 : Int32) : Option (Int32) :=
  (if (8 : Int32) ≤ x2 then (some (x1)) else (k4 x0 (x1 + ((x0 >>> (x2 &&& 31)) &&& (1 : Int32))) (x2 + (1 : Int32))))
def f_X9_bits (x0 : Int32) : Option (Int32) :=
  (it X9_bits_B4 (fun _ _ _ => none) FU x0 (0 : Int32) (0 : Int32))
theorem ks_X9_bits : KS yX9_bits cX9_bits 3 (some .int) 1 := ⟨mw_990, mw_65, mw_991, by decide +kernel⟩
set_option maxHeartbeats 8000000 in
set_option maxRecDepth 100000 in
theorem c_X9_bits {l : Launch} {E : va_G} {cy : Nat → ClassId} (x0 : Int32) (q : Int32) (hf : f_X9_bits x0 = some q) : Ci l yX9_bits cX9_bits 3 (some .int) 1 60 E cy [.int x0] ([]) q ([]) := by
  refine Ci.of RX9 (by decide) rfl (Nat.le_of_ble_eq_true rfl) ?_
  intro K hK
  have hc := hK.cq
  have L4 : ∀ (n4 : Nat) (x0 : Int32) (x1 : Int32) (x2 : Int32), it X9_bits_B4 (fun _ _ _ => none) n4 x0 x1 x2 = some q → V K ([]) 4 [(0, .int x0), (1, .int x1), (2, .int x2)] [] := by
    intro n4
    induction n4 with
    | zero => intro x0 x1 x2 hf; exact (o_none hf).elim
    | succ n4 ih4 =>
      intro x0 x1 x2 hf
      replace hf : X9_bits_B4 (it X9_bits_B4 (fun _ _ _ => none) n4) x0 x1 x2 = some q := hf
      unfold X9_bits_B4 at hf
      refine r_iload_n hc 2 dX9_bits_4 rfl ?_
      refine r_bipush hc (8 : Int32) dX9_bits_5 rfl ?_
      refine r_icmp_ge hc 24 dX9_bits_7 (by decide) (fun c_1 => ?_) (fun c_1 => ?_)
      · have hf := o_pos c_1 hf
        refine r_iload_n hc 1 dX9_bits_24 rfl ?_
        exact r_iret hK (Option.some.inj hf) rfl dX9_bits_25
      · have hf := o_neg c_1 hf
        refine r_iload_n hc 1 dX9_bits_10 rfl ?_
        refine r_iload_n hc 0 dX9_bits_11 rfl ?_
        refine r_iload_n hc 2 dX9_bits_12 rfl ?_
        refine r_ishr hc dX9_bits_13 ?_
        refine r_iconst hc (1 : Int32) dX9_bits_14 rfl ?_
        refine r_iand hc dX9_bits_15 ?_
        refine r_iadd hc dX9_bits_16 ?_
        refine r_istore_n hc [(1, .int (x1 + ((x0 >>> (x2 &&& 31)) &&& (1 : Int32)))), (0, .int x0), (2, .int x2)] dX9_bits_17 (by decide) rfl ?_
        refine r_iinc hc 2 [(2, .int (x2 + (1 : Int32))), (1, .int (x1 + ((x0 >>> (x2 &&& 31)) &&& (1 : Int32)))), (0, .int x0)] (x2 + (1 : Int32)) dX9_bits_18 rfl rfl (by decide) rfl ?_
        refine r_goto hc 4 dX9_bits_21 (by decide) ?_
        exact V.sub [2, 1, 0] rfl (ih4 x0 (x1 + ((x0 >>> (x2 &&& 31)) &&& (1 : Int32))) (x2 + (1 : Int32)) hf)
  show V K ([]) 0 [(0, .int x0)] []
  unfold f_X9_bits at hf
  refine r_iconst hc (0 : Int32) dX9_bits_0 rfl ?_
  refine r_istore_n hc [(1, .int (0 : Int32)), (0, .int x0)] dX9_bits_1 (by decide) rfl ?_
  refine r_iconst hc (0 : Int32) dX9_bits_2 rfl ?_
  refine r_istore_n hc [(2, .int (0 : Int32)), (1, .int (0 : Int32)), (0, .int x0)] dX9_bits_3 (by decide) rfl ?_
  exact V.sub [2, 1, 0] rfl (L4 FU x0 (0 : Int32) (0 : Int32) hf)
def X9_empty_B62 (k62 : MS → Int32 → Option (MS)) (z : MS) (x1 : Int32) : Option (MS) :=
  (if (36 : Int32) ≤ x1 then (some (z)) else (chk x1 36 (ltA (M_set_width z (upd (M_width z) (x1).toNatClampNeg (0 : Int32))) fun z74 => (k62 z74 (x1 + (1 : Int32))))))
def X9_empty_B41 (k41 : MS → Int32 → Option (MS)) (z : MS) (x1 : Int32) : Option (MS) :=
  (if (24 : Int32) ≤ x1 then (it X9_empty_B62 (fun _ _ => none) FU z (0 : Int32)) else (chk x1 24 (ltA (M_set_things z (upd (M_things z) (x1).toNatClampNeg (0 : Int32))) fun z53 => (k41 z53 (x1 + (1 : Int32))))))
def X9_empty_B12 (k12 : MS → Int32 → Option (MS)) (z : MS) (x1 : Int32) : Option (MS) :=
  (if (6 : Int32) ≤ x1 then (it X9_empty_B41 (fun _ _ => none) FU z (0 : Int32)) else (chk x1 6 (ltA (M_set_size z (upd (M_size z) (x1).toNatClampNeg (8 : Int32))) fun z25 => (chk x1 6 (ltA (M_set_chairs z25 (upd (M_chairs z25) (x1).toNatClampNeg (0 : Int32))) fun z32 => (k12 z32 (x1 + (1 : Int32))))))))
def f_X9_empty (z : MS) : Option (MS) :=
  (ltA (M_set_there z (0 : Int32)) fun z2 => (ltA (M_set_sights z2 (0 : Int32)) fun z7 => (it X9_empty_B12 (fun _ _ => none) FU z7 (0 : Int32))))
theorem kv_X9_empty : KV RX9 yX9_empty cX9_empty 2 none 0 := ⟨mw_858, mw_23, mw_65, mw_859, by decide +kernel⟩
set_option maxHeartbeats 8000000 in
set_option maxRecDepth 100000 in
theorem c_X9_empty {l : Launch} {E : va_G} {cy : Nat → ClassId} (A : Nat → Nat) (z : MS) (q : MS) (hf : f_X9_empty z = some q) : Cv l yX9_empty cX9_empty 2 none 1 60 E cy [.ref (A 0)] (wM cy A z) (wM cy A q) := by
  refine Cv.of RX9 (by decide) rfl (Nat.le_of_ble_eq_true rfl) ?_
  intro K hK
  have hc := hK.cq
  have L62 : ∀ (n62 : Nat) (z : MS) (x1 : Int32), it X9_empty_B62 (fun _ _ => none) n62 z x1 = some q → V K (wM cy A z) 62 [(0, .ref (A 0)), (1, .int x1)] [] := by
    intro n62
    induction n62 with
    | zero => intro z x1 hf; exact (o_none hf).elim
    | succ n62 ih62 =>
      intro z x1 hf
      replace hf : X9_empty_B62 (it X9_empty_B62 (fun _ _ => none) n62) z x1 = some q := hf
      unfold X9_empty_B62 at hf
      refine r_iload_n hc 1 dX9_empty_62 rfl ?_
      refine r_bipush hc (36 : Int32) dX9_empty_63 rfl ?_
      refine r_icmp_ge hc 81 dX9_empty_65 (by decide) (fun c_6 => ?_) (fun c_6 => ?_)
      · have hf := o_pos c_6 hf
        exact r_vret hK (congrArg (fun z9 => (wM cy A z9)) (Option.some.inj hf)) dX9_empty_81
      · have hf := o_neg c_6 hf
        refine r_aload_n hc 0 dX9_empty_68 rfl ?_
        refine r_get (v := .ref (A 4)) hc iw_X9 0 rfl rfl 4 (by decide) mw_864 rfl dX9_empty_69 ?_
        refine r_iload_n hc 1 dX9_empty_72 rfl ?_
        refine r_iconst hc (0 : Int32) dX9_empty_73 rfl ?_
        obtain ⟨i_7, hf⟩ := chk_some hf
        obtain ⟨z74, ez74, hf⟩ := lt_some hf
        refine r_iast (f := (M_width z)) hc 4 rfl i_7 dX9_empty_74 _ rfl (wM cy A z74) (wM_s_width ez74) ?_
        refine r_iinc hc 1 [(1, .int (x1 + (1 : Int32))), (0, .ref (A 0))] (x1 + (1 : Int32)) dX9_empty_75 rfl rfl (by decide) rfl ?_
        refine r_goto hc 62 dX9_empty_78 (by decide) ?_
        exact V.sub [1, 0] rfl (ih62 z74 (x1 + (1 : Int32)) hf)
  have L41 : ∀ (n41 : Nat) (z : MS) (x1 : Int32), it X9_empty_B41 (fun _ _ => none) n41 z x1 = some q → V K (wM cy A z) 41 [(0, .ref (A 0)), (1, .int x1)] [] := by
    intro n41
    induction n41 with
    | zero => intro z x1 hf; exact (o_none hf).elim
    | succ n41 ih41 =>
      intro z x1 hf
      replace hf : X9_empty_B41 (it X9_empty_B41 (fun _ _ => none) n41) z x1 = some q := hf
      unfold X9_empty_B41 at hf
      refine r_iload_n hc 1 dX9_empty_41 rfl ?_
      refine r_bipush hc (24 : Int32) dX9_empty_42 rfl ?_
      refine r_icmp_ge hc 60 dX9_empty_44 (by decide) (fun c_4 => ?_) (fun c_4 => ?_)
      · have hf := o_pos c_4 hf
        refine r_iconst hc (0 : Int32) dX9_empty_60 rfl ?_
        refine r_istore_n hc [(1, .int (0 : Int32)), (0, .ref (A 0))] dX9_empty_61 (by decide) rfl ?_
        exact V.sub [1, 0] rfl (L62 FU z (0 : Int32) hf)
      · have hf := o_neg c_4 hf
        refine r_aload_n hc 0 dX9_empty_47 rfl ?_
        refine r_get (v := .ref (A 1)) hc iw_X9 0 rfl rfl 1 (by decide) mw_861 rfl dX9_empty_48 ?_
        refine r_iload_n hc 1 dX9_empty_51 rfl ?_
        refine r_iconst hc (0 : Int32) dX9_empty_52 rfl ?_
        obtain ⟨i_5, hf⟩ := chk_some hf
        obtain ⟨z53, ez53, hf⟩ := lt_some hf
        refine r_iast (f := (M_things z)) hc 1 rfl i_5 dX9_empty_53 _ rfl (wM cy A z53) (wM_s_things ez53) ?_
        refine r_iinc hc 1 [(1, .int (x1 + (1 : Int32))), (0, .ref (A 0))] (x1 + (1 : Int32)) dX9_empty_54 rfl rfl (by decide) rfl ?_
        refine r_goto hc 41 dX9_empty_57 (by decide) ?_
        exact V.sub [1, 0] rfl (ih41 z53 (x1 + (1 : Int32)) hf)
  have L12 : ∀ (n12 : Nat) (z : MS) (x1 : Int32), it X9_empty_B12 (fun _ _ => none) n12 z x1 = some q → V K (wM cy A z) 12 [(0, .ref (A 0)), (1, .int x1)] [] := by
    intro n12
    induction n12 with
    | zero => intro z x1 hf; exact (o_none hf).elim
    | succ n12 ih12 =>
      intro z x1 hf
      replace hf : X9_empty_B12 (it X9_empty_B12 (fun _ _ => none) n12) z x1 = some q := hf
      unfold X9_empty_B12 at hf
      refine r_iload_n hc 1 dX9_empty_12 rfl ?_
      refine r_bipush hc (6 : Int32) dX9_empty_13 rfl ?_
      refine r_icmp_ge hc 39 dX9_empty_15 (by decide) (fun c_1 => ?_) (fun c_1 => ?_)
      · have hf := o_pos c_1 hf
        refine r_iconst hc (0 : Int32) dX9_empty_39 rfl ?_
        refine r_istore_n hc [(1, .int (0 : Int32)), (0, .ref (A 0))] dX9_empty_40 (by decide) rfl ?_
        exact V.sub [1, 0] rfl (L41 FU z (0 : Int32) hf)
      · have hf := o_neg c_1 hf
        refine r_aload_n hc 0 dX9_empty_18 rfl ?_
        refine r_get (v := .ref (A 2)) hc iw_X9 0 rfl rfl 2 (by decide) mw_862 rfl dX9_empty_19 ?_
        refine r_iload_n hc 1 dX9_empty_22 rfl ?_
        refine r_bipush hc (8 : Int32) dX9_empty_23 rfl ?_
        obtain ⟨i_2, hf⟩ := chk_some hf
        obtain ⟨z25, ez25, hf⟩ := lt_some hf
        refine r_iast (f := (M_size z)) hc 2 rfl i_2 dX9_empty_25 _ rfl (wM cy A z25) (wM_s_size ez25) ?_
        refine r_aload_n hc 0 dX9_empty_26 rfl ?_
        refine r_get (v := .ref (A 3)) hc iw_X9 0 rfl rfl 3 (by decide) mw_863 rfl dX9_empty_27 ?_
        refine r_iload_n hc 1 dX9_empty_30 rfl ?_
        refine r_iconst hc (0 : Int32) dX9_empty_31 rfl ?_
        obtain ⟨i_3, hf⟩ := chk_some hf
        obtain ⟨z32, ez32, hf⟩ := lt_some hf
        refine r_iast (f := (M_chairs z25)) hc 3 rfl i_3 dX9_empty_32 _ rfl (wM cy A z32) (wM_s_chairs ez32) ?_
        refine r_iinc hc 1 [(1, .int (x1 + (1 : Int32))), (0, .ref (A 0))] (x1 + (1 : Int32)) dX9_empty_33 rfl rfl (by decide) rfl ?_
        refine r_goto hc 12 dX9_empty_36 (by decide) ?_
        exact V.sub [1, 0] rfl (ih12 z32 (x1 + (1 : Int32)) hf)
  show V K (wM cy A z) 0 [(0, .ref (A 0))] []
  unfold f_X9_empty at hf
  refine r_aload_n hc 0 dX9_empty_0 rfl ?_
  refine r_iconst hc (0 : Int32) dX9_empty_1 rfl ?_
  obtain ⟨z2, ez2, hf⟩ := lt_some hf
  refine r_put hc iw_X9 tyX9 tyX9_ok nmX9 0 rfl rfl 5 (by decide) mw_865 rfl rfl rfl (Nat.le_of_ble_eq_true rfl) dX9_empty_2 (wM cy A z2) (wM_s_there ez2) ?_
  refine r_aload_n hc 0 dX9_empty_5 rfl ?_
  refine r_iconst hc (0 : Int32) dX9_empty_6 rfl ?_
  obtain ⟨z7, ez7, hf⟩ := lt_some hf
  refine r_put hc iw_X9 tyX9 tyX9_ok nmX9 0 rfl rfl 11 (by decide) mw_871 rfl rfl rfl (Nat.le_of_ble_eq_true rfl) dX9_empty_7 (wM cy A z7) (wM_s_sights ez7) ?_
  refine r_iconst hc (0 : Int32) dX9_empty_10 rfl ?_
  refine r_istore_n hc [(1, .int (0 : Int32)), (0, .ref (A 0))] dX9_empty_11 (by decide) rfl ?_
  exact V.sub [1, 0] rfl (L12 FU z7 (0 : Int32) hf)
def f_X9_isRoom (z : MS) (x1 : Int32) : Option (Int32) :=
  ((f_X9_in x1 (0 : Int32) ((M_rooms z) - (1 : Int32))).bind fun q8 => (zb q8 (some (q8))))
theorem kv_X9_isRoom : KV RX9 yX9_isRoom cX9_isRoom 2 (some .boolean) 1 := ⟨mw_964, mw_24, mw_65, mw_965, by decide +kernel⟩
set_option maxHeartbeats 8000000 in
set_option maxRecDepth 100000 in
theorem c_X9_isRoom {l : Launch} {E : va_G} {cy : Nat → ClassId} (A : Nat → Nat) (z : MS) (x1 : Int32) (q : Int32) (hf : f_X9_isRoom z x1 = some q) : Ci l yX9_isRoom cX9_isRoom 2 (some .boolean) 2 82 E cy [.ref (A 0), .int x1] (wM cy A z) q (wM cy A z) := by
  refine Ci.of RX9 (by decide) rfl (Nat.le_of_ble_eq_true rfl) ?_
  intro K hK
  have hc := hK.cq
  show V K (wM cy A z) 0 [(0, .ref (A 0)), (1, .int x1)] []
  unfold f_X9_isRoom at hf
  refine r_iload_n hc 1 dX9_isRoom_0 rfl ?_
  refine r_iconst hc (0 : Int32) dX9_isRoom_1 rfl ?_
  refine r_aload_n hc 0 dX9_isRoom_2 rfl ?_
  refine r_get (v := .int (M_rooms z)) hc iw_X9 0 rfl rfl 0 (by decide) mw_860 rfl dX9_isRoom_3 ?_
  refine r_iconst hc (1 : Int32) dX9_isRoom_6 rfl ?_
  refine r_isub hc dX9_isRoom_7 ?_
  obtain ⟨q8, hq8, hf⟩ := o_bind hf
  refine r_callSi (ws' := (wM cy A z)) (As := [.int x1, .int (0 : Int32), .int ((M_rooms z) - (1 : Int32))]) (rest := []) hc (c_X9_in  x1 (0 : Int32) ((M_rooms z) - (1 : Int32)) q8 hq8) ks_X9_in mw_955 _ _ _ (Sp_none _) rfl rfl (Nat.le_of_ble_eq_true rfl) ⟨by decide, by decide⟩ dX9_isRoom_8 ?_
  obtain ⟨hb9, hf⟩ := zb_some hf
  exact r_zret hK (zb_nar hb9) (Option.some.inj hf) rfl dX9_isRoom_11
def f_X9_isThere (z : MS) (x1 : Int32) : Option (Int32) :=
  ((f_X9_in x1 (0 : Int32) (7 : Int32)).bind fun q4 => (if q4 = 0 then (some ((0 : Int32))) else ((f_X9_has (M_there z) x1).bind fun q15 => (if q15 = 0 then (some ((0 : Int32))) else (some ((1 : Int32)))))))
theorem kv_X9_isThere : KV RX9 yX9_isThere cX9_isThere 2 (some .boolean) 1 := ⟨mw_998, mw_28, mw_65, mw_999, by decide +kernel⟩
set_option maxHeartbeats 8000000 in
set_option maxRecDepth 100000 in
theorem c_X9_isThere {l : Launch} {E : va_G} {cy : Nat → ClassId} (A : Nat → Nat) (z : MS) (x1 : Int32) (q : Int32) (hf : f_X9_isThere z x1 = some q) : Ci l yX9_isThere cX9_isThere 2 (some .boolean) 2 82 E cy [.ref (A 0), .int x1] (wM cy A z) q (wM cy A z) := by
  refine Ci.of RX9 (by decide) rfl (Nat.le_of_ble_eq_true rfl) ?_
  intro K hK
  have hc := hK.cq
  show V K (wM cy A z) 0 [(0, .ref (A 0)), (1, .int x1)] []
  unfold f_X9_isThere at hf
  refine r_iload_n hc 1 dX9_isThere_0 rfl ?_
  refine r_iconst hc (0 : Int32) dX9_isThere_1 rfl ?_
  refine r_bipush hc (7 : Int32) dX9_isThere_2 rfl ?_
  obtain ⟨q4, hq4, hf⟩ := o_bind hf
  refine r_callSi (ws' := (wM cy A z)) (As := [.int x1, .int (0 : Int32), .int (7 : Int32)]) (rest := []) hc (c_X9_in  x1 (0 : Int32) (7 : Int32) q4 hq4) ks_X9_in mw_955 _ _ _ (Sp_none _) rfl rfl (Nat.le_of_ble_eq_true rfl) ⟨by decide, by decide⟩ dX9_isThere_4 ?_
  refine r_if_eq hc 25 dX9_isThere_7 (by decide) (fun c_1 => ?_) (fun c_1 => ?_)
  · have hf := o_pos c_1 hf
    refine r_iconst hc (0 : Int32) dX9_isThere_25 rfl ?_
    exact r_zret hK rfl (Option.some.inj hf) rfl dX9_isThere_26
  · have hf := o_neg c_1 hf
    refine r_aload_n hc 0 dX9_isThere_10 rfl ?_
    refine r_get (v := .int (M_there z)) hc iw_X9 0 rfl rfl 5 (by decide) mw_865 rfl dX9_isThere_11 ?_
    refine r_iload_n hc 1 dX9_isThere_14 rfl ?_
    obtain ⟨q15, hq15, hf⟩ := o_bind hf
    refine r_callSi (ws' := (wM cy A z)) (As := [.int (M_there z), .int x1]) (rest := []) hc (c_X9_has  (M_there z) x1 q15 hq15) ks_X9_has mw_970 _ _ _ (Sp_none _) rfl rfl (Nat.le_of_ble_eq_true rfl) ⟨by decide, by decide⟩ dX9_isThere_15 ?_
    refine r_if_eq hc 25 dX9_isThere_18 (by decide) (fun c_2 => ?_) (fun c_2 => ?_)
    · have hf := o_pos c_2 hf
      refine r_iconst hc (0 : Int32) dX9_isThere_25 rfl ?_
      exact r_zret hK rfl (Option.some.inj hf) rfl dX9_isThere_26
    · have hf := o_neg c_2 hf
      refine r_iconst hc (1 : Int32) dX9_isThere_21 rfl ?_
      refine r_goto hc 26 dX9_isThere_22 (by decide) ?_
      exact r_zret hK rfl (Option.some.inj hf) rfl dX9_isThere_26
def f_X9_rooms (z : MS) (x1 : Int32) : Option (Int32 × MS) :=
  ((f_X9_in x1 (2 : Int32) (6 : Int32)).bind fun q4 => (if q4 = 0 then (some ((-2 : Int32), z)) else (ltA (M_set_rooms z x1) fun z20 => ((f_X9_empty z20).bind fun q24 => (some ((M_rooms z), q24))))))
theorem kv_X9_rooms : KV RX9 yX9_rooms cX9_rooms 3 (some .int) 1 := ⟨mw_952, mw_953, mw_65, mw_954, by decide +kernel⟩
set_option maxHeartbeats 8000000 in
set_option maxRecDepth 100000 in
theorem c_X9_rooms {l : Launch} {E : va_G} {cy : Nat → ClassId} (A : Nat → Nat) (z : MS) (x1 : Int32) (q : Int32 × MS) (hf : f_X9_rooms z x1 = some q) : Ci l yX9_rooms cX9_rooms 3 (some .int) 2 82 E cy [.ref (A 0), .int x1] (wM cy A z) q.1 (wM cy A q.2) := by
  refine Ci.of RX9 (by decide) rfl (Nat.le_of_ble_eq_true rfl) ?_
  intro K hK
  have hc := hK.cq
  show V K (wM cy A z) 0 [(0, .ref (A 0)), (1, .int x1)] []
  unfold f_X9_rooms at hf
  refine r_iload_n hc 1 dX9_rooms_0 rfl ?_
  refine r_iconst hc (2 : Int32) dX9_rooms_1 rfl ?_
  refine r_bipush hc (6 : Int32) dX9_rooms_2 rfl ?_
  obtain ⟨q4, hq4, hf⟩ := o_bind hf
  refine r_callSi (ws' := (wM cy A z)) (As := [.int x1, .int (2 : Int32), .int (6 : Int32)]) (rest := []) hc (c_X9_in  x1 (2 : Int32) (6 : Int32) q4 hq4) ks_X9_in mw_955 _ _ _ (Sp_none _) rfl rfl (Nat.le_of_ble_eq_true rfl) ⟨by decide, by decide⟩ dX9_rooms_4 ?_
  refine r_if_ne hc 13 dX9_rooms_7 (by decide) (fun c_1 => ?_) (fun c_1 => ?_)
  · have hf := o_neg c_1 hf
    refine r_aload_n hc 0 dX9_rooms_13 rfl ?_
    refine r_get (v := .int (M_rooms z)) hc iw_X9 0 rfl rfl 0 (by decide) mw_860 rfl dX9_rooms_14 ?_
    refine r_istore_n hc [(2, .int (M_rooms z)), (0, .ref (A 0)), (1, .int x1)] dX9_rooms_17 (by decide) rfl ?_
    refine r_aload_n hc 1 dX9_rooms_18 rfl ?_
    refine r_iload_n hc 2 dX9_rooms_19 rfl ?_
    obtain ⟨z20, ez20, hf⟩ := lt_some hf
    refine r_put hc iw_X9 tyX9 tyX9_ok nmX9 0 rfl rfl 0 (by decide) mw_860 rfl rfl rfl (Nat.le_of_ble_eq_true rfl) dX9_rooms_20 (wM cy A z20) (wM_s_rooms ez20) ?_
    refine r_aload_n hc 1 dX9_rooms_23 rfl ?_
    obtain ⟨q24, hq24, hf⟩ := o_bind hf
    refine r_callVv (ws' := (wM cy A q24)) (As := []) (rest := []) hc (c_X9_empty A z20 q24 hq24) kv_X9_empty mw_856 0 rfl rfl _ _ _ (Sp_all _ _) rfl rfl (Nat.le_of_ble_eq_true rfl) ⟨by decide, by decide⟩ dX9_rooms_24 ?_
    refine r_iload_n hc 0 dX9_rooms_27 rfl ?_
    exact r_iret hK (congrArg (fun z9 => z9.1) (Option.some.inj hf)) (congrArg (fun z9 => (wM cy A z9.2)) (Option.some.inj hf)) dX9_rooms_28
  · have hf := o_pos c_1 hf
    refine r_bipush hc (-2 : Int32) dX9_rooms_10 rfl ?_
    exact r_iret hK (congrArg (fun z9 => z9.1) (Option.some.inj hf)) (congrArg (fun z9 => (wM cy A z9.2)) (Option.some.inj hf)) dX9_rooms_12
def X9_inRoom_J64 (k6 : MS → Int32 → Int32 → Int32 → Int32 → Int32 → Option (Int32)) (z : MS) (x1 : Int32) (x2 : Int32) (x3 : Int32) (x5 : Int32) (s0 : Int32) (s1 : Int32) : Option (Int32) :=
  (k6 z x1 x2 x3 (s1 + s0) (x5 + (1 : Int32)))
def X9_inRoom_J63 (k6 : MS → Int32 → Int32 → Int32 → Int32 → Int32 → Option (Int32)) (z : MS) (x1 : Int32) (x2 : Int32) (x3 : Int32) (x5 : Int32) (s0 : Int32) : Option (Int32) :=
  (X9_inRoom_J64 k6 z x1 x2 x3 x5 (0 : Int32) s0)
def X9_inRoom_J59 (k6 : MS → Int32 → Int32 → Int32 → Int32 → Int32 → Option (Int32)) (z : MS) (x1 : Int32) (x2 : Int32) (x3 : Int32) (x5 : Int32) (s0 : Int32) : Option (Int32) :=
  (X9_inRoom_J64 k6 z x1 x2 x3 x5 (1 : Int32) s0)
def X9_inRoom_B6 (k6 : MS → Int32 → Int32 → Int32 → Int32 → Int32 → Option (Int32)) (z : MS) (x1 : Int32) (x2 : Int32) (x3 : Int32) (x4 : Int32) (x5 : Int32) : Option (Int32) :=
  (if (8 : Int32) ≤ x5 then (some (x4)) else ((f_X9_has (M_there z) x5).bind fun q21 => (if q21 = 0 then (X9_inRoom_J63 k6 z x1 x2 x3 x5 x4) else (if x5 = x3 then (X9_inRoom_J63 k6 z x1 x2 x3 x5 x4) else (chk x5 8 (if ((M_place z) (x5).toNatClampNeg) = x1 then (if x2 < 0 then (X9_inRoom_J59 k6 z x1 x2 x3 x5 x4) else (chk x5 8 (if ((M_busy z) (x5).toNatClampNeg) = x2 then (X9_inRoom_J59 k6 z x1 x2 x3 x5 x4) else (X9_inRoom_J63 k6 z x1 x2 x3 x5 x4)))) else (X9_inRoom_J63 k6 z x1 x2 x3 x5 x4)))))))
def f_X9_inRoom (z : MS) (x1 : Int32) (x2 : Int32) (x3 : Int32) : Option (Int32) :=
  (it X9_inRoom_B6 (fun _ _ _ _ _ _ => none) FU z x1 x2 x3 (0 : Int32) (0 : Int32))
theorem kv_X9_inRoom : KV RX9 yX9_inRoom cX9_inRoom 6 (some .int) 3 := ⟨mw_968, mw_25, mw_65, mw_969, by decide +kernel⟩
set_option maxHeartbeats 8000000 in
set_option maxRecDepth 100000 in
theorem c_X9_inRoom {l : Launch} {E : va_G} {cy : Nat → ClassId} (A : Nat → Nat) (z : MS) (x1 : Int32) (x2 : Int32) (x3 : Int32) (q : Int32) (hf : f_X9_inRoom z x1 x2 x3 = some q) : Ci l yX9_inRoom cX9_inRoom 6 (some .int) 2 81 E cy [.ref (A 0), .int x1, .int x2, .int x3] (wM cy A z) q (wM cy A z) := by
  refine Ci.of RX9 (by decide) rfl (Nat.le_of_ble_eq_true rfl) ?_
  intro K hK
  have hc := hK.cq
  have L6 : ∀ (n6 : Nat) (x1 : Int32) (x2 : Int32) (x3 : Int32) (x4 : Int32) (x5 : Int32), it X9_inRoom_B6 (fun _ _ _ _ _ _ => none) n6 z x1 x2 x3 x4 x5 = some q → V K (wM cy A z) 6 [(0, .ref (A 0)), (1, .int x1), (2, .int x2), (3, .int x3), (4, .int x4), (5, .int x5)] [] := by
    intro n6
    induction n6 with
    | zero => intro x1 x2 x3 x4 x5 hf; exact (o_none hf).elim
    | succ n6 ih6 =>
      have J64 : ∀ (x1 : Int32) (x2 : Int32) (x3 : Int32) (x5 : Int32) (s0 : Int32) (s1 : Int32), X9_inRoom_J64 (it X9_inRoom_B6 (fun _ _ _ _ _ _ => none) n6) z x1 x2 x3 x5 s0 s1 = some q → V K (wM cy A z) 64 [(0, .ref (A 0)), (1, .int x1), (2, .int x2), (3, .int x3), (5, .int x5)] [.int s0, .int s1] := by
        intro x1 x2 x3 x5 s0 s1 hf
        unfold X9_inRoom_J64 at hf
        refine r_iadd hc dX9_inRoom_64 ?_
        refine r_istore hc [(4, .int (s1 + s0)), (0, .ref (A 0)), (1, .int x1), (2, .int x2), (3, .int x3), (5, .int x5)] dX9_inRoom_65 (by decide) rfl ?_
        refine r_iinc hc 5 [(5, .int (x5 + (1 : Int32))), (4, .int (s1 + s0)), (0, .ref (A 0)), (1, .int x1), (2, .int x2), (3, .int x3)] (x5 + (1 : Int32)) dX9_inRoom_67 rfl rfl (by decide) rfl ?_
        refine r_goto hc 6 dX9_inRoom_70 (by decide) ?_
        exact V.sub [2, 3, 4, 5, 1, 0] rfl (ih6 x1 x2 x3 (s1 + s0) (x5 + (1 : Int32)) hf)
      have J63 : ∀ (x1 : Int32) (x2 : Int32) (x3 : Int32) (x5 : Int32) (s0 : Int32), X9_inRoom_J63 (it X9_inRoom_B6 (fun _ _ _ _ _ _ => none) n6) z x1 x2 x3 x5 s0 = some q → V K (wM cy A z) 63 [(0, .ref (A 0)), (1, .int x1), (2, .int x2), (3, .int x3), (5, .int x5)] [.int s0] := by
        intro x1 x2 x3 x5 s0 hf
        unfold X9_inRoom_J63 at hf
        refine r_iconst hc (0 : Int32) dX9_inRoom_63 rfl ?_
        exact V.sub [0, 1, 2, 3, 4] rfl (J64 x1 x2 x3 x5 (0 : Int32) s0 hf)
      have J59 : ∀ (x1 : Int32) (x2 : Int32) (x3 : Int32) (x5 : Int32) (s0 : Int32), X9_inRoom_J59 (it X9_inRoom_B6 (fun _ _ _ _ _ _ => none) n6) z x1 x2 x3 x5 s0 = some q → V K (wM cy A z) 59 [(0, .ref (A 0)), (1, .int x1), (2, .int x2), (3, .int x3), (5, .int x5)] [.int s0] := by
        intro x1 x2 x3 x5 s0 hf
        unfold X9_inRoom_J59 at hf
        refine r_iconst hc (1 : Int32) dX9_inRoom_59 rfl ?_
        refine r_goto hc 64 dX9_inRoom_60 (by decide) ?_
        exact V.sub [0, 1, 2, 3, 4] rfl (J64 x1 x2 x3 x5 (1 : Int32) s0 hf)
      intro x1 x2 x3 x4 x5 hf
      replace hf : X9_inRoom_B6 (it X9_inRoom_B6 (fun _ _ _ _ _ _ => none) n6) z x1 x2 x3 x4 x5 = some q := hf
      unfold X9_inRoom_B6 at hf
      refine r_iload hc 5 dX9_inRoom_6 rfl ?_
      refine r_bipush hc (8 : Int32) dX9_inRoom_8 rfl ?_
      refine r_icmp_ge hc 73 dX9_inRoom_10 (by decide) (fun c_1 => ?_) (fun c_1 => ?_)
      · have hf := o_pos c_1 hf
        refine r_iload hc 4 dX9_inRoom_73 rfl ?_
        exact r_iret hK (Option.some.inj hf) rfl dX9_inRoom_75
      · have hf := o_neg c_1 hf
        refine r_iload hc 4 dX9_inRoom_13 rfl ?_
        refine r_aload_n hc 0 dX9_inRoom_15 rfl ?_
        refine r_get (v := .int (M_there z)) hc iw_X9 0 rfl rfl 5 (by decide) mw_865 rfl dX9_inRoom_16 ?_
        refine r_iload hc 5 dX9_inRoom_19 rfl ?_
        obtain ⟨q21, hq21, hf⟩ := o_bind hf
        refine r_callSi (ws' := (wM cy A z)) (As := [.int (M_there z), .int x5]) (rest := [.int x4]) hc (c_X9_has  (M_there z) x5 q21 hq21) ks_X9_has mw_970 _ _ _ (Sp_none _) rfl rfl (Nat.le_of_ble_eq_true rfl) ⟨by decide, by decide⟩ dX9_inRoom_21 ?_
        refine r_if_eq hc 63 dX9_inRoom_24 (by decide) (fun c_2 => ?_) (fun c_2 => ?_)
        · have hf := o_pos c_2 hf
          exact V.sub [0, 1, 2, 3, 5] rfl (J63 x1 x2 x3 x5 x4 hf)
        · have hf := o_neg c_2 hf
          refine r_iload hc 5 dX9_inRoom_27 rfl ?_
          refine r_iload_n hc 3 dX9_inRoom_29 rfl ?_
          refine r_icmp_eq hc 63 dX9_inRoom_30 (by decide) (fun c_3 => ?_) (fun c_3 => ?_)
          · have hf := o_pos c_3 hf
            exact V.sub [0, 1, 2, 3, 5] rfl (J63 x1 x2 x3 x5 x4 hf)
          · have hf := o_neg c_3 hf
            refine r_aload_n hc 0 dX9_inRoom_33 rfl ?_
            refine r_get (v := .ref (A 6)) hc iw_X9 0 rfl rfl 7 (by decide) mw_867 rfl dX9_inRoom_34 ?_
            refine r_iload hc 5 dX9_inRoom_37 rfl ?_
            obtain ⟨i_4, hf⟩ := chk_some hf
            refine r_iald (f := (M_place z)) hc 6 rfl i_4 dX9_inRoom_39 ?_
            refine r_iload_n hc 1 dX9_inRoom_40 rfl ?_
            refine r_icmp_ne hc 63 dX9_inRoom_41 (by decide) (fun c_5 => ?_) (fun c_5 => ?_)
            · have hf := o_neg c_5 hf
              exact V.sub [0, 1, 2, 3, 5] rfl (J63 x1 x2 x3 x5 x4 hf)
            · have hf := o_pos c_5 hf
              refine r_iload_n hc 2 dX9_inRoom_44 rfl ?_
              refine r_if_lt hc 59 dX9_inRoom_45 (by decide) (fun c_6 => ?_) (fun c_6 => ?_)
              · have hf := o_pos c_6 hf
                exact V.sub [0, 1, 2, 3, 5] rfl (J59 x1 x2 x3 x5 x4 hf)
              · have hf := o_neg c_6 hf
                refine r_aload_n hc 0 dX9_inRoom_48 rfl ?_
                refine r_get (v := .ref (A 7)) hc iw_X9 0 rfl rfl 8 (by decide) mw_868 rfl dX9_inRoom_49 ?_
                refine r_iload hc 5 dX9_inRoom_52 rfl ?_
                obtain ⟨i_7, hf⟩ := chk_some hf
                refine r_iald (f := (M_busy z)) hc 7 rfl i_7 dX9_inRoom_54 ?_
                refine r_iload_n hc 2 dX9_inRoom_55 rfl ?_
                refine r_icmp_ne hc 63 dX9_inRoom_56 (by decide) (fun c_8 => ?_) (fun c_8 => ?_)
                · have hf := o_neg c_8 hf
                  exact V.sub [0, 1, 2, 3, 5] rfl (J63 x1 x2 x3 x5 x4 hf)
                · have hf := o_pos c_8 hf
                  exact V.sub [0, 1, 2, 3, 5] rfl (J59 x1 x2 x3 x5 x4 hf)
  show V K (wM cy A z) 0 [(0, .ref (A 0)), (1, .int x1), (2, .int x2), (3, .int x3)] []
  unfold f_X9_inRoom at hf
  refine r_iconst hc (0 : Int32) dX9_inRoom_0 rfl ?_
  refine r_istore hc [(4, .int (0 : Int32)), (0, .ref (A 0)), (1, .int x1), (2, .int x2), (3, .int x3)] dX9_inRoom_1 (by decide) rfl ?_
  refine r_iconst hc (0 : Int32) dX9_inRoom_3 rfl ?_
  refine r_istore hc [(5, .int (0 : Int32)), (4, .int (0 : Int32)), (0, .ref (A 0)), (1, .int x1), (2, .int x2), (3, .int x3)] dX9_inRoom_4 (by decide) rfl ?_
  exact V.sub [2, 3, 4, 5, 1, 0] rfl (L6 FU x1 x2 x3 (0 : Int32) (0 : Int32) hf)
def X9_room_J116 (z : MS) (x1 : Int32) (x2 : Int32) (x3 : Int32) (s0 : Int32) : Option (Int32 × MS) :=
  (if (4 : Int32) ≤ x2 then (if x2 = (4 : Int32) then (chk x1 6 (ltA (M_set_size z (upd (M_size z) (x1).toNatClampNeg x3)) fun z148 => (some (s0, z148)))) else (chk x1 6 (ltA (M_set_chairs z (upd (M_chairs z) (x1).toNatClampNeg x3)) fun z158 => (some (s0, z158))))) else (chk (((4 : Int32) * x1) + x2) 24 (ltA (M_set_things z (upd (M_things z) ((((4 : Int32) * x1) + x2)).toNatClampNeg x3)) fun z133 => (some (s0, z133)))))
def X9_room_J78 (z : MS) (x1 : Int32) (x2 : Int32) (x3 : Int32) : Option (Int32 × MS) :=
  (if (4 : Int32) ≤ x2 then (if x2 = (4 : Int32) then (chk x1 6 (X9_room_J116 z x1 x2 x3 ((M_size z) (x1).toNatClampNeg))) else (chk x1 6 (X9_room_J116 z x1 x2 x3 ((M_chairs z) (x1).toNatClampNeg)))) else (chk (((4 : Int32) * x1) + x2) 24 (X9_room_J116 z x1 x2 x3 ((M_things z) ((((4 : Int32) * x1) + x2)).toNatClampNeg))))
def X9_room_J58 (z : MS) (x1 : Int32) (x2 : Int32) (x3 : Int32) : Option (Int32 × MS) :=
  (if x2 = (5 : Int32) then ((f_X9_inRoom z x1 (2 : Int32) (-6 : Int32)).bind fun q68 => (if q68 ≤ x3 then (X9_room_J78 z x1 x2 x3) else (some ((-3 : Int32), z)))) else (X9_room_J78 z x1 x2 x3))
def X9_room_J30 (z : MS) (x1 : Int32) (x2 : Int32) (x3 : Int32) (s0 : Int32) (s1 : Int32) : Option (Int32 × MS) :=
  ((f_X9_in s1 s0 (9 : Int32)).bind fun q32 => (if q32 = 0 then (some ((-2 : Int32), z)) else (if x2 = (4 : Int32) then ((f_X9_inRoom z x1 (-1 : Int32) (-6 : Int32)).bind fun q51 => (if x3 < q51 then (some ((-3 : Int32), z)) else (X9_room_J58 z x1 x2 x3))) else (X9_room_J58 z x1 x2 x3))))
def f_X9_room (z : MS) (x1 : Int32) (x2 : Int32) (x3 : Int32) : Option (Int32 × MS) :=
  ((f_X9_isRoom z x1).bind fun q2 => (if q2 = 0 then (some ((-1 : Int32), z)) else ((f_X9_in x2 (0 : Int32) (5 : Int32)).bind fun q13 => (if q13 = 0 then (some ((-2 : Int32), z)) else (if x2 = (4 : Int32) then (X9_room_J30 z x1 x2 x3 (1 : Int32) x3) else (X9_room_J30 z x1 x2 x3 (0 : Int32) x3))))))
theorem kv_X9_room : KV RX9 yX9_room cX9_room 5 (some .int) 3 := ⟨mw_959, mw_960, mw_65, mw_961, by decide +kernel⟩
set_option maxHeartbeats 8000000 in
set_option maxRecDepth 100000 in
theorem c_X9_room {l : Launch} {E : va_G} {cy : Nat → ClassId} (A : Nat → Nat) (z : MS) (x1 : Int32) (x2 : Int32) (x3 : Int32) (q : Int32 × MS) (hf : f_X9_room z x1 x2 x3 = some q) : Ci l yX9_room cX9_room 5 (some .int) 3 106 E cy [.ref (A 0), .int x1, .int x2, .int x3] (wM cy A z) q.1 (wM cy A q.2) := by
  refine Ci.of RX9 (by decide) rfl (Nat.le_of_ble_eq_true rfl) ?_
  intro K hK
  have hc := hK.cq
  have J116 : ∀ (z : MS) (x1 : Int32) (x2 : Int32) (x3 : Int32) (s0 : Int32), X9_room_J116  z x1 x2 x3 s0 = some q → V K (wM cy A z) 116 [(0, .ref (A 0)), (1, .int x1), (2, .int x2), (3, .int x3)] [.int s0] := by
    intro z x1 x2 x3 s0 hf
    unfold X9_room_J116 at hf
    refine r_istore hc [(4, .int s0), (0, .ref (A 0)), (1, .int x1), (2, .int x2), (3, .int x3)] dX9_room_116 (by decide) rfl ?_
    refine r_iload_n hc 3 dX9_room_118 rfl ?_
    refine r_iconst hc (4 : Int32) dX9_room_119 rfl ?_
    refine r_icmp_ge hc 137 dX9_room_120 (by decide) (fun c_14 => ?_) (fun c_14 => ?_)
    · have hf := o_pos c_14 hf
      refine r_iload_n hc 3 dX9_room_137 rfl ?_
      refine r_iconst hc (4 : Int32) dX9_room_138 rfl ?_
      refine r_icmp_ne hc 152 dX9_room_139 (by decide) (fun c_15 => ?_) (fun c_15 => ?_)
      · have hf := o_neg c_15 hf
        refine r_aload_n hc 1 dX9_room_152 rfl ?_
        refine r_get (v := .ref (A 3)) hc iw_X9 0 rfl rfl 3 (by decide) mw_863 rfl dX9_room_153 ?_
        refine r_iload_n hc 2 dX9_room_156 rfl ?_
        refine r_iload_n hc 4 dX9_room_157 rfl ?_
        obtain ⟨i_16, hf⟩ := chk_some hf
        obtain ⟨z158, ez158, hf⟩ := lt_some hf
        refine r_iast (f := (M_chairs z)) hc 3 rfl i_16 dX9_room_158 _ rfl (wM cy A z158) (wM_s_chairs ez158) ?_
        refine r_iload hc 0 dX9_room_159 rfl ?_
        exact r_iret hK (congrArg (fun z9 => z9.1) (Option.some.inj hf)) (congrArg (fun z9 => (wM cy A z9.2)) (Option.some.inj hf)) dX9_room_161
      · have hf := o_pos c_15 hf
        refine r_aload_n hc 1 dX9_room_142 rfl ?_
        refine r_get (v := .ref (A 2)) hc iw_X9 0 rfl rfl 2 (by decide) mw_862 rfl dX9_room_143 ?_
        refine r_iload_n hc 2 dX9_room_146 rfl ?_
        refine r_iload_n hc 4 dX9_room_147 rfl ?_
        obtain ⟨i_17, hf⟩ := chk_some hf
        obtain ⟨z148, ez148, hf⟩ := lt_some hf
        refine r_iast (f := (M_size z)) hc 2 rfl i_17 dX9_room_148 _ rfl (wM cy A z148) (wM_s_size ez148) ?_
        refine r_goto hc 159 dX9_room_149 (by decide) ?_
        refine r_iload hc 0 dX9_room_159 rfl ?_
        exact r_iret hK (congrArg (fun z9 => z9.1) (Option.some.inj hf)) (congrArg (fun z9 => (wM cy A z9.2)) (Option.some.inj hf)) dX9_room_161
    · have hf := o_neg c_14 hf
      refine r_aload_n hc 1 dX9_room_123 rfl ?_
      refine r_get (v := .ref (A 1)) hc iw_X9 0 rfl rfl 1 (by decide) mw_861 rfl dX9_room_124 ?_
      refine r_iconst hc (4 : Int32) dX9_room_127 rfl ?_
      refine r_iload_n hc 2 dX9_room_128 rfl ?_
      refine r_imul hc dX9_room_129 ?_
      refine r_iload_n hc 3 dX9_room_130 rfl ?_
      refine r_iadd hc dX9_room_131 ?_
      refine r_iload_n hc 4 dX9_room_132 rfl ?_
      obtain ⟨i_18, hf⟩ := chk_some hf
      obtain ⟨z133, ez133, hf⟩ := lt_some hf
      refine r_iast (f := (M_things z)) hc 1 rfl i_18 dX9_room_133 _ rfl (wM cy A z133) (wM_s_things ez133) ?_
      refine r_goto hc 159 dX9_room_134 (by decide) ?_
      refine r_iload hc 0 dX9_room_159 rfl ?_
      exact r_iret hK (congrArg (fun z9 => z9.1) (Option.some.inj hf)) (congrArg (fun z9 => (wM cy A z9.2)) (Option.some.inj hf)) dX9_room_161
  have J78 : ∀ (z : MS) (x1 : Int32) (x2 : Int32) (x3 : Int32), X9_room_J78  z x1 x2 x3 = some q → V K (wM cy A z) 78 [(0, .ref (A 0)), (1, .int x1), (2, .int x2), (3, .int x3)] [] := by
    intro z x1 x2 x3 hf
    unfold X9_room_J78 at hf
    refine r_iload_n hc 2 dX9_room_78 rfl ?_
    refine r_iconst hc (4 : Int32) dX9_room_79 rfl ?_
    refine r_icmp_ge hc 96 dX9_room_80 (by decide) (fun c_9 => ?_) (fun c_9 => ?_)
    · have hf := o_pos c_9 hf
      refine r_iload_n hc 2 dX9_room_96 rfl ?_
      refine r_iconst hc (4 : Int32) dX9_room_97 rfl ?_
      refine r_icmp_ne hc 110 dX9_room_98 (by decide) (fun c_10 => ?_) (fun c_10 => ?_)
      · have hf := o_neg c_10 hf
        refine r_aload_n hc 0 dX9_room_110 rfl ?_
        refine r_get (v := .ref (A 3)) hc iw_X9 0 rfl rfl 3 (by decide) mw_863 rfl dX9_room_111 ?_
        refine r_iload_n hc 1 dX9_room_114 rfl ?_
        obtain ⟨i_11, hf⟩ := chk_some hf
        refine r_iald (f := (M_chairs z)) hc 3 rfl i_11 dX9_room_115 ?_
        exact V.sub [0, 1, 2, 3] rfl (J116 z x1 x2 x3 ((M_chairs z) (x1).toNatClampNeg) hf)
      · have hf := o_pos c_10 hf
        refine r_aload_n hc 0 dX9_room_101 rfl ?_
        refine r_get (v := .ref (A 2)) hc iw_X9 0 rfl rfl 2 (by decide) mw_862 rfl dX9_room_102 ?_
        refine r_iload_n hc 1 dX9_room_105 rfl ?_
        obtain ⟨i_12, hf⟩ := chk_some hf
        refine r_iald (f := (M_size z)) hc 2 rfl i_12 dX9_room_106 ?_
        refine r_goto hc 116 dX9_room_107 (by decide) ?_
        exact V.sub [0, 1, 2, 3] rfl (J116 z x1 x2 x3 ((M_size z) (x1).toNatClampNeg) hf)
    · have hf := o_neg c_9 hf
      refine r_aload_n hc 0 dX9_room_83 rfl ?_
      refine r_get (v := .ref (A 1)) hc iw_X9 0 rfl rfl 1 (by decide) mw_861 rfl dX9_room_84 ?_
      refine r_iconst hc (4 : Int32) dX9_room_87 rfl ?_
      refine r_iload_n hc 1 dX9_room_88 rfl ?_
      refine r_imul hc dX9_room_89 ?_
      refine r_iload_n hc 2 dX9_room_90 rfl ?_
      refine r_iadd hc dX9_room_91 ?_
      obtain ⟨i_13, hf⟩ := chk_some hf
      refine r_iald (f := (M_things z)) hc 1 rfl i_13 dX9_room_92 ?_
      refine r_goto hc 116 dX9_room_93 (by decide) ?_
      exact V.sub [0, 1, 2, 3] rfl (J116 z x1 x2 x3 ((M_things z) ((((4 : Int32) * x1) + x2)).toNatClampNeg) hf)
  have J58 : ∀ (z : MS) (x1 : Int32) (x2 : Int32) (x3 : Int32), X9_room_J58  z x1 x2 x3 = some q → V K (wM cy A z) 58 [(0, .ref (A 0)), (1, .int x1), (2, .int x2), (3, .int x3)] [] := by
    intro z x1 x2 x3 hf
    unfold X9_room_J58 at hf
    refine r_iload_n hc 2 dX9_room_58 rfl ?_
    refine r_iconst hc (5 : Int32) dX9_room_59 rfl ?_
    refine r_icmp_ne hc 78 dX9_room_60 (by decide) (fun c_7 => ?_) (fun c_7 => ?_)
    · have hf := o_neg c_7 hf
      exact V.sub [0, 1, 2, 3] rfl (J78 z x1 x2 x3 hf)
    · have hf := o_pos c_7 hf
      refine r_aload_n hc 0 dX9_room_63 rfl ?_
      refine r_iload_n hc 1 dX9_room_64 rfl ?_
      refine r_iconst hc (2 : Int32) dX9_room_65 rfl ?_
      refine r_bipush hc (-6 : Int32) dX9_room_66 rfl ?_
      obtain ⟨q68, hq68, hf⟩ := o_bind hf
      refine r_callVi (ws' := (wM cy A z)) (As := [.int x1, .int (2 : Int32), .int (-6 : Int32)]) (rest := []) hc (c_X9_inRoom A z x1 (2 : Int32) (-6 : Int32) q68 hq68) kv_X9_inRoom mw_966 0 rfl rfl _ _ _ (Sp_all _ _) rfl rfl (Nat.le_of_ble_eq_true rfl) ⟨by decide, by decide⟩ dX9_room_68 ?_
      refine r_iload_n hc 3 dX9_room_71 rfl ?_
      refine r_icmp_le hc 78 dX9_room_72 (by decide) (fun c_8 => ?_) (fun c_8 => ?_)
      · have hf := o_pos c_8 hf
        exact V.sub [0, 1, 2, 3] rfl (J78 z x1 x2 x3 hf)
      · have hf := o_neg c_8 hf
        refine r_bipush hc (-3 : Int32) dX9_room_75 rfl ?_
        exact r_iret hK (congrArg (fun z9 => z9.1) (Option.some.inj hf)) (congrArg (fun z9 => (wM cy A z9.2)) (Option.some.inj hf)) dX9_room_77
  have J30 : ∀ (z : MS) (x1 : Int32) (x2 : Int32) (x3 : Int32) (s0 : Int32) (s1 : Int32), X9_room_J30  z x1 x2 x3 s0 s1 = some q → V K (wM cy A z) 30 [(0, .ref (A 0)), (1, .int x1), (2, .int x2), (3, .int x3)] [.int s0, .int s1] := by
    intro z x1 x2 x3 s0 s1 hf
    unfold X9_room_J30 at hf
    refine r_bipush hc (9 : Int32) dX9_room_30 rfl ?_
    obtain ⟨q32, hq32, hf⟩ := o_bind hf
    refine r_callSi (ws' := (wM cy A z)) (As := [.int s1, .int s0, .int (9 : Int32)]) (rest := []) hc (c_X9_in  s1 s0 (9 : Int32) q32 hq32) ks_X9_in mw_955 _ _ _ (Sp_none _) rfl rfl (Nat.le_of_ble_eq_true rfl) ⟨by decide, by decide⟩ dX9_room_32 ?_
    refine r_if_ne hc 41 dX9_room_35 (by decide) (fun c_4 => ?_) (fun c_4 => ?_)
    · have hf := o_neg c_4 hf
      refine r_iload_n hc 2 dX9_room_41 rfl ?_
      refine r_iconst hc (4 : Int32) dX9_room_42 rfl ?_
      refine r_icmp_ne hc 58 dX9_room_43 (by decide) (fun c_5 => ?_) (fun c_5 => ?_)
      · have hf := o_neg c_5 hf
        exact V.sub [0, 1, 2, 3] rfl (J58 z x1 x2 x3 hf)
      · have hf := o_pos c_5 hf
        refine r_aload_n hc 0 dX9_room_46 rfl ?_
        refine r_iload_n hc 1 dX9_room_47 rfl ?_
        refine r_iconst hc (-1 : Int32) dX9_room_48 rfl ?_
        refine r_bipush hc (-6 : Int32) dX9_room_49 rfl ?_
        obtain ⟨q51, hq51, hf⟩ := o_bind hf
        refine r_callVi (ws' := (wM cy A z)) (As := [.int x1, .int (-1 : Int32), .int (-6 : Int32)]) (rest := []) hc (c_X9_inRoom A z x1 (-1 : Int32) (-6 : Int32) q51 hq51) kv_X9_inRoom mw_966 0 rfl rfl _ _ _ (Sp_all _ _) rfl rfl (Nat.le_of_ble_eq_true rfl) ⟨by decide, by decide⟩ dX9_room_51 ?_
        refine r_iload_n hc 3 dX9_room_54 rfl ?_
        refine r_icmp_gt hc 75 dX9_room_55 (by decide) (fun c_6 => ?_) (fun c_6 => ?_)
        · have hf := o_pos c_6 hf
          refine r_bipush hc (-3 : Int32) dX9_room_75 rfl ?_
          exact r_iret hK (congrArg (fun z9 => z9.1) (Option.some.inj hf)) (congrArg (fun z9 => (wM cy A z9.2)) (Option.some.inj hf)) dX9_room_77
        · have hf := o_neg c_6 hf
          exact V.sub [0, 1, 2, 3] rfl (J58 z x1 x2 x3 hf)
    · have hf := o_pos c_4 hf
      refine r_bipush hc (-2 : Int32) dX9_room_38 rfl ?_
      exact r_iret hK (congrArg (fun z9 => z9.1) (Option.some.inj hf)) (congrArg (fun z9 => (wM cy A z9.2)) (Option.some.inj hf)) dX9_room_40
  show V K (wM cy A z) 0 [(0, .ref (A 0)), (1, .int x1), (2, .int x2), (3, .int x3)] []
  unfold f_X9_room at hf
  refine r_aload_n hc 0 dX9_room_0 rfl ?_
  refine r_iload_n hc 1 dX9_room_1 rfl ?_
  obtain ⟨q2, hq2, hf⟩ := o_bind hf
  refine r_callVi (ws' := (wM cy A z)) (As := [.int x1]) (rest := []) hc (c_X9_isRoom A z x1 q2 hq2) kv_X9_isRoom mw_962 0 rfl rfl _ _ _ (Sp_all _ _) rfl rfl (Nat.le_of_ble_eq_true rfl) ⟨by decide, by decide⟩ dX9_room_2 ?_
  refine r_if_ne hc 10 dX9_room_5 (by decide) (fun c_1 => ?_) (fun c_1 => ?_)
  · have hf := o_neg c_1 hf
    refine r_iload_n hc 2 dX9_room_10 rfl ?_
    refine r_iconst hc (0 : Int32) dX9_room_11 rfl ?_
    refine r_iconst hc (5 : Int32) dX9_room_12 rfl ?_
    obtain ⟨q13, hq13, hf⟩ := o_bind hf
    refine r_callSi (ws' := (wM cy A z)) (As := [.int x2, .int (0 : Int32), .int (5 : Int32)]) (rest := []) hc (c_X9_in  x2 (0 : Int32) (5 : Int32) q13 hq13) ks_X9_in mw_955 _ _ _ (Sp_none _) rfl rfl (Nat.le_of_ble_eq_true rfl) ⟨by decide, by decide⟩ dX9_room_13 ?_
    refine r_if_eq hc 38 dX9_room_16 (by decide) (fun c_2 => ?_) (fun c_2 => ?_)
    · have hf := o_pos c_2 hf
      refine r_bipush hc (-2 : Int32) dX9_room_38 rfl ?_
      exact r_iret hK (congrArg (fun z9 => z9.1) (Option.some.inj hf)) (congrArg (fun z9 => (wM cy A z9.2)) (Option.some.inj hf)) dX9_room_40
    · have hf := o_neg c_2 hf
      refine r_iload_n hc 3 dX9_room_19 rfl ?_
      refine r_iload_n hc 2 dX9_room_20 rfl ?_
      refine r_iconst hc (4 : Int32) dX9_room_21 rfl ?_
      refine r_icmp_ne hc 29 dX9_room_22 (by decide) (fun c_3 => ?_) (fun c_3 => ?_)
      · have hf := o_neg c_3 hf
        refine r_iconst hc (0 : Int32) dX9_room_29 rfl ?_
        exact V.sub [0, 1, 2, 3] rfl (J30 z x1 x2 x3 (0 : Int32) x3 hf)
      · have hf := o_pos c_3 hf
        refine r_iconst hc (1 : Int32) dX9_room_25 rfl ?_
        refine r_goto hc 30 dX9_room_26 (by decide) ?_
        exact V.sub [0, 1, 2, 3] rfl (J30 z x1 x2 x3 (1 : Int32) x3 hf)
  · have hf := o_pos c_1 hf
    refine r_iconst hc (-1 : Int32) dX9_room_8 rfl ?_
    exact r_iret hK (congrArg (fun z9 => z9.1) (Option.some.inj hf)) (congrArg (fun z9 => (wM cy A z9.2)) (Option.some.inj hf)) dX9_room_9
def X9_standsIn_J61 (z : MS) : Option (Int32) :=
  (some ((1 : Int32)))
def X9_standsIn_J41 (z : MS) (x1 : Int32) (x2 : Int32) (x3 : Int32) : Option (Int32) :=
  (chk x1 8 (if ((M_place z) (x1).toNatClampNeg) = x3 then (chk x1 8 (if ((M_with z) (x1).toNatClampNeg) = x2 then (X9_standsIn_J61 z) else (some ((0 : Int32))))) else (some ((0 : Int32)))))
def f_X9_standsIn (z : MS) (x1 : Int32) (x2 : Int32) (x3 : Int32) : Option (Int32) :=
  ((f_X9_has (M_there z) x1).bind fun q5 => (if q5 = 0 then (some ((0 : Int32))) else (chk x1 8 (if ((M_busy z) (x1).toNatClampNeg) = (3 : Int32) then (chk x1 8 (if ((M_place z) (x1).toNatClampNeg) = x2 then (chk x1 8 (if ((M_with z) (x1).toNatClampNeg) = x3 then (X9_standsIn_J61 z) else (X9_standsIn_J41 z x1 x2 x3))) else (X9_standsIn_J41 z x1 x2 x3))) else (some ((0 : Int32)))))))
theorem kv_X9_standsIn : KV RX9 yX9_standsIn cX9_standsIn 4 (some .boolean) 3 := ⟨mw_979, mw_26, mw_65, mw_980, by decide +kernel⟩
set_option maxHeartbeats 8000000 in
set_option maxRecDepth 100000 in
theorem c_X9_standsIn {l : Launch} {E : va_G} {cy : Nat → ClassId} (A : Nat → Nat) (z : MS) (x1 : Int32) (x2 : Int32) (x3 : Int32) (q : Int32) (hf : f_X9_standsIn z x1 x2 x3 = some q) : Ci l yX9_standsIn cX9_standsIn 4 (some .boolean) 2 81 E cy [.ref (A 0), .int x1, .int x2, .int x3] (wM cy A z) q (wM cy A z) := by
  refine Ci.of RX9 (by decide) rfl (Nat.le_of_ble_eq_true rfl) ?_
  intro K hK
  have hc := hK.cq
  have J61 : X9_standsIn_J61  z = some q → V K (wM cy A z) 61 [] [] := by
    intro  hf
    unfold X9_standsIn_J61 at hf
    refine r_iconst hc (1 : Int32) dX9_standsIn_61 rfl ?_
    refine r_goto hc 66 dX9_standsIn_62 (by decide) ?_
    exact r_zret hK rfl (Option.some.inj hf) rfl dX9_standsIn_66
  have J41 : ∀ (x1 : Int32) (x2 : Int32) (x3 : Int32), X9_standsIn_J41  z x1 x2 x3 = some q → V K (wM cy A z) 41 [(0, .ref (A 0)), (1, .int x1), (2, .int x2), (3, .int x3)] [] := by
    intro x1 x2 x3 hf
    unfold X9_standsIn_J41 at hf
    refine r_aload_n hc 0 dX9_standsIn_41 rfl ?_
    refine r_get (v := .ref (A 6)) hc iw_X9 0 rfl rfl 7 (by decide) mw_867 rfl dX9_standsIn_42 ?_
    refine r_iload_n hc 1 dX9_standsIn_45 rfl ?_
    obtain ⟨i_8, hf⟩ := chk_some hf
    refine r_iald (f := (M_place z)) hc 6 rfl i_8 dX9_standsIn_46 ?_
    refine r_iload_n hc 3 dX9_standsIn_47 rfl ?_
    refine r_icmp_ne hc 65 dX9_standsIn_48 (by decide) (fun c_9 => ?_) (fun c_9 => ?_)
    · have hf := o_neg c_9 hf
      refine r_iconst hc (0 : Int32) dX9_standsIn_65 rfl ?_
      exact r_zret hK rfl (Option.some.inj hf) rfl dX9_standsIn_66
    · have hf := o_pos c_9 hf
      refine r_aload_n hc 0 dX9_standsIn_51 rfl ?_
      refine r_get (v := .ref (A 8)) hc iw_X9 0 rfl rfl 9 (by decide) mw_869 rfl dX9_standsIn_52 ?_
      refine r_iload_n hc 1 dX9_standsIn_55 rfl ?_
      obtain ⟨i_10, hf⟩ := chk_some hf
      refine r_iald (f := (M_with z)) hc 8 rfl i_10 dX9_standsIn_56 ?_
      refine r_iload_n hc 2 dX9_standsIn_57 rfl ?_
      refine r_icmp_ne hc 65 dX9_standsIn_58 (by decide) (fun c_11 => ?_) (fun c_11 => ?_)
      · have hf := o_neg c_11 hf
        refine r_iconst hc (0 : Int32) dX9_standsIn_65 rfl ?_
        exact r_zret hK rfl (Option.some.inj hf) rfl dX9_standsIn_66
      · have hf := o_pos c_11 hf
        exact V.sub [] rfl (J61  hf)
  show V K (wM cy A z) 0 [(0, .ref (A 0)), (1, .int x1), (2, .int x2), (3, .int x3)] []
  unfold f_X9_standsIn at hf
  refine r_aload_n hc 0 dX9_standsIn_0 rfl ?_
  refine r_get (v := .int (M_there z)) hc iw_X9 0 rfl rfl 5 (by decide) mw_865 rfl dX9_standsIn_1 ?_
  refine r_iload_n hc 1 dX9_standsIn_4 rfl ?_
  obtain ⟨q5, hq5, hf⟩ := o_bind hf
  refine r_callSi (ws' := (wM cy A z)) (As := [.int (M_there z), .int x1]) (rest := []) hc (c_X9_has  (M_there z) x1 q5 hq5) ks_X9_has mw_970 _ _ _ (Sp_none _) rfl rfl (Nat.le_of_ble_eq_true rfl) ⟨by decide, by decide⟩ dX9_standsIn_5 ?_
  refine r_if_eq hc 65 dX9_standsIn_8 (by decide) (fun c_1 => ?_) (fun c_1 => ?_)
  · have hf := o_pos c_1 hf
    refine r_iconst hc (0 : Int32) dX9_standsIn_65 rfl ?_
    exact r_zret hK rfl (Option.some.inj hf) rfl dX9_standsIn_66
  · have hf := o_neg c_1 hf
    refine r_aload_n hc 0 dX9_standsIn_11 rfl ?_
    refine r_get (v := .ref (A 7)) hc iw_X9 0 rfl rfl 8 (by decide) mw_868 rfl dX9_standsIn_12 ?_
    refine r_iload_n hc 1 dX9_standsIn_15 rfl ?_
    obtain ⟨i_2, hf⟩ := chk_some hf
    refine r_iald (f := (M_busy z)) hc 7 rfl i_2 dX9_standsIn_16 ?_
    refine r_iconst hc (3 : Int32) dX9_standsIn_17 rfl ?_
    refine r_icmp_ne hc 65 dX9_standsIn_18 (by decide) (fun c_3 => ?_) (fun c_3 => ?_)
    · have hf := o_neg c_3 hf
      refine r_iconst hc (0 : Int32) dX9_standsIn_65 rfl ?_
      exact r_zret hK rfl (Option.some.inj hf) rfl dX9_standsIn_66
    · have hf := o_pos c_3 hf
      refine r_aload_n hc 0 dX9_standsIn_21 rfl ?_
      refine r_get (v := .ref (A 6)) hc iw_X9 0 rfl rfl 7 (by decide) mw_867 rfl dX9_standsIn_22 ?_
      refine r_iload_n hc 1 dX9_standsIn_25 rfl ?_
      obtain ⟨i_4, hf⟩ := chk_some hf
      refine r_iald (f := (M_place z)) hc 6 rfl i_4 dX9_standsIn_26 ?_
      refine r_iload_n hc 2 dX9_standsIn_27 rfl ?_
      refine r_icmp_ne hc 41 dX9_standsIn_28 (by decide) (fun c_5 => ?_) (fun c_5 => ?_)
      · have hf := o_neg c_5 hf
        exact V.sub [0, 1, 2, 3] rfl (J41 x1 x2 x3 hf)
      · have hf := o_pos c_5 hf
        refine r_aload_n hc 0 dX9_standsIn_31 rfl ?_
        refine r_get (v := .ref (A 8)) hc iw_X9 0 rfl rfl 9 (by decide) mw_869 rfl dX9_standsIn_32 ?_
        refine r_iload_n hc 1 dX9_standsIn_35 rfl ?_
        obtain ⟨i_6, hf⟩ := chk_some hf
        refine r_iald (f := (M_with z)) hc 8 rfl i_6 dX9_standsIn_36 ?_
        refine r_iload_n hc 3 dX9_standsIn_37 rfl ?_
        refine r_icmp_eq hc 61 dX9_standsIn_38 (by decide) (fun c_7 => ?_) (fun c_7 => ?_)
        · have hf := o_pos c_7 hf
          exact V.sub [] rfl (J61  hf)
        · have hf := o_neg c_7 hf
          exact V.sub [0, 1, 2, 3] rfl (J41 x1 x2 x3 hf)
def X9_door_J63 (k38 : MS → Int32 → Int32 → Int32 → Int32 → Option (Int32 × MS)) (z : MS) (x1 : Int32) (x2 : Int32) (x3 : Int32) (x4 : Int32) : Option (Int32 × MS) :=
  (k38 z x1 x2 x3 (x4 + (1 : Int32)))
def X9_door_B38 (k38 : MS → Int32 → Int32 → Int32 → Int32 → Option (Int32 × MS)) (z : MS) (x1 : Int32) (x2 : Int32) (x3 : Int32) (x4 : Int32) : Option (Int32 × MS) :=
  (if (8 : Int32) ≤ x4 then (chk (((6 : Int32) * x1) + x2) 36 (chk (((6 : Int32) * x1) + x2) 36 (ltA (M_set_width z (upd (M_width z) ((((6 : Int32) * x1) + x2)).toNatClampNeg x3)) fun z93 => (chk (((6 : Int32) * x2) + x1) 36 (ltA (M_set_width z93 (upd (M_width z93) ((((6 : Int32) * x2) + x1)).toNatClampNeg x3)) fun z105 => (some (((M_width z) ((((6 : Int32) * x1) + x2)).toNatClampNeg), z105))))))) else (if x3 = 0 then ((f_X9_standsIn z x4 x1 x2).bind fun q54 => (if q54 = 0 then (X9_door_J63 k38 z x1 x2 x3 x4) else (some ((-3 : Int32), z)))) else (X9_door_J63 k38 z x1 x2 x3 x4)))
def f_X9_door (z : MS) (x1 : Int32) (x2 : Int32) (x3 : Int32) : Option (Int32 × MS) :=
  ((f_X9_isRoom z x1).bind fun q2 => (if q2 = 0 then (some ((-1 : Int32), z)) else ((f_X9_isRoom z x2).bind fun q10 => (if q10 = 0 then (some ((-1 : Int32), z)) else (if x1 = x2 then (some ((-1 : Int32), z)) else ((f_X9_in x3 (0 : Int32) (3 : Int32)).bind fun q26 => (if q26 = 0 then (some ((-2 : Int32), z)) else (it X9_door_B38 (fun _ _ _ _ _ => none) FU z x1 x2 x3 (0 : Int32)))))))))
theorem kv_X9_door : KV RX9 yX9_door cX9_door 5 (some .int) 3 := ⟨mw_974, mw_975, mw_65, mw_976, by decide +kernel⟩
set_option maxHeartbeats 8000000 in
set_option maxRecDepth 100000 in
theorem c_X9_door {l : Launch} {E : va_G} {cy : Nat → ClassId} (A : Nat → Nat) (z : MS) (x1 : Int32) (x2 : Int32) (x3 : Int32) (q : Int32 × MS) (hf : f_X9_door z x1 x2 x3 = some q) : Ci l yX9_door cX9_door 5 (some .int) 3 104 E cy [.ref (A 0), .int x1, .int x2, .int x3] (wM cy A z) q.1 (wM cy A q.2) := by
  refine Ci.of RX9 (by decide) rfl (Nat.le_of_ble_eq_true rfl) ?_
  intro K hK
  have hc := hK.cq
  have L38 : ∀ (n38 : Nat) (z : MS) (x1 : Int32) (x2 : Int32) (x3 : Int32) (x4 : Int32), it X9_door_B38 (fun _ _ _ _ _ => none) n38 z x1 x2 x3 x4 = some q → V K (wM cy A z) 38 [(0, .ref (A 0)), (1, .int x1), (2, .int x2), (3, .int x3), (4, .int x4)] [] := by
    intro n38
    induction n38 with
    | zero => intro z x1 x2 x3 x4 hf; exact (o_none hf).elim
    | succ n38 ih38 =>
      have J63 : ∀ (z : MS) (x1 : Int32) (x2 : Int32) (x3 : Int32) (x4 : Int32), X9_door_J63 (it X9_door_B38 (fun _ _ _ _ _ => none) n38) z x1 x2 x3 x4 = some q → V K (wM cy A z) 63 [(0, .ref (A 0)), (1, .int x1), (2, .int x2), (3, .int x3), (4, .int x4)] [] := by
        intro z x1 x2 x3 x4 hf
        unfold X9_door_J63 at hf
        refine r_iinc hc 4 [(4, .int (x4 + (1 : Int32))), (0, .ref (A 0)), (1, .int x1), (2, .int x2), (3, .int x3)] (x4 + (1 : Int32)) dX9_door_63 rfl rfl (by decide) rfl ?_
        refine r_goto hc 38 dX9_door_66 (by decide) ?_
        exact V.sub [1, 2, 3, 4, 0] rfl (ih38 z x1 x2 x3 (x4 + (1 : Int32)) hf)
      intro z x1 x2 x3 x4 hf
      replace hf : X9_door_B38 (it X9_door_B38 (fun _ _ _ _ _ => none) n38) z x1 x2 x3 x4 = some q := hf
      unfold X9_door_B38 at hf
      refine r_iload hc 4 dX9_door_38 rfl ?_
      refine r_bipush hc (8 : Int32) dX9_door_40 rfl ?_
      refine r_icmp_ge hc 69 dX9_door_42 (by decide) (fun c_5 => ?_) (fun c_5 => ?_)
      · have hf := o_pos c_5 hf
        refine r_aload_n hc 0 dX9_door_69 rfl ?_
        refine r_get (v := .ref (A 4)) hc iw_X9 0 rfl rfl 4 (by decide) mw_864 rfl dX9_door_70 ?_
        refine r_bipush hc (6 : Int32) dX9_door_73 rfl ?_
        refine r_iload_n hc 1 dX9_door_75 rfl ?_
        refine r_imul hc dX9_door_76 ?_
        refine r_iload_n hc 2 dX9_door_77 rfl ?_
        refine r_iadd hc dX9_door_78 ?_
        obtain ⟨i_6, hf⟩ := chk_some hf
        refine r_iald (f := (M_width z)) hc 4 rfl i_6 dX9_door_79 ?_
        refine r_istore hc [(4, .int ((M_width z) ((((6 : Int32) * x1) + x2)).toNatClampNeg)), (0, .ref (A 0)), (1, .int x1), (2, .int x2), (3, .int x3)] dX9_door_80 (by decide) rfl ?_
        refine r_aload_n hc 1 dX9_door_82 rfl ?_
        refine r_get (v := .ref (A 4)) hc iw_X9 0 rfl rfl 4 (by decide) mw_864 rfl dX9_door_83 ?_
        refine r_bipush hc (6 : Int32) dX9_door_86 rfl ?_
        refine r_iload_n hc 2 dX9_door_88 rfl ?_
        refine r_imul hc dX9_door_89 ?_
        refine r_iload_n hc 3 dX9_door_90 rfl ?_
        refine r_iadd hc dX9_door_91 ?_
        refine r_iload_n hc 4 dX9_door_92 rfl ?_
        obtain ⟨i_7, hf⟩ := chk_some hf
        obtain ⟨z93, ez93, hf⟩ := lt_some hf
        refine r_iast (f := (M_width z)) hc 4 rfl i_7 dX9_door_93 _ rfl (wM cy A z93) (wM_s_width ez93) ?_
        refine r_aload_n hc 1 dX9_door_94 rfl ?_
        refine r_get (v := .ref (A 4)) hc iw_X9 0 rfl rfl 4 (by decide) mw_864 rfl dX9_door_95 ?_
        refine r_bipush hc (6 : Int32) dX9_door_98 rfl ?_
        refine r_iload_n hc 3 dX9_door_100 rfl ?_
        refine r_imul hc dX9_door_101 ?_
        refine r_iload_n hc 2 dX9_door_102 rfl ?_
        refine r_iadd hc dX9_door_103 ?_
        refine r_iload_n hc 4 dX9_door_104 rfl ?_
        obtain ⟨i_8, hf⟩ := chk_some hf
        obtain ⟨z105, ez105, hf⟩ := lt_some hf
        refine r_iast (f := (M_width z93)) hc 4 rfl i_8 dX9_door_105 _ rfl (wM cy A z105) (wM_s_width ez105) ?_
        refine r_iload hc 0 dX9_door_106 rfl ?_
        exact r_iret hK (congrArg (fun z9 => z9.1) (Option.some.inj hf)) (congrArg (fun z9 => (wM cy A z9.2)) (Option.some.inj hf)) dX9_door_108
      · have hf := o_neg c_5 hf
        refine r_iload_n hc 3 dX9_door_45 rfl ?_
        refine r_if_ne hc 63 dX9_door_46 (by decide) (fun c_9 => ?_) (fun c_9 => ?_)
        · have hf := o_neg c_9 hf
          exact V.sub [0, 1, 2, 3, 4] rfl (J63 z x1 x2 x3 x4 hf)
        · have hf := o_pos c_9 hf
          refine r_aload_n hc 0 dX9_door_49 rfl ?_
          refine r_iload hc 4 dX9_door_50 rfl ?_
          refine r_iload_n hc 1 dX9_door_52 rfl ?_
          refine r_iload_n hc 2 dX9_door_53 rfl ?_
          obtain ⟨q54, hq54, hf⟩ := o_bind hf
          refine r_callVi (ws' := (wM cy A z)) (As := [.int x4, .int x1, .int x2]) (rest := []) hc (c_X9_standsIn A z x4 x1 x2 q54 hq54) kv_X9_standsIn mw_977 0 rfl rfl _ _ _ (Sp_all _ _) rfl rfl (Nat.le_of_ble_eq_true rfl) ⟨by decide, by decide⟩ dX9_door_54 ?_
          refine r_if_eq hc 63 dX9_door_57 (by decide) (fun c_10 => ?_) (fun c_10 => ?_)
          · have hf := o_pos c_10 hf
            exact V.sub [0, 1, 2, 3, 4] rfl (J63 z x1 x2 x3 x4 hf)
          · have hf := o_neg c_10 hf
            refine r_bipush hc (-3 : Int32) dX9_door_60 rfl ?_
            exact r_iret hK (congrArg (fun z9 => z9.1) (Option.some.inj hf)) (congrArg (fun z9 => (wM cy A z9.2)) (Option.some.inj hf)) dX9_door_62
  show V K (wM cy A z) 0 [(0, .ref (A 0)), (1, .int x1), (2, .int x2), (3, .int x3)] []
  unfold f_X9_door at hf
  refine r_aload_n hc 0 dX9_door_0 rfl ?_
  refine r_iload_n hc 1 dX9_door_1 rfl ?_
  obtain ⟨q2, hq2, hf⟩ := o_bind hf
  refine r_callVi (ws' := (wM cy A z)) (As := [.int x1]) (rest := []) hc (c_X9_isRoom A z x1 q2 hq2) kv_X9_isRoom mw_962 0 rfl rfl _ _ _ (Sp_all _ _) rfl rfl (Nat.le_of_ble_eq_true rfl) ⟨by decide, by decide⟩ dX9_door_2 ?_
  refine r_if_eq hc 21 dX9_door_5 (by decide) (fun c_1 => ?_) (fun c_1 => ?_)
  · have hf := o_pos c_1 hf
    refine r_iconst hc (-1 : Int32) dX9_door_21 rfl ?_
    exact r_iret hK (congrArg (fun z9 => z9.1) (Option.some.inj hf)) (congrArg (fun z9 => (wM cy A z9.2)) (Option.some.inj hf)) dX9_door_22
  · have hf := o_neg c_1 hf
    refine r_aload_n hc 0 dX9_door_8 rfl ?_
    refine r_iload_n hc 2 dX9_door_9 rfl ?_
    obtain ⟨q10, hq10, hf⟩ := o_bind hf
    refine r_callVi (ws' := (wM cy A z)) (As := [.int x2]) (rest := []) hc (c_X9_isRoom A z x2 q10 hq10) kv_X9_isRoom mw_962 0 rfl rfl _ _ _ (Sp_all _ _) rfl rfl (Nat.le_of_ble_eq_true rfl) ⟨by decide, by decide⟩ dX9_door_10 ?_
    refine r_if_eq hc 21 dX9_door_13 (by decide) (fun c_2 => ?_) (fun c_2 => ?_)
    · have hf := o_pos c_2 hf
      refine r_iconst hc (-1 : Int32) dX9_door_21 rfl ?_
      exact r_iret hK (congrArg (fun z9 => z9.1) (Option.some.inj hf)) (congrArg (fun z9 => (wM cy A z9.2)) (Option.some.inj hf)) dX9_door_22
    · have hf := o_neg c_2 hf
      refine r_iload_n hc 1 dX9_door_16 rfl ?_
      refine r_iload_n hc 2 dX9_door_17 rfl ?_
      refine r_icmp_ne hc 23 dX9_door_18 (by decide) (fun c_3 => ?_) (fun c_3 => ?_)
      · have hf := o_neg c_3 hf
        refine r_iload_n hc 3 dX9_door_23 rfl ?_
        refine r_iconst hc (0 : Int32) dX9_door_24 rfl ?_
        refine r_iconst hc (3 : Int32) dX9_door_25 rfl ?_
        obtain ⟨q26, hq26, hf⟩ := o_bind hf
        refine r_callSi (ws' := (wM cy A z)) (As := [.int x3, .int (0 : Int32), .int (3 : Int32)]) (rest := []) hc (c_X9_in  x3 (0 : Int32) (3 : Int32) q26 hq26) ks_X9_in mw_955 _ _ _ (Sp_none _) rfl rfl (Nat.le_of_ble_eq_true rfl) ⟨by decide, by decide⟩ dX9_door_26 ?_
        refine r_if_ne hc 35 dX9_door_29 (by decide) (fun c_4 => ?_) (fun c_4 => ?_)
        · have hf := o_neg c_4 hf
          refine r_iconst hc (0 : Int32) dX9_door_35 rfl ?_
          refine r_istore hc [(4, .int (0 : Int32)), (0, .ref (A 0)), (1, .int x1), (2, .int x2), (3, .int x3)] dX9_door_36 (by decide) rfl ?_
          exact V.sub [1, 2, 3, 4, 0] rfl (L38 FU z x1 x2 x3 (0 : Int32) hf)
        · have hf := o_pos c_4 hf
          refine r_bipush hc (-2 : Int32) dX9_door_32 rfl ?_
          exact r_iret hK (congrArg (fun z9 => z9.1) (Option.some.inj hf)) (congrArg (fun z9 => (wM cy A z9.2)) (Option.some.inj hf)) dX9_door_34
      · have hf := o_pos c_3 hf
        refine r_iconst hc (-1 : Int32) dX9_door_21 rfl ?_
        exact r_iret hK (congrArg (fun z9 => z9.1) (Option.some.inj hf)) (congrArg (fun z9 => (wM cy A z9.2)) (Option.some.inj hf)) dX9_door_22
def X9_leaveOff_J45 (z : MS) (x1 : Int32) : Option (MS) :=
  (chk x1 8 (ltA (M_set_busy z (upd (M_busy z) (x1).toNatClampNeg (0 : Int32))) fun z51 => (chk x1 8 (ltA (M_set_left z51 (upd (M_left z51) (x1).toNatClampNeg (0 : Int32))) fun z58 => (some (z58))))))
def f_X9_leaveOff (z : MS) (x1 : Int32) : Option (MS) :=
  ((f_X9_has (M_there z) x1).bind fun q5 => (if q5 = 0 then (X9_leaveOff_J45 z x1) else (chk x1 8 (if ((M_busy z) (x1).toNatClampNeg) = (1 : Int32) then (chk x1 8 (chk ((M_with z) (x1).toNatClampNeg) 8 (ltA (M_set_busy z (upd (M_busy z) (((M_with z) (x1).toNatClampNeg)).toNatClampNeg (0 : Int32))) fun z32 => (chk x1 8 (chk ((M_with z32) (x1).toNatClampNeg) 8 (ltA (M_set_left z32 (upd (M_left z32) (((M_with z32) (x1).toNatClampNeg)).toNatClampNeg (0 : Int32))) fun z44 => (X9_leaveOff_J45 z44 x1))))))) else (X9_leaveOff_J45 z x1)))))
theorem kv_X9_leaveOff : KV RX9 yX9_leaveOff cX9_leaveOff 2 none 1 := ⟨mw_987, mw_27, mw_65, mw_988, by decide +kernel⟩
set_option maxHeartbeats 8000000 in
set_option maxRecDepth 100000 in
theorem c_X9_leaveOff {l : Launch} {E : va_G} {cy : Nat → ClassId} (A : Nat → Nat) (z : MS) (x1 : Int32) (q : MS) (hf : f_X9_leaveOff z x1 = some q) : Cv l yX9_leaveOff cX9_leaveOff 2 none 2 81 E cy [.ref (A 0), .int x1] (wM cy A z) (wM cy A q) := by
  refine Cv.of RX9 (by decide) rfl (Nat.le_of_ble_eq_true rfl) ?_
  intro K hK
  have hc := hK.cq
  have J45 : ∀ (z : MS) (x1 : Int32), X9_leaveOff_J45  z x1 = some q → V K (wM cy A z) 45 [(0, .ref (A 0)), (1, .int x1)] [] := by
    intro z x1 hf
    unfold X9_leaveOff_J45 at hf
    refine r_aload_n hc 0 dX9_leaveOff_45 rfl ?_
    refine r_get (v := .ref (A 7)) hc iw_X9 0 rfl rfl 8 (by decide) mw_868 rfl dX9_leaveOff_46 ?_
    refine r_iload_n hc 1 dX9_leaveOff_49 rfl ?_
    refine r_iconst hc (0 : Int32) dX9_leaveOff_50 rfl ?_
    obtain ⟨i_8, hf⟩ := chk_some hf
    obtain ⟨z51, ez51, hf⟩ := lt_some hf
    refine r_iast (f := (M_busy z)) hc 7 rfl i_8 dX9_leaveOff_51 _ rfl (wM cy A z51) (wM_s_busy ez51) ?_
    refine r_aload_n hc 0 dX9_leaveOff_52 rfl ?_
    refine r_get (v := .ref (A 9)) hc iw_X9 0 rfl rfl 10 (by decide) mw_870 rfl dX9_leaveOff_53 ?_
    refine r_iload_n hc 1 dX9_leaveOff_56 rfl ?_
    refine r_iconst hc (0 : Int32) dX9_leaveOff_57 rfl ?_
    obtain ⟨i_9, hf⟩ := chk_some hf
    obtain ⟨z58, ez58, hf⟩ := lt_some hf
    refine r_iast (f := (M_left z51)) hc 9 rfl i_9 dX9_leaveOff_58 _ rfl (wM cy A z58) (wM_s_left ez58) ?_
    exact r_vret hK (congrArg (fun z9 => (wM cy A z9)) (Option.some.inj hf)) dX9_leaveOff_59
  show V K (wM cy A z) 0 [(0, .ref (A 0)), (1, .int x1)] []
  unfold f_X9_leaveOff at hf
  refine r_aload_n hc 0 dX9_leaveOff_0 rfl ?_
  refine r_get (v := .int (M_there z)) hc iw_X9 0 rfl rfl 5 (by decide) mw_865 rfl dX9_leaveOff_1 ?_
  refine r_iload_n hc 1 dX9_leaveOff_4 rfl ?_
  obtain ⟨q5, hq5, hf⟩ := o_bind hf
  refine r_callSi (ws' := (wM cy A z)) (As := [.int (M_there z), .int x1]) (rest := []) hc (c_X9_has  (M_there z) x1 q5 hq5) ks_X9_has mw_970 _ _ _ (Sp_none _) rfl rfl (Nat.le_of_ble_eq_true rfl) ⟨by decide, by decide⟩ dX9_leaveOff_5 ?_
  refine r_if_eq hc 45 dX9_leaveOff_8 (by decide) (fun c_1 => ?_) (fun c_1 => ?_)
  · have hf := o_pos c_1 hf
    exact V.sub [0, 1] rfl (J45 z x1 hf)
  · have hf := o_neg c_1 hf
    refine r_aload_n hc 0 dX9_leaveOff_11 rfl ?_
    refine r_get (v := .ref (A 7)) hc iw_X9 0 rfl rfl 8 (by decide) mw_868 rfl dX9_leaveOff_12 ?_
    refine r_iload_n hc 1 dX9_leaveOff_15 rfl ?_
    obtain ⟨i_2, hf⟩ := chk_some hf
    refine r_iald (f := (M_busy z)) hc 7 rfl i_2 dX9_leaveOff_16 ?_
    refine r_iconst hc (1 : Int32) dX9_leaveOff_17 rfl ?_
    refine r_icmp_ne hc 45 dX9_leaveOff_18 (by decide) (fun c_3 => ?_) (fun c_3 => ?_)
    · have hf := o_neg c_3 hf
      exact V.sub [0, 1] rfl (J45 z x1 hf)
    · have hf := o_pos c_3 hf
      refine r_aload_n hc 0 dX9_leaveOff_21 rfl ?_
      refine r_get (v := .ref (A 7)) hc iw_X9 0 rfl rfl 8 (by decide) mw_868 rfl dX9_leaveOff_22 ?_
      refine r_aload_n hc 0 dX9_leaveOff_25 rfl ?_
      refine r_get (v := .ref (A 8)) hc iw_X9 0 rfl rfl 9 (by decide) mw_869 rfl dX9_leaveOff_26 ?_
      refine r_iload_n hc 1 dX9_leaveOff_29 rfl ?_
      obtain ⟨i_4, hf⟩ := chk_some hf
      refine r_iald (f := (M_with z)) hc 8 rfl i_4 dX9_leaveOff_30 ?_
      refine r_iconst hc (0 : Int32) dX9_leaveOff_31 rfl ?_
      obtain ⟨i_5, hf⟩ := chk_some hf
      obtain ⟨z32, ez32, hf⟩ := lt_some hf
      refine r_iast (f := (M_busy z)) hc 7 rfl i_5 dX9_leaveOff_32 _ rfl (wM cy A z32) (wM_s_busy ez32) ?_
      refine r_aload_n hc 0 dX9_leaveOff_33 rfl ?_
      refine r_get (v := .ref (A 9)) hc iw_X9 0 rfl rfl 10 (by decide) mw_870 rfl dX9_leaveOff_34 ?_
      refine r_aload_n hc 0 dX9_leaveOff_37 rfl ?_
      refine r_get (v := .ref (A 8)) hc iw_X9 0 rfl rfl 9 (by decide) mw_869 rfl dX9_leaveOff_38 ?_
      refine r_iload_n hc 1 dX9_leaveOff_41 rfl ?_
      obtain ⟨i_6, hf⟩ := chk_some hf
      refine r_iald (f := (M_with z32)) hc 8 rfl i_6 dX9_leaveOff_42 ?_
      refine r_iconst hc (0 : Int32) dX9_leaveOff_43 rfl ?_
      obtain ⟨i_7, hf⟩ := chk_some hf
      obtain ⟨z44, ez44, hf⟩ := lt_some hf
      refine r_iast (f := (M_left z32)) hc 9 rfl i_7 dX9_leaveOff_44 _ rfl (wM cy A z44) (wM_s_left ez44) ?_
      exact V.sub [0, 1] rfl (J45 z44 x1 hf)
def X9_guest_B65 (k65 : MS → Int32 → Int32 → Option (Int32 × MS)) (z : MS) (x1 : Int32) (x3 : Int32) : Option (Int32 × MS) :=
  (if (5 : Int32) ≤ x3 then ((f_X9_bits (M_there z)).bind fun q91 => (some (q91, z))) else (chk (((5 : Int32) * x1) + x3) 40 (ltA (M_set_likes z (upd (M_likes z) ((((5 : Int32) * x1) + x3)).toNatClampNeg (0 : Int32))) fun z80 => (k65 z80 x1 (x3 + (1 : Int32))))))
def f_X9_guest (z : MS) (x1 : Int32) (x2 : Int32) : Option (Int32 × MS) :=
  ((f_X9_in x1 (0 : Int32) (7 : Int32)).bind fun q4 => (if q4 = 0 then (some ((-1 : Int32), z)) else ((f_X9_isRoom z x2).bind fun q12 => (if q12 = 0 then (some ((-1 : Int32), z)) else ((f_X9_inRoom z x2 (-1 : Int32) x1).bind fun q24 => (chk x2 6 (if q24 < ((M_size z) (x2).toNatClampNeg) then ((f_X9_leaveOff z x1).bind fun q41 => (ltA (M_set_there q41 ((M_there q41) ||| ((1 : Int32) <<< (x1 &&& 31)))) fun z53 => (chk x1 8 (ltA (M_set_place z53 (upd (M_place z53) (x1).toNatClampNeg x2)) fun z62 => (it X9_guest_B65 (fun _ _ _ => none) FU z62 x1 (0 : Int32)))))) else (some ((-4 : Int32), z)))))))))
theorem kv_X9_guest : KV RX9 yX9_guest cX9_guest 4 (some .int) 2 := ⟨mw_982, mw_983, mw_65, mw_984, by decide +kernel⟩
set_option maxHeartbeats 8000000 in
set_option maxRecDepth 100000 in
theorem c_X9_guest {l : Launch} {E : va_G} {cy : Nat → ClassId} (A : Nat → Nat) (z : MS) (x1 : Int32) (x2 : Int32) (q : Int32 × MS) (hf : f_X9_guest z x1 x2 = some q) : Ci l yX9_guest cX9_guest 4 (some .int) 3 106 E cy [.ref (A 0), .int x1, .int x2] (wM cy A z) q.1 (wM cy A q.2) := by
  refine Ci.of RX9 (by decide) rfl (Nat.le_of_ble_eq_true rfl) ?_
  intro K hK
  have hc := hK.cq
  have L65 : ∀ (n65 : Nat) (z : MS) (x1 : Int32) (x3 : Int32), it X9_guest_B65 (fun _ _ _ => none) n65 z x1 x3 = some q → V K (wM cy A z) 65 [(0, .ref (A 0)), (1, .int x1), (3, .int x3)] [] := by
    intro n65
    induction n65 with
    | zero => intro z x1 x3 hf; exact (o_none hf).elim
    | succ n65 ih65 =>
      intro z x1 x3 hf
      replace hf : X9_guest_B65 (it X9_guest_B65 (fun _ _ _ => none) n65) z x1 x3 = some q := hf
      unfold X9_guest_B65 at hf
      refine r_iload_n hc 2 dX9_guest_65 rfl ?_
      refine r_iconst hc (5 : Int32) dX9_guest_66 rfl ?_
      refine r_icmp_ge hc 87 dX9_guest_67 (by decide) (fun c_6 => ?_) (fun c_6 => ?_)
      · have hf := o_pos c_6 hf
        refine r_aload_n hc 0 dX9_guest_87 rfl ?_
        refine r_get (v := .int (M_there z)) hc iw_X9 0 rfl rfl 5 (by decide) mw_865 rfl dX9_guest_88 ?_
        obtain ⟨q91, hq91, hf⟩ := o_bind hf
        refine r_callSi (ws' := (wM cy A z)) (As := [.int (M_there z)]) (rest := []) hc (c_X9_bits  (M_there z) q91 hq91) ks_X9_bits mw_989 _ _ _ (Sp_none _) rfl rfl (Nat.le_of_ble_eq_true rfl) ⟨by decide, by decide⟩ dX9_guest_91 ?_
        exact r_iret hK (congrArg (fun z9 => z9.1) (Option.some.inj hf)) (congrArg (fun z9 => (wM cy A z9.2)) (Option.some.inj hf)) dX9_guest_94
      · have hf := o_neg c_6 hf
        refine r_aload_n hc 0 dX9_guest_70 rfl ?_
        refine r_get (v := .ref (A 5)) hc iw_X9 0 rfl rfl 6 (by decide) mw_866 rfl dX9_guest_71 ?_
        refine r_iconst hc (5 : Int32) dX9_guest_74 rfl ?_
        refine r_iload_n hc 1 dX9_guest_75 rfl ?_
        refine r_imul hc dX9_guest_76 ?_
        refine r_iload_n hc 2 dX9_guest_77 rfl ?_
        refine r_iadd hc dX9_guest_78 ?_
        refine r_iconst hc (0 : Int32) dX9_guest_79 rfl ?_
        obtain ⟨i_7, hf⟩ := chk_some hf
        obtain ⟨z80, ez80, hf⟩ := lt_some hf
        refine r_iast (f := (M_likes z)) hc 5 rfl i_7 dX9_guest_80 _ rfl (wM cy A z80) (wM_s_likes ez80) ?_
        refine r_iinc hc 2 [(3, .int (x3 + (1 : Int32))), (0, .ref (A 0)), (1, .int x1)] (x3 + (1 : Int32)) dX9_guest_81 rfl rfl (by decide) rfl ?_
        refine r_goto hc 65 dX9_guest_84 (by decide) ?_
        exact V.sub [1, 2, 0] rfl (ih65 z80 x1 (x3 + (1 : Int32)) hf)
  show V K (wM cy A z) 0 [(0, .ref (A 0)), (1, .int x1), (2, .int x2)] []
  unfold f_X9_guest at hf
  refine r_iload_n hc 1 dX9_guest_0 rfl ?_
  refine r_iconst hc (0 : Int32) dX9_guest_1 rfl ?_
  refine r_bipush hc (7 : Int32) dX9_guest_2 rfl ?_
  obtain ⟨q4, hq4, hf⟩ := o_bind hf
  refine r_callSi (ws' := (wM cy A z)) (As := [.int x1, .int (0 : Int32), .int (7 : Int32)]) (rest := []) hc (c_X9_in  x1 (0 : Int32) (7 : Int32) q4 hq4) ks_X9_in mw_955 _ _ _ (Sp_none _) rfl rfl (Nat.le_of_ble_eq_true rfl) ⟨by decide, by decide⟩ dX9_guest_4 ?_
  refine r_if_eq hc 18 dX9_guest_7 (by decide) (fun c_1 => ?_) (fun c_1 => ?_)
  · have hf := o_pos c_1 hf
    refine r_iconst hc (-1 : Int32) dX9_guest_18 rfl ?_
    exact r_iret hK (congrArg (fun z9 => z9.1) (Option.some.inj hf)) (congrArg (fun z9 => (wM cy A z9.2)) (Option.some.inj hf)) dX9_guest_19
  · have hf := o_neg c_1 hf
    refine r_aload_n hc 0 dX9_guest_10 rfl ?_
    refine r_iload_n hc 2 dX9_guest_11 rfl ?_
    obtain ⟨q12, hq12, hf⟩ := o_bind hf
    refine r_callVi (ws' := (wM cy A z)) (As := [.int x2]) (rest := []) hc (c_X9_isRoom A z x2 q12 hq12) kv_X9_isRoom mw_962 0 rfl rfl _ _ _ (Sp_all _ _) rfl rfl (Nat.le_of_ble_eq_true rfl) ⟨by decide, by decide⟩ dX9_guest_12 ?_
    refine r_if_ne hc 20 dX9_guest_15 (by decide) (fun c_2 => ?_) (fun c_2 => ?_)
    · have hf := o_neg c_2 hf
      refine r_aload_n hc 0 dX9_guest_20 rfl ?_
      refine r_iload_n hc 2 dX9_guest_21 rfl ?_
      refine r_iconst hc (-1 : Int32) dX9_guest_22 rfl ?_
      refine r_iload_n hc 1 dX9_guest_23 rfl ?_
      obtain ⟨q24, hq24, hf⟩ := o_bind hf
      refine r_callVi (ws' := (wM cy A z)) (As := [.int x2, .int (-1 : Int32), .int x1]) (rest := []) hc (c_X9_inRoom A z x2 (-1 : Int32) x1 q24 hq24) kv_X9_inRoom mw_966 0 rfl rfl _ _ _ (Sp_all _ _) rfl rfl (Nat.le_of_ble_eq_true rfl) ⟨by decide, by decide⟩ dX9_guest_24 ?_
      refine r_aload_n hc 0 dX9_guest_27 rfl ?_
      refine r_get (v := .ref (A 2)) hc iw_X9 0 rfl rfl 2 (by decide) mw_862 rfl dX9_guest_28 ?_
      refine r_iload_n hc 2 dX9_guest_31 rfl ?_
      obtain ⟨i_3, hf⟩ := chk_some hf
      refine r_iald (f := (M_size z)) hc 2 rfl i_3 dX9_guest_32 ?_
      refine r_icmp_lt hc 39 dX9_guest_33 (by decide) (fun c_4 => ?_) (fun c_4 => ?_)
      · have hf := o_pos c_4 hf
        refine r_aload_n hc 0 dX9_guest_39 rfl ?_
        refine r_iload_n hc 1 dX9_guest_40 rfl ?_
        obtain ⟨q41, hq41, hf⟩ := o_bind hf
        refine r_callVv (ws' := (wM cy A q41)) (As := [.int x1]) (rest := []) hc (c_X9_leaveOff A z x1 q41 hq41) kv_X9_leaveOff mw_985 0 rfl rfl _ _ _ (Sp_all _ _) rfl rfl (Nat.le_of_ble_eq_true rfl) ⟨by decide, by decide⟩ dX9_guest_41 ?_
        refine r_aload_n hc 0 dX9_guest_44 rfl ?_
        refine r_dup hc dX9_guest_45 rfl ?_
        refine r_get (v := .int (M_there q41)) hc iw_X9 0 rfl rfl 5 (by decide) mw_865 rfl dX9_guest_46 ?_
        refine r_iconst hc (1 : Int32) dX9_guest_49 rfl ?_
        refine r_iload_n hc 1 dX9_guest_50 rfl ?_
        refine r_ishl hc dX9_guest_51 ?_
        refine r_ior hc dX9_guest_52 ?_
        obtain ⟨z53, ez53, hf⟩ := lt_some hf
        refine r_put hc iw_X9 tyX9 tyX9_ok nmX9 0 rfl rfl 5 (by decide) mw_865 rfl rfl rfl (Nat.le_of_ble_eq_true rfl) dX9_guest_53 (wM cy A z53) (wM_s_there ez53) ?_
        refine r_aload_n hc 0 dX9_guest_56 rfl ?_
        refine r_get (v := .ref (A 6)) hc iw_X9 0 rfl rfl 7 (by decide) mw_867 rfl dX9_guest_57 ?_
        refine r_iload_n hc 1 dX9_guest_60 rfl ?_
        refine r_iload_n hc 2 dX9_guest_61 rfl ?_
        obtain ⟨i_5, hf⟩ := chk_some hf
        obtain ⟨z62, ez62, hf⟩ := lt_some hf
        refine r_iast (f := (M_place z53)) hc 6 rfl i_5 dX9_guest_62 _ rfl (wM cy A z62) (wM_s_place ez62) ?_
        refine r_iconst hc (0 : Int32) dX9_guest_63 rfl ?_
        refine r_istore_n hc [(3, .int (0 : Int32)), (0, .ref (A 0)), (1, .int x1), (2, .int x2)] dX9_guest_64 (by decide) rfl ?_
        exact V.sub [1, 2, 0] rfl (L65 FU z62 x1 (0 : Int32) hf)
      · have hf := o_neg c_4 hf
        refine r_bipush hc (-4 : Int32) dX9_guest_36 rfl ?_
        exact r_iret hK (congrArg (fun z9 => z9.1) (Option.some.inj hf)) (congrArg (fun z9 => (wM cy A z9.2)) (Option.some.inj hf)) dX9_guest_38
    · have hf := o_pos c_2 hf
      refine r_iconst hc (-1 : Int32) dX9_guest_18 rfl ?_
      exact r_iret hK (congrArg (fun z9 => z9.1) (Option.some.inj hf)) (congrArg (fun z9 => (wM cy A z9.2)) (Option.some.inj hf)) dX9_guest_19
def f_X9_likes (z : MS) (x1 : Int32) (x2 : Int32) (x3 : Int32) : Option (Int32 × MS) :=
  ((f_X9_isThere z x1).bind fun q2 => (if q2 = 0 then (some ((-1 : Int32), z)) else ((f_X9_in x2 (0 : Int32) (4 : Int32)).bind fun q13 => (if q13 = 0 then (some ((-2 : Int32), z)) else ((f_X9_in x3 (-3 : Int32) (3 : Int32)).bind fun q23 => (if q23 = 0 then (some ((-2 : Int32), z)) else (chk (((5 : Int32) * x1) + x2) 40 (chk (((5 : Int32) * x1) + x2) 40 (ltA (M_set_likes z (upd (M_likes z) ((((5 : Int32) * x1) + x2)).toNatClampNeg x3)) fun z57 => (some ((((M_likes z) ((((5 : Int32) * x1) + x2)).toNatClampNeg) + (10 : Int32)), z57)))))))))))
theorem kv_X9_likes : KV RX9 yX9_likes cX9_likes 5 (some .int) 3 := ⟨mw_993, mw_994, mw_65, mw_995, by decide +kernel⟩
set_option maxHeartbeats 8000000 in
set_option maxRecDepth 100000 in
theorem c_X9_likes {l : Launch} {E : va_G} {cy : Nat → ClassId} (A : Nat → Nat) (z : MS) (x1 : Int32) (x2 : Int32) (x3 : Int32) (q : Int32 × MS) (hf : f_X9_likes z x1 x2 x3 = some q) : Ci l yX9_likes cX9_likes 5 (some .int) 3 103 E cy [.ref (A 0), .int x1, .int x2, .int x3] (wM cy A z) q.1 (wM cy A q.2) := by
  refine Ci.of RX9 (by decide) rfl (Nat.le_of_ble_eq_true rfl) ?_
  intro K hK
  have hc := hK.cq
  show V K (wM cy A z) 0 [(0, .ref (A 0)), (1, .int x1), (2, .int x2), (3, .int x3)] []
  unfold f_X9_likes at hf
  refine r_aload_n hc 0 dX9_likes_0 rfl ?_
  refine r_iload_n hc 1 dX9_likes_1 rfl ?_
  obtain ⟨q2, hq2, hf⟩ := o_bind hf
  refine r_callVi (ws' := (wM cy A z)) (As := [.int x1]) (rest := []) hc (c_X9_isThere A z x1 q2 hq2) kv_X9_isThere mw_996 0 rfl rfl _ _ _ (Sp_all _ _) rfl rfl (Nat.le_of_ble_eq_true rfl) ⟨by decide, by decide⟩ dX9_likes_2 ?_
  refine r_if_ne hc 10 dX9_likes_5 (by decide) (fun c_1 => ?_) (fun c_1 => ?_)
  · have hf := o_neg c_1 hf
    refine r_iload_n hc 2 dX9_likes_10 rfl ?_
    refine r_iconst hc (0 : Int32) dX9_likes_11 rfl ?_
    refine r_iconst hc (4 : Int32) dX9_likes_12 rfl ?_
    obtain ⟨q13, hq13, hf⟩ := o_bind hf
    refine r_callSi (ws' := (wM cy A z)) (As := [.int x2, .int (0 : Int32), .int (4 : Int32)]) (rest := []) hc (c_X9_in  x2 (0 : Int32) (4 : Int32) q13 hq13) ks_X9_in mw_955 _ _ _ (Sp_none _) rfl rfl (Nat.le_of_ble_eq_true rfl) ⟨by decide, by decide⟩ dX9_likes_13 ?_
    refine r_if_eq hc 29 dX9_likes_16 (by decide) (fun c_2 => ?_) (fun c_2 => ?_)
    · have hf := o_pos c_2 hf
      refine r_bipush hc (-2 : Int32) dX9_likes_29 rfl ?_
      exact r_iret hK (congrArg (fun z9 => z9.1) (Option.some.inj hf)) (congrArg (fun z9 => (wM cy A z9.2)) (Option.some.inj hf)) dX9_likes_31
    · have hf := o_neg c_2 hf
      refine r_iload_n hc 3 dX9_likes_19 rfl ?_
      refine r_bipush hc (-3 : Int32) dX9_likes_20 rfl ?_
      refine r_iconst hc (3 : Int32) dX9_likes_22 rfl ?_
      obtain ⟨q23, hq23, hf⟩ := o_bind hf
      refine r_callSi (ws' := (wM cy A z)) (As := [.int x3, .int (-3 : Int32), .int (3 : Int32)]) (rest := []) hc (c_X9_in  x3 (-3 : Int32) (3 : Int32) q23 hq23) ks_X9_in mw_955 _ _ _ (Sp_none _) rfl rfl (Nat.le_of_ble_eq_true rfl) ⟨by decide, by decide⟩ dX9_likes_23 ?_
      refine r_if_ne hc 32 dX9_likes_26 (by decide) (fun c_3 => ?_) (fun c_3 => ?_)
      · have hf := o_neg c_3 hf
        refine r_aload_n hc 0 dX9_likes_32 rfl ?_
        refine r_get (v := .ref (A 5)) hc iw_X9 0 rfl rfl 6 (by decide) mw_866 rfl dX9_likes_33 ?_
        refine r_iconst hc (5 : Int32) dX9_likes_36 rfl ?_
        refine r_iload_n hc 1 dX9_likes_37 rfl ?_
        refine r_imul hc dX9_likes_38 ?_
        refine r_iload_n hc 2 dX9_likes_39 rfl ?_
        refine r_iadd hc dX9_likes_40 ?_
        obtain ⟨i_4, hf⟩ := chk_some hf
        refine r_iald (f := (M_likes z)) hc 5 rfl i_4 dX9_likes_41 ?_
        refine r_bipush hc (10 : Int32) dX9_likes_42 rfl ?_
        refine r_iadd hc dX9_likes_44 ?_
        refine r_istore hc [(4, .int (((M_likes z) ((((5 : Int32) * x1) + x2)).toNatClampNeg) + (10 : Int32))), (0, .ref (A 0)), (1, .int x1), (2, .int x2), (3, .int x3)] dX9_likes_45 (by decide) rfl ?_
        refine r_aload_n hc 1 dX9_likes_47 rfl ?_
        refine r_get (v := .ref (A 5)) hc iw_X9 0 rfl rfl 6 (by decide) mw_866 rfl dX9_likes_48 ?_
        refine r_iconst hc (5 : Int32) dX9_likes_51 rfl ?_
        refine r_iload_n hc 2 dX9_likes_52 rfl ?_
        refine r_imul hc dX9_likes_53 ?_
        refine r_iload_n hc 3 dX9_likes_54 rfl ?_
        refine r_iadd hc dX9_likes_55 ?_
        refine r_iload_n hc 4 dX9_likes_56 rfl ?_
        obtain ⟨i_5, hf⟩ := chk_some hf
        obtain ⟨z57, ez57, hf⟩ := lt_some hf
        refine r_iast (f := (M_likes z)) hc 5 rfl i_5 dX9_likes_57 _ rfl (wM cy A z57) (wM_s_likes ez57) ?_
        refine r_iload hc 0 dX9_likes_58 rfl ?_
        exact r_iret hK (congrArg (fun z9 => z9.1) (Option.some.inj hf)) (congrArg (fun z9 => (wM cy A z9.2)) (Option.some.inj hf)) dX9_likes_60
      · have hf := o_pos c_3 hf
        refine r_bipush hc (-2 : Int32) dX9_likes_29 rfl ?_
        exact r_iret hK (congrArg (fun z9 => z9.1) (Option.some.inj hf)) (congrArg (fun z9 => (wM cy A z9.2)) (Option.some.inj hf)) dX9_likes_31
  · have hf := o_pos c_1 hf
    refine r_iconst hc (-1 : Int32) dX9_likes_8 rfl ?_
    exact r_iret hK (congrArg (fun z9 => z9.1) (Option.some.inj hf)) (congrArg (fun z9 => (wM cy A z9.2)) (Option.some.inj hf)) dX9_likes_9
def f_X9_leave (z : MS) (x1 : Int32) : Option (Int32 × MS) :=
  ((f_X9_isThere z x1).bind fun q2 => (if q2 = 0 then (some ((-1 : Int32), z)) else ((f_X9_leaveOff z x1).bind fun q12 => (ltA (M_set_there q12 ((M_there q12) &&& (((1 : Int32) <<< (x1 &&& 31)) ^^^ (-1 : Int32)))) fun z26 => ((f_X9_bits (M_there z26)).bind fun q33 => (some (q33, z26)))))))
theorem kv_X9_leave : KV RX9 yX9_leave cX9_leave 2 (some .int) 1 := ⟨mw_1001, mw_1002, mw_65, mw_1003, by decide +kernel⟩
set_option maxHeartbeats 8000000 in
set_option maxRecDepth 100000 in
theorem c_X9_leave {l : Launch} {E : va_G} {cy : Nat → ClassId} (A : Nat → Nat) (z : MS) (x1 : Int32) (q : Int32 × MS) (hf : f_X9_leave z x1 = some q) : Ci l yX9_leave cX9_leave 2 (some .int) 3 103 E cy [.ref (A 0), .int x1] (wM cy A z) q.1 (wM cy A q.2) := by
  refine Ci.of RX9 (by decide) rfl (Nat.le_of_ble_eq_true rfl) ?_
  intro K hK
  have hc := hK.cq
  show V K (wM cy A z) 0 [(0, .ref (A 0)), (1, .int x1)] []
  unfold f_X9_leave at hf
  refine r_aload_n hc 0 dX9_leave_0 rfl ?_
  refine r_iload_n hc 1 dX9_leave_1 rfl ?_
  obtain ⟨q2, hq2, hf⟩ := o_bind hf
  refine r_callVi (ws' := (wM cy A z)) (As := [.int x1]) (rest := []) hc (c_X9_isThere A z x1 q2 hq2) kv_X9_isThere mw_996 0 rfl rfl _ _ _ (Sp_all _ _) rfl rfl (Nat.le_of_ble_eq_true rfl) ⟨by decide, by decide⟩ dX9_leave_2 ?_
  refine r_if_ne hc 10 dX9_leave_5 (by decide) (fun c_1 => ?_) (fun c_1 => ?_)
  · have hf := o_neg c_1 hf
    refine r_aload_n hc 0 dX9_leave_10 rfl ?_
    refine r_iload_n hc 1 dX9_leave_11 rfl ?_
    obtain ⟨q12, hq12, hf⟩ := o_bind hf
    refine r_callVv (ws' := (wM cy A q12)) (As := [.int x1]) (rest := []) hc (c_X9_leaveOff A z x1 q12 hq12) kv_X9_leaveOff mw_985 0 rfl rfl _ _ _ (Sp_all _ _) rfl rfl (Nat.le_of_ble_eq_true rfl) ⟨by decide, by decide⟩ dX9_leave_12 ?_
    refine r_aload_n hc 0 dX9_leave_15 rfl ?_
    refine r_dup hc dX9_leave_16 rfl ?_
    refine r_get (v := .int (M_there q12)) hc iw_X9 0 rfl rfl 5 (by decide) mw_865 rfl dX9_leave_17 ?_
    refine r_iconst hc (1 : Int32) dX9_leave_20 rfl ?_
    refine r_iload_n hc 1 dX9_leave_21 rfl ?_
    refine r_ishl hc dX9_leave_22 ?_
    refine r_iconst hc (-1 : Int32) dX9_leave_23 rfl ?_
    refine r_ixor hc dX9_leave_24 ?_
    refine r_iand hc dX9_leave_25 ?_
    obtain ⟨z26, ez26, hf⟩ := lt_some hf
    refine r_put hc iw_X9 tyX9 tyX9_ok nmX9 0 rfl rfl 5 (by decide) mw_865 rfl rfl rfl (Nat.le_of_ble_eq_true rfl) dX9_leave_26 (wM cy A z26) (wM_s_there ez26) ?_
    refine r_aload_n hc 0 dX9_leave_29 rfl ?_
    refine r_get (v := .int (M_there z26)) hc iw_X9 0 rfl rfl 5 (by decide) mw_865 rfl dX9_leave_30 ?_
    obtain ⟨q33, hq33, hf⟩ := o_bind hf
    refine r_callSi (ws' := (wM cy A z26)) (As := [.int (M_there z26)]) (rest := []) hc (c_X9_bits  (M_there z26) q33 hq33) ks_X9_bits mw_989 _ _ _ (Sp_none _) rfl rfl (Nat.le_of_ble_eq_true rfl) ⟨by decide, by decide⟩ dX9_leave_33 ?_
    exact r_iret hK (congrArg (fun z9 => z9.1) (Option.some.inj hf)) (congrArg (fun z9 => (wM cy A z9.2)) (Option.some.inj hf)) dX9_leave_36
  · have hf := o_pos c_1 hf
    refine r_iconst hc (-1 : Int32) dX9_leave_8 rfl ?_
    exact r_iret hK (congrArg (fun z9 => z9.1) (Option.some.inj hf)) (congrArg (fun z9 => (wM cy A z9.2)) (Option.some.inj hf)) dX9_leave_9
def f_X9_say (z : MS) (x1 : Int32) : Option (Int32 × MS) :=
  ((f_X9_in x1 (33 : Int32) (126 : Int32)).bind fun q5 => (if q5 = 0 then (some ((-2 : Int32), z)) else (if (M_signs z) = (60 : Int32) then (some ((-4 : Int32), z)) else (chk (M_signs z) 60 (ltA (M_set_pad z (upd (M_pad z) ((M_signs z)).toNatClampNeg x1)) fun z35 => (ltA (M_set_signs z35 ((M_signs z35) + (1 : Int32))) fun z43 => (some ((M_signs z43), z43))))))))
theorem kv_X9_say : KV RX9 yX9_say cX9_say 2 (some .int) 1 := ⟨mw_1005, mw_1006, mw_65, mw_1007, by decide +kernel⟩
set_option maxHeartbeats 8000000 in
set_option maxRecDepth 100000 in
theorem c_X9_say {l : Launch} {E : va_G} {cy : Nat → ClassId} (A : Nat → Nat) (z : MS) (x1 : Int32) (q : Int32 × MS) (hf : f_X9_say z x1 = some q) : Ci l yX9_say cX9_say 2 (some .int) 2 82 E cy [.ref (A 0), .int x1] (wM cy A z) q.1 (wM cy A q.2) := by
  refine Ci.of RX9 (by decide) rfl (Nat.le_of_ble_eq_true rfl) ?_
  intro K hK
  have hc := hK.cq
  show V K (wM cy A z) 0 [(0, .ref (A 0)), (1, .int x1)] []
  unfold f_X9_say at hf
  refine r_iload_n hc 1 dX9_say_0 rfl ?_
  refine r_bipush hc (33 : Int32) dX9_say_1 rfl ?_
  refine r_bipush hc (126 : Int32) dX9_say_3 rfl ?_
  obtain ⟨q5, hq5, hf⟩ := o_bind hf
  refine r_callSi (ws' := (wM cy A z)) (As := [.int x1, .int (33 : Int32), .int (126 : Int32)]) (rest := []) hc (c_X9_in  x1 (33 : Int32) (126 : Int32) q5 hq5) ks_X9_in mw_955 _ _ _ (Sp_none _) rfl rfl (Nat.le_of_ble_eq_true rfl) ⟨by decide, by decide⟩ dX9_say_5 ?_
  refine r_if_ne hc 14 dX9_say_8 (by decide) (fun c_1 => ?_) (fun c_1 => ?_)
  · have hf := o_neg c_1 hf
    refine r_aload_n hc 0 dX9_say_14 rfl ?_
    refine r_get (v := .int (M_signs z)) hc iw_X9 0 rfl rfl 13 (by decide) mw_873 rfl dX9_say_15 ?_
    refine r_bipush hc (60 : Int32) dX9_say_18 rfl ?_
    refine r_icmp_ne hc 26 dX9_say_20 (by decide) (fun c_2 => ?_) (fun c_2 => ?_)
    · have hf := o_neg c_2 hf
      refine r_aload_n hc 0 dX9_say_26 rfl ?_
      refine r_get (v := .ref (A 11)) hc iw_X9 0 rfl rfl 14 (by decide) mw_874 rfl dX9_say_27 ?_
      refine r_aload_n hc 0 dX9_say_30 rfl ?_
      refine r_get (v := .int (M_signs z)) hc iw_X9 0 rfl rfl 13 (by decide) mw_873 rfl dX9_say_31 ?_
      refine r_iload_n hc 1 dX9_say_34 rfl ?_
      obtain ⟨i_3, hf⟩ := chk_some hf
      obtain ⟨z35, ez35, hf⟩ := lt_some hf
      refine r_iast (f := (M_pad z)) hc 11 rfl i_3 dX9_say_35 _ rfl (wM cy A z35) (wM_s_pad ez35) ?_
      refine r_aload_n hc 0 dX9_say_36 rfl ?_
      refine r_dup hc dX9_say_37 rfl ?_
      refine r_get (v := .int (M_signs z35)) hc iw_X9 0 rfl rfl 13 (by decide) mw_873 rfl dX9_say_38 ?_
      refine r_iconst hc (1 : Int32) dX9_say_41 rfl ?_
      refine r_iadd hc dX9_say_42 ?_
      obtain ⟨z43, ez43, hf⟩ := lt_some hf
      refine r_put hc iw_X9 tyX9 tyX9_ok nmX9 0 rfl rfl 13 (by decide) mw_873 rfl rfl rfl (Nat.le_of_ble_eq_true rfl) dX9_say_43 (wM cy A z43) (wM_s_signs ez43) ?_
      refine r_aload_n hc 0 dX9_say_46 rfl ?_
      refine r_get (v := .int (M_signs z43)) hc iw_X9 0 rfl rfl 13 (by decide) mw_873 rfl dX9_say_47 ?_
      exact r_iret hK (congrArg (fun z9 => z9.1) (Option.some.inj hf)) (congrArg (fun z9 => (wM cy A z9.2)) (Option.some.inj hf)) dX9_say_50
    · have hf := o_pos c_2 hf
      refine r_bipush hc (-4 : Int32) dX9_say_23 rfl ?_
      exact r_iret hK (congrArg (fun z9 => z9.1) (Option.some.inj hf)) (congrArg (fun z9 => (wM cy A z9.2)) (Option.some.inj hf)) dX9_say_25
  · have hf := o_pos c_1 hf
    refine r_bipush hc (-2 : Int32) dX9_say_11 rfl ?_
    exact r_iret hK (congrArg (fun z9 => z9.1) (Option.some.inj hf)) (congrArg (fun z9 => (wM cy A z9.2)) (Option.some.inj hf)) dX9_say_13
def f_X9_wipe (z : MS) : Option (Int32 × MS) :=
  (ltA (M_set_signs z (0 : Int32)) fun z7 => (some ((M_signs z), z7)))
theorem kv_X9_wipe : KV RX9 yX9_wipe cX9_wipe 2 (some .int) 0 := ⟨mw_1009, mw_1010, mw_65, mw_1011, by decide +kernel⟩
set_option maxHeartbeats 8000000 in
set_option maxRecDepth 100000 in
theorem c_X9_wipe {l : Launch} {E : va_G} {cy : Nat → ClassId} (A : Nat → Nat) (z : MS) (q : Int32 × MS) (hf : f_X9_wipe z = some q) : Ci l yX9_wipe cX9_wipe 2 (some .int) 1 60 E cy [.ref (A 0)] (wM cy A z) q.1 (wM cy A q.2) := by
  refine Ci.of RX9 (by decide) rfl (Nat.le_of_ble_eq_true rfl) ?_
  intro K hK
  have hc := hK.cq
  show V K (wM cy A z) 0 [(0, .ref (A 0))] []
  unfold f_X9_wipe at hf
  refine r_aload_n hc 0 dX9_wipe_0 rfl ?_
  refine r_get (v := .int (M_signs z)) hc iw_X9 0 rfl rfl 13 (by decide) mw_873 rfl dX9_wipe_1 ?_
  refine r_istore_n hc [(1, .int (M_signs z)), (0, .ref (A 0))] dX9_wipe_4 (by decide) rfl ?_
  refine r_aload_n hc 1 dX9_wipe_5 rfl ?_
  refine r_iconst hc (0 : Int32) dX9_wipe_6 rfl ?_
  obtain ⟨z7, ez7, hf⟩ := lt_some hf
  refine r_put hc iw_X9 tyX9 tyX9_ok nmX9 0 rfl rfl 13 (by decide) mw_873 rfl rfl rfl (Nat.le_of_ble_eq_true rfl) dX9_wipe_7 (wM cy A z7) (wM_s_signs ez7) ?_
  refine r_iload_n hc 0 dX9_wipe_10 rfl ?_
  exact r_iret hK (congrArg (fun z9 => z9.1) (Option.some.inj hf)) (congrArg (fun z9 => (wM cy A z9.2)) (Option.some.inj hf)) dX9_wipe_11
