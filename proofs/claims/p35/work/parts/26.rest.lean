def f_X8_isIn (x0 : Int32) (x1 : Int32) : Option (Int32) :=
  (if x1 < 0 then (some ((0 : Int32))) else (if (8 : Int32) ≤ x1 then (some ((0 : Int32))) else (if ((x0 >>> (x1 &&& 31)) &&& (1 : Int32)) = (1 : Int32) then (some ((1 : Int32))) else (some ((0 : Int32))))))
theorem ks_X8_isIn : KS yX8_isIn cX8_isIn 2 (some .boolean) 2 := ⟨mw_686, mw_55, mw_687, by decide +kernel⟩
set_option maxHeartbeats 8000000 in
set_option maxRecDepth 100000 in
theorem c_X8_isIn {l : Launch} {E : va_G} {cy : Nat → ClassId} (x0 : Int32) (x1 : Int32) (q : Int32) (hf : f_X8_isIn x0 x1 = some q) : Ci l yX8_isIn cX8_isIn 2 (some .boolean) 1 60 E cy [.int x0, .int x1] ([]) q ([]) := by
  refine Ci.of RX8 (by decide) rfl (Nat.le_of_ble_eq_true rfl) ?_
  intro K hK
  have hc := hK.cq
  show V K ([]) 0 [(0, .int x0), (1, .int x1)] []
  unfold f_X8_isIn at hf
  refine r_iload_n hc 1 dX8_isIn_0 rfl ?_
  refine r_if_lt hc 23 dX8_isIn_1 (by decide) (fun c_1 => ?_) (fun c_1 => ?_)
  · have hf := o_pos c_1 hf
    refine r_iconst hc (0 : Int32) dX8_isIn_23 rfl ?_
    exact r_zret hK rfl (Option.some.inj hf) rfl dX8_isIn_24
  · have hf := o_neg c_1 hf
    refine r_iload_n hc 1 dX8_isIn_4 rfl ?_
    refine r_bipush hc (8 : Int32) dX8_isIn_5 rfl ?_
    refine r_icmp_ge hc 23 dX8_isIn_7 (by decide) (fun c_2 => ?_) (fun c_2 => ?_)
    · have hf := o_pos c_2 hf
      refine r_iconst hc (0 : Int32) dX8_isIn_23 rfl ?_
      exact r_zret hK rfl (Option.some.inj hf) rfl dX8_isIn_24
    · have hf := o_neg c_2 hf
      refine r_iload_n hc 0 dX8_isIn_10 rfl ?_
      refine r_iload_n hc 1 dX8_isIn_11 rfl ?_
      refine r_ishr hc dX8_isIn_12 ?_
      refine r_iconst hc (1 : Int32) dX8_isIn_13 rfl ?_
      refine r_iand hc dX8_isIn_14 ?_
      refine r_iconst hc (1 : Int32) dX8_isIn_15 rfl ?_
      refine r_icmp_ne hc 23 dX8_isIn_16 (by decide) (fun c_3 => ?_) (fun c_3 => ?_)
      · have hf := o_neg c_3 hf
        refine r_iconst hc (0 : Int32) dX8_isIn_23 rfl ?_
        exact r_zret hK rfl (Option.some.inj hf) rfl dX8_isIn_24
      · have hf := o_pos c_3 hf
        refine r_iconst hc (1 : Int32) dX8_isIn_19 rfl ?_
        refine r_goto hc 24 dX8_isIn_20 (by decide) ?_
        exact r_zret hK rfl (Option.some.inj hf) rfl dX8_isIn_24
def X4_enlist_B31 (k31 : TS → HS → Int32 → Int32 → Option (TS)) (rs : TS) (h : HS) (x2 : Int32) (x3 : Int32) : Option (TS) :=
  (if (T_rooms rs) ≤ x3 then (some ((T_set_members rs ((T_members rs) + (1 : Int32))))) else ((f_X1_pullOfThings h x2 x3).bind fun q55 => (chk (((T_members rs) * (6 : Int32)) + x3) 36 (ltA (upd (T_taste rs) ((((T_members rs) * (6 : Int32)) + x3)).toNatClampNeg q55) fun f58 => (k31 (T_set_taste rs f58) h x2 (x3 + (1 : Int32)))))))
def f_X4_enlist (rs : TS) (h : HS) (x2 : Int32) : Option (TS) :=
  (chk (T_members rs) 6 (ltA (upd (T_member rs) ((T_members rs)).toNatClampNeg x2) fun f9 => (chk ((x2 * (5 : Int32)) + (4 : Int32)) 40 (chk (T_members rs) 6 (ltA (upd (T_company rs) ((T_members rs)).toNatClampNeg ((H_likes h) (((x2 * (5 : Int32)) + (4 : Int32))).toNatClampNeg)) fun f28 => (it X4_enlist_B31 (fun _ _ _ _ => none) FU (T_set_company (T_set_member rs f9) f28) h x2 (0 : Int32)))))))
theorem kv_X4_enlist : KV RX4 yX4_enlist cX4_enlist 4 none 2 := ⟨mw_695, mw_10, mw_60, mw_696, by decide +kernel⟩
set_option maxHeartbeats 8000000 in
set_option maxRecDepth 100000 in
theorem c_X4_enlist {l : Launch} {E : va_G} {cy : Nat → ClassId} (A : Nat → Nat) (B1 : Nat → Nat) (rs : TS) (h : HS) (x2 : Int32) (q : TS) (hf : f_X4_enlist rs h x2 = some q) : Cv l yX4_enlist cX4_enlist 4 none 2 84 E cy [.ref (A 0), .ref (B1 0), .int x2] (wT cy A rs ++ wH cy B1 h) (wT cy A q ++ wH cy B1 h) := by
  refine Cv.of RX4 (by decide) rfl (Nat.le_of_ble_eq_true rfl) ?_
  intro K hK
  have hc := hK.cq
  have L31 : ∀ (n31 : Nat) (rs : TS) (x2 : Int32) (x3 : Int32), it X4_enlist_B31 (fun _ _ _ _ => none) n31 rs h x2 x3 = some q → V K (wT cy A rs ++ wH cy B1 h) 31 [(0, .ref (A 0)), (1, .ref (B1 0)), (2, .int x2), (3, .int x3)] [] := by
    intro n31
    induction n31 with
    | zero => intro rs x2 x3 hf; exact (o_none hf).elim
    | succ n31 ih31 =>
      intro rs x2 x3 hf
      replace hf : X4_enlist_B31 (it X4_enlist_B31 (fun _ _ _ _ => none) n31) rs h x2 x3 = some q := hf
      unfold X4_enlist_B31 at hf
      refine r_iload_n hc 3 dX4_enlist_31 rfl ?_
      refine r_aload_n hc 0 dX4_enlist_32 rfl ?_
      refine r_get (v := .int (T_rooms rs)) hc iw_X4 0 rfl rfl 3 (by decide) mw_212 rfl dX4_enlist_33 ?_
      refine r_icmp_ge hc 65 dX4_enlist_36 (by decide) (fun c_4 => ?_) (fun c_4 => ?_)
      · have hf := o_pos c_4 hf
        refine r_aload_n hc 0 dX4_enlist_65 rfl ?_
        refine r_dup hc dX4_enlist_66 rfl ?_
        refine r_get (v := .int (T_members rs)) hc iw_X4 0 rfl rfl 2 (by decide) mw_211 rfl dX4_enlist_67 ?_
        refine r_iconst hc (1 : Int32) dX4_enlist_70 rfl ?_
        refine r_iadd hc dX4_enlist_71 ?_
        refine r_put hc iw_X4 tyX4 tyX4_ok nmX4 0 rfl rfl 2 (by decide) mw_211 rfl rfl rfl (Nat.le_of_ble_eq_true rfl) dX4_enlist_72 (wT cy A (T_set_members rs ((T_members rs) + (1 : Int32))) ++ wH cy B1 h) rfl ?_
        exact r_vret hK (congrArg (fun z9 => (wT cy A z9 ++ wH cy B1 h)) (Option.some.inj hf)) dX4_enlist_75
      · have hf := o_neg c_4 hf
        refine r_aload_n hc 0 dX4_enlist_39 rfl ?_
        refine r_get (v := .ref (A 3)) hc iw_X4 0 rfl rfl 6 (by decide) mw_215 rfl dX4_enlist_40 ?_
        refine r_aload_n hc 0 dX4_enlist_43 rfl ?_
        refine r_get (v := .int (T_members rs)) hc iw_X4 0 rfl rfl 2 (by decide) mw_211 rfl dX4_enlist_44 ?_
        refine r_bipush hc (6 : Int32) dX4_enlist_47 rfl ?_
        refine r_imul hc dX4_enlist_49 ?_
        refine r_iload_n hc 3 dX4_enlist_50 rfl ?_
        refine r_iadd hc dX4_enlist_51 ?_
        refine r_aload_n hc 1 dX4_enlist_52 rfl ?_
        refine r_iload_n hc 2 dX4_enlist_53 rfl ?_
        refine r_iload_n hc 3 dX4_enlist_54 rfl ?_
        obtain ⟨q55, hq55, hf⟩ := o_bind hf
        refine r_callVBi (ws' := (wT cy A rs ++ wH cy B1 h)) (As := [.int x2, .int x3]) (rest := [.int (((T_members rs) * (6 : Int32)) + x3), .ref (A 3)]) hc (c_X1_pullOfThings B1 h x2 x3 q55 hq55) kv_X1_pullOfThings mw_697 0 rfl rfl [wT cy A rs, wH cy B1 h] [wT cy A rs] [wH cy B1 h] [wH cy B1 h] [wT cy A rs, wH cy B1 h] [0, 1] [0, 1] ⟨(by simp only [wD_eq, List.flatten_cons, List.flatten_nil, List.append_nil, List.append_assoc, List.cons_append, List.nil_append]), (by simp only [wD_eq, List.flatten_cons, List.flatten_nil, List.append_nil, List.append_assoc, List.cons_append, List.nil_append]), (by simp only [wD_eq, List.flatten_cons, List.flatten_nil, List.append_nil, List.append_assoc, List.cons_append, List.nil_append]), (by simp only [wD_eq, List.flatten_cons, List.flatten_nil, List.append_nil, List.append_assoc, List.cons_append, List.nil_append]), rfl, (show List.Perm [0, 1] (List.range 2) from by decide), rfl, (show List.Perm [0, 1] (List.range 2) from by decide)⟩ rfl rfl (Nat.le_of_ble_eq_true rfl) ⟨by decide, by decide⟩ dX4_enlist_55 ?_
        obtain ⟨i_5, hf⟩ := chk_some hf
        obtain ⟨f58, ef58, hf⟩ := lt_some hf
        refine r_iast (f := (T_taste rs)) hc 3 rfl i_5 dX4_enlist_58 f58 ef58 (wT cy A (T_set_taste rs f58) ++ wH cy B1 h) rfl ?_
        refine r_iinc hc 3 [(3, .int (x3 + (1 : Int32))), (0, .ref (A 0)), (1, .ref (B1 0)), (2, .int x2)] (x3 + (1 : Int32)) dX4_enlist_59 rfl rfl (by decide) rfl ?_
        refine r_goto hc 31 dX4_enlist_62 (by decide) ?_
        exact V.sub [1, 2, 3, 0] rfl (ih31 (T_set_taste rs f58) x2 (x3 + (1 : Int32)) hf)
  show V K (wT cy A rs ++ wH cy B1 h) 0 [(0, .ref (A 0)), (1, .ref (B1 0)), (2, .int x2)] []
  unfold f_X4_enlist at hf
  refine r_aload_n hc 0 dX4_enlist_0 rfl ?_
  refine r_get (v := .ref (A 1)) hc iw_X4 0 rfl rfl 4 (by decide) mw_213 rfl dX4_enlist_1 ?_
  refine r_aload_n hc 0 dX4_enlist_4 rfl ?_
  refine r_get (v := .int (T_members rs)) hc iw_X4 0 rfl rfl 2 (by decide) mw_211 rfl dX4_enlist_5 ?_
  refine r_iload_n hc 2 dX4_enlist_8 rfl ?_
  obtain ⟨i_1, hf⟩ := chk_some hf
  obtain ⟨f9, ef9, hf⟩ := lt_some hf
  refine r_iast (f := (T_member rs)) hc 1 rfl i_1 dX4_enlist_9 f9 ef9 (wT cy A (T_set_member rs f9) ++ wH cy B1 h) rfl ?_
  refine r_aload_n hc 0 dX4_enlist_10 rfl ?_
  refine r_get (v := .ref (A 2)) hc iw_X4 0 rfl rfl 5 (by decide) mw_214 rfl dX4_enlist_11 ?_
  refine r_aload_n hc 0 dX4_enlist_14 rfl ?_
  refine r_get (v := .int (T_members rs)) hc iw_X4 0 rfl rfl 2 (by decide) mw_211 rfl dX4_enlist_15 ?_
  refine r_aload_n hc 1 dX4_enlist_18 rfl ?_
  refine r_get (v := .ref (B1 7)) hc iw_X1 8 rfl rfl 9 (by decide) mw_110 rfl dX4_enlist_19 ?_
  refine r_iload_n hc 2 dX4_enlist_22 rfl ?_
  refine r_iconst hc (5 : Int32) dX4_enlist_23 rfl ?_
  refine r_imul hc dX4_enlist_24 ?_
  refine r_iconst hc (4 : Int32) dX4_enlist_25 rfl ?_
  refine r_iadd hc dX4_enlist_26 ?_
  obtain ⟨i_2, hf⟩ := chk_some hf
  refine r_iald (f := (H_likes h)) hc 15 rfl i_2 dX4_enlist_27 ?_
  obtain ⟨i_3, hf⟩ := chk_some hf
  obtain ⟨f28, ef28, hf⟩ := lt_some hf
  refine r_iast (f := (T_company rs)) hc 2 rfl i_3 dX4_enlist_28 f28 ef28 (wT cy A (T_set_company (T_set_member rs f9) f28) ++ wH cy B1 h) rfl ?_
  refine r_iconst hc (0 : Int32) dX4_enlist_29 rfl ?_
  refine r_istore_n hc [(3, .int (0 : Int32)), (0, .ref (A 0)), (1, .ref (B1 0)), (2, .int x2)] dX4_enlist_30 (by decide) rfl ?_
  exact V.sub [1, 2, 3, 0] rfl (L31 FU (T_set_company (T_set_member rs f9) f28) x2 (0 : Int32) hf)
def X4_isContent_J122 (k38 : TS → Int32 → Int32 → Int32 → Int32 → Option (Int32)) (rs : TS) (x1 : Int32) (x2 : Int32) (x3 : Int32) (x4 : Int32) : Option (Int32) :=
  (k38 rs x1 x2 x3 (x4 + (1 : Int32)))
def X4_isContent_J87 (k38 : TS → Int32 → Int32 → Int32 → Int32 → Option (Int32)) (rs : TS) (x1 : Int32) (x2 : Int32) (x3 : Int32) (x4 : Int32) (x5 : Int32) (s0 : Int32) : Option (Int32) :=
  (if s0 = 0 then (X4_isContent_J122 k38 rs x1 x2 x3 x4) else (chk ((x1 * (6 : Int32)) + x4) 36 (chk x1 6 (if (((T_taste rs) (((x1 * (6 : Int32)) + x4)).toNatClampNeg) + (((T_company rs) (x1).toNatClampNeg) * x5)) ≤ x3 then (X4_isContent_J122 k38 rs x1 x2 x3 x4) else (some ((0 : Int32)))))))
def X4_isContent_J86 (k38 : TS → Int32 → Int32 → Int32 → Int32 → Option (Int32)) (rs : TS) (x1 : Int32) (x2 : Int32) (x3 : Int32) (x4 : Int32) (x5 : Int32) : Option (Int32) :=
  (X4_isContent_J87 k38 rs x1 x2 x3 x4 x5 (0 : Int32))
def X4_isContent_B38 (k38 : TS → Int32 → Int32 → Int32 → Int32 → Option (Int32)) (rs : TS) (x1 : Int32) (x2 : Int32) (x3 : Int32) (x4 : Int32) : Option (Int32) :=
  (if (T_rooms rs) ≤ x4 then (some ((1 : Int32))) else (chk x4 6 (chk x4 6 (if x4 = x2 then (X4_isContent_J86 k38 rs x1 x2 x3 x4 (((T_fixed rs) (x4).toNatClampNeg) + ((T_share rs) (x4).toNatClampNeg))) else (chk x4 6 (if ((T_size rs) (x4).toNatClampNeg) ≤ (((T_fixed rs) (x4).toNatClampNeg) + ((T_share rs) (x4).toNatClampNeg)) then (X4_isContent_J86 k38 rs x1 x2 x3 x4 (((T_fixed rs) (x4).toNatClampNeg) + ((T_share rs) (x4).toNatClampNeg))) else (X4_isContent_J87 k38 rs x1 x2 x3 x4 (((T_fixed rs) (x4).toNatClampNeg) + ((T_share rs) (x4).toNatClampNeg)) (1 : Int32))))))))
def f_X4_isContent (rs : TS) (x1 : Int32) (x2 : Int32) : Option (Int32) :=
  (chk ((x1 * (6 : Int32)) + x2) 36 (chk x1 6 (chk x2 6 (chk x2 6 (it X4_isContent_B38 (fun _ _ _ _ _ => none) FU rs x1 x2 (((T_taste rs) (((x1 * (6 : Int32)) + x2)).toNatClampNeg) + (((T_company rs) (x1).toNatClampNeg) * ((((T_fixed rs) (x2).toNatClampNeg) + ((T_share rs) (x2).toNatClampNeg)) - (1 : Int32)))) (0 : Int32))))))
theorem kv_X4_isContent : KV RX4 yX4_isContent cX4_isContent 7 (some .boolean) 2 := ⟨mw_715, mw_14, mw_60, mw_716, by decide +kernel⟩
set_option maxHeartbeats 8000000 in
set_option maxRecDepth 100000 in
theorem c_X4_isContent {l : Launch} {E : va_G} {cy : Nat → ClassId} (A : Nat → Nat) (rs : TS) (x1 : Int32) (x2 : Int32) (q : Int32) (hf : f_X4_isContent rs x1 x2 = some q) : Ci l yX4_isContent cX4_isContent 7 (some .boolean) 1 60 E cy [.ref (A 0), .int x1, .int x2] (wT cy A rs) q (wT cy A rs) := by
  refine Ci.of RX4 (by decide) rfl (Nat.le_of_ble_eq_true rfl) ?_
  intro K hK
  have hc := hK.cq
  have L38 : ∀ (n38 : Nat) (x1 : Int32) (x2 : Int32) (x3 : Int32) (x4 : Int32), it X4_isContent_B38 (fun _ _ _ _ _ => none) n38 rs x1 x2 x3 x4 = some q → V K (wT cy A rs) 38 [(0, .ref (A 0)), (1, .int x1), (2, .int x2), (3, .int x3), (4, .int x4)] [] := by
    intro n38
    induction n38 with
    | zero => intro x1 x2 x3 x4 hf; exact (o_none hf).elim
    | succ n38 ih38 =>
      have J122 : ∀ (x1 : Int32) (x2 : Int32) (x3 : Int32) (x4 : Int32), X4_isContent_J122 (it X4_isContent_B38 (fun _ _ _ _ _ => none) n38) rs x1 x2 x3 x4 = some q → V K (wT cy A rs) 122 [(0, .ref (A 0)), (1, .int x1), (2, .int x2), (3, .int x3), (4, .int x4)] [] := by
        intro x1 x2 x3 x4 hf
        unfold X4_isContent_J122 at hf
        refine r_iinc hc 4 [(4, .int (x4 + (1 : Int32))), (0, .ref (A 0)), (1, .int x1), (2, .int x2), (3, .int x3)] (x4 + (1 : Int32)) dX4_isContent_122 rfl rfl (by decide) rfl ?_
        refine r_goto hc 38 dX4_isContent_125 (by decide) ?_
        exact V.sub [1, 2, 3, 4, 0] rfl (ih38 x1 x2 x3 (x4 + (1 : Int32)) hf)
      have J87 : ∀ (x1 : Int32) (x2 : Int32) (x3 : Int32) (x4 : Int32) (x5 : Int32) (s0 : Int32), X4_isContent_J87 (it X4_isContent_B38 (fun _ _ _ _ _ => none) n38) rs x1 x2 x3 x4 x5 s0 = some q → V K (wT cy A rs) 87 [(0, .ref (A 0)), (1, .int x1), (2, .int x2), (3, .int x3), (4, .int x4), (5, .int x5)] [.int s0] := by
        intro x1 x2 x3 x4 x5 s0 hf
        unfold X4_isContent_J87 at hf
        refine r_istore hc [(6, .int s0), (0, .ref (A 0)), (1, .int x1), (2, .int x2), (3, .int x3), (4, .int x4), (5, .int x5)] dX4_isContent_87 (by decide) rfl ?_
        refine r_iload hc 0 dX4_isContent_89 rfl ?_
        refine r_if_eq hc 122 dX4_isContent_91 (by decide) (fun c_11 => ?_) (fun c_11 => ?_)
        · have hf := o_pos c_11 hf
          exact V.sub [1, 2, 3, 4, 5] rfl (J122 x1 x2 x3 x4 hf)
        · have hf := o_neg c_11 hf
          refine r_aload_n hc 1 dX4_isContent_94 rfl ?_
          refine r_get (v := .ref (A 3)) hc iw_X4 0 rfl rfl 6 (by decide) mw_215 rfl dX4_isContent_95 ?_
          refine r_iload_n hc 2 dX4_isContent_98 rfl ?_
          refine r_bipush hc (6 : Int32) dX4_isContent_99 rfl ?_
          refine r_imul hc dX4_isContent_101 ?_
          refine r_iload hc 5 dX4_isContent_102 rfl ?_
          refine r_iadd hc dX4_isContent_104 ?_
          obtain ⟨i_12, hf⟩ := chk_some hf
          refine r_iald (f := (T_taste rs)) hc 3 rfl i_12 dX4_isContent_105 ?_
          refine r_aload_n hc 1 dX4_isContent_106 rfl ?_
          refine r_get (v := .ref (A 2)) hc iw_X4 0 rfl rfl 5 (by decide) mw_214 rfl dX4_isContent_107 ?_
          refine r_iload_n hc 2 dX4_isContent_110 rfl ?_
          obtain ⟨i_13, hf⟩ := chk_some hf
          refine r_iald (f := (T_company rs)) hc 2 rfl i_13 dX4_isContent_111 ?_
          refine r_iload hc 6 dX4_isContent_112 rfl ?_
          refine r_imul hc dX4_isContent_114 ?_
          refine r_iadd hc dX4_isContent_115 ?_
          refine r_iload_n hc 4 dX4_isContent_116 rfl ?_
          refine r_icmp_le hc 122 dX4_isContent_117 (by decide) (fun c_14 => ?_) (fun c_14 => ?_)
          · have hf := o_pos c_14 hf
            exact V.sub [1, 2, 3, 4, 5] rfl (J122 x1 x2 x3 x4 hf)
          · have hf := o_neg c_14 hf
            refine r_iconst hc (0 : Int32) dX4_isContent_120 rfl ?_
            exact r_zret hK rfl (Option.some.inj hf) rfl dX4_isContent_121
      have J86 : ∀ (x1 : Int32) (x2 : Int32) (x3 : Int32) (x4 : Int32) (x5 : Int32), X4_isContent_J86 (it X4_isContent_B38 (fun _ _ _ _ _ => none) n38) rs x1 x2 x3 x4 x5 = some q → V K (wT cy A rs) 86 [(0, .ref (A 0)), (1, .int x1), (2, .int x2), (3, .int x3), (4, .int x4), (5, .int x5)] [] := by
        intro x1 x2 x3 x4 x5 hf
        unfold X4_isContent_J86 at hf
        refine r_iconst hc (0 : Int32) dX4_isContent_86 rfl ?_
        exact V.sub [0, 1, 2, 3, 4, 5] rfl (J87 x1 x2 x3 x4 x5 (0 : Int32) hf)
      intro x1 x2 x3 x4 hf
      replace hf : X4_isContent_B38 (it X4_isContent_B38 (fun _ _ _ _ _ => none) n38) rs x1 x2 x3 x4 = some q := hf
      unfold X4_isContent_B38 at hf
      refine r_iload hc 4 dX4_isContent_38 rfl ?_
      refine r_aload_n hc 0 dX4_isContent_40 rfl ?_
      refine r_get (v := .int (T_rooms rs)) hc iw_X4 0 rfl rfl 3 (by decide) mw_212 rfl dX4_isContent_41 ?_
      refine r_icmp_ge hc 128 dX4_isContent_44 (by decide) (fun c_5 => ?_) (fun c_5 => ?_)
      · have hf := o_pos c_5 hf
        refine r_iconst hc (1 : Int32) dX4_isContent_128 rfl ?_
        exact r_zret hK rfl (Option.some.inj hf) rfl dX4_isContent_129
      · have hf := o_neg c_5 hf
        refine r_aload_n hc 0 dX4_isContent_47 rfl ?_
        refine r_get (v := .ref (A 6)) hc iw_X4 0 rfl rfl 9 (by decide) mw_218 rfl dX4_isContent_48 ?_
        refine r_iload hc 4 dX4_isContent_51 rfl ?_
        obtain ⟨i_6, hf⟩ := chk_some hf
        refine r_iald (f := (T_fixed rs)) hc 6 rfl i_6 dX4_isContent_53 ?_
        refine r_aload_n hc 0 dX4_isContent_54 rfl ?_
        refine r_get (v := .ref (A 7)) hc iw_X4 0 rfl rfl 10 (by decide) mw_219 rfl dX4_isContent_55 ?_
        refine r_iload hc 4 dX4_isContent_58 rfl ?_
        obtain ⟨i_7, hf⟩ := chk_some hf
        refine r_iald (f := (T_share rs)) hc 7 rfl i_7 dX4_isContent_60 ?_
        refine r_iadd hc dX4_isContent_61 ?_
        refine r_istore hc [(5, .int (((T_fixed rs) (x4).toNatClampNeg) + ((T_share rs) (x4).toNatClampNeg))), (0, .ref (A 0)), (1, .int x1), (2, .int x2), (3, .int x3), (4, .int x4)] dX4_isContent_62 (by decide) rfl ?_
        refine r_iload hc 5 dX4_isContent_64 rfl ?_
        refine r_iload_n hc 3 dX4_isContent_66 rfl ?_
        refine r_icmp_eq hc 86 dX4_isContent_67 (by decide) (fun c_8 => ?_) (fun c_8 => ?_)
        · have hf := o_pos c_8 hf
          exact V.sub [1, 2, 3, 4, 5, 0] rfl (J86 x1 x2 x3 x4 (((T_fixed rs) (x4).toNatClampNeg) + ((T_share rs) (x4).toNatClampNeg)) hf)
        · have hf := o_neg c_8 hf
          refine r_iload hc 0 dX4_isContent_70 rfl ?_
          refine r_aload_n hc 1 dX4_isContent_72 rfl ?_
          refine r_get (v := .ref (A 5)) hc iw_X4 0 rfl rfl 8 (by decide) mw_217 rfl dX4_isContent_73 ?_
          refine r_iload hc 5 dX4_isContent_76 rfl ?_
          obtain ⟨i_9, hf⟩ := chk_some hf
          refine r_iald (f := (T_size rs)) hc 5 rfl i_9 dX4_isContent_78 ?_
          refine r_icmp_ge hc 86 dX4_isContent_79 (by decide) (fun c_10 => ?_) (fun c_10 => ?_)
          · have hf := o_pos c_10 hf
            exact V.sub [1, 2, 3, 4, 5, 0] rfl (J86 x1 x2 x3 x4 (((T_fixed rs) (x4).toNatClampNeg) + ((T_share rs) (x4).toNatClampNeg)) hf)
          · have hf := o_neg c_10 hf
            refine r_iconst hc (1 : Int32) dX4_isContent_82 rfl ?_
            refine r_goto hc 87 dX4_isContent_83 (by decide) ?_
            exact V.sub [1, 2, 3, 4, 5, 0] rfl (J87 x1 x2 x3 x4 (((T_fixed rs) (x4).toNatClampNeg) + ((T_share rs) (x4).toNatClampNeg)) (1 : Int32) hf)
  show V K (wT cy A rs) 0 [(0, .ref (A 0)), (1, .int x1), (2, .int x2)] []
  unfold f_X4_isContent at hf
  refine r_aload_n hc 0 dX4_isContent_0 rfl ?_
  refine r_get (v := .ref (A 3)) hc iw_X4 0 rfl rfl 6 (by decide) mw_215 rfl dX4_isContent_1 ?_
  refine r_iload_n hc 1 dX4_isContent_4 rfl ?_
  refine r_bipush hc (6 : Int32) dX4_isContent_5 rfl ?_
  refine r_imul hc dX4_isContent_7 ?_
  refine r_iload_n hc 2 dX4_isContent_8 rfl ?_
  refine r_iadd hc dX4_isContent_9 ?_
  obtain ⟨i_1, hf⟩ := chk_some hf
  refine r_iald (f := (T_taste rs)) hc 3 rfl i_1 dX4_isContent_10 ?_
  refine r_aload_n hc 0 dX4_isContent_11 rfl ?_
  refine r_get (v := .ref (A 2)) hc iw_X4 0 rfl rfl 5 (by decide) mw_214 rfl dX4_isContent_12 ?_
  refine r_iload_n hc 1 dX4_isContent_15 rfl ?_
  obtain ⟨i_2, hf⟩ := chk_some hf
  refine r_iald (f := (T_company rs)) hc 2 rfl i_2 dX4_isContent_16 ?_
  refine r_aload_n hc 0 dX4_isContent_17 rfl ?_
  refine r_get (v := .ref (A 6)) hc iw_X4 0 rfl rfl 9 (by decide) mw_218 rfl dX4_isContent_18 ?_
  refine r_iload_n hc 2 dX4_isContent_21 rfl ?_
  obtain ⟨i_3, hf⟩ := chk_some hf
  refine r_iald (f := (T_fixed rs)) hc 6 rfl i_3 dX4_isContent_22 ?_
  refine r_aload_n hc 0 dX4_isContent_23 rfl ?_
  refine r_get (v := .ref (A 7)) hc iw_X4 0 rfl rfl 10 (by decide) mw_219 rfl dX4_isContent_24 ?_
  refine r_iload_n hc 2 dX4_isContent_27 rfl ?_
  obtain ⟨i_4, hf⟩ := chk_some hf
  refine r_iald (f := (T_share rs)) hc 7 rfl i_4 dX4_isContent_28 ?_
  refine r_iadd hc dX4_isContent_29 ?_
  refine r_iconst hc (1 : Int32) dX4_isContent_30 rfl ?_
  refine r_isub hc dX4_isContent_31 ?_
  refine r_imul hc dX4_isContent_32 ?_
  refine r_iadd hc dX4_isContent_33 ?_
  refine r_istore_n hc [(3, .int (((T_taste rs) (((x1 * (6 : Int32)) + x2)).toNatClampNeg) + (((T_company rs) (x1).toNatClampNeg) * ((((T_fixed rs) (x2).toNatClampNeg) + ((T_share rs) (x2).toNatClampNeg)) - (1 : Int32))))), (0, .ref (A 0)), (1, .int x1), (2, .int x2)] dX4_isContent_34 (by decide) rfl ?_
  refine r_iconst hc (0 : Int32) dX4_isContent_35 rfl ?_
  refine r_istore hc [(4, .int (0 : Int32)), (3, .int (((T_taste rs) (((x1 * (6 : Int32)) + x2)).toNatClampNeg) + (((T_company rs) (x1).toNatClampNeg) * ((((T_fixed rs) (x2).toNatClampNeg) + ((T_share rs) (x2).toNatClampNeg)) - (1 : Int32))))), (0, .ref (A 0)), (1, .int x1), (2, .int x2)] dX4_isContent_36 (by decide) rfl ?_
  exact V.sub [2, 3, 4, 1, 0] rfl (L38 FU x1 x2 (((T_taste rs) (((x1 * (6 : Int32)) + x2)).toNatClampNeg) + (((T_company rs) (x1).toNatClampNeg) * ((((T_fixed rs) (x2).toNatClampNeg) + ((T_share rs) (x2).toNatClampNeg)) - (1 : Int32)))) (0 : Int32) hf)
def X4_contentRooms_J36 (k4 : TS → Int32 → Int32 → Int32 → Option (Int32)) (rs : TS) (x1 : Int32) (x2 : Int32) (x3 : Int32) : Option (Int32) :=
  (k4 rs x1 x2 (x3 + (1 : Int32)))
def X4_contentRooms_B4 (k4 : TS → Int32 → Int32 → Int32 → Option (Int32)) (rs : TS) (x1 : Int32) (x2 : Int32) (x3 : Int32) : Option (Int32) :=
  (if (T_rooms rs) ≤ x3 then (some (x2)) else (chk x3 6 (if ((T_share rs) (x3).toNatClampNeg) ≤ 0 then (X4_contentRooms_J36 k4 rs x1 x2 x3) else ((f_X4_isContent rs x1 x3).bind fun q24 => (if q24 = 0 then (X4_contentRooms_J36 k4 rs x1 x2 x3) else (X4_contentRooms_J36 k4 rs x1 (x2 ||| ((1 : Int32) <<< (x3 &&& 31))) x3))))))
def f_X4_contentRooms (rs : TS) (x1 : Int32) : Option (Int32) :=
  (it X4_contentRooms_B4 (fun _ _ _ _ => none) FU rs x1 (0 : Int32) (0 : Int32))
theorem kv_X4_contentRooms : KV RX4 yX4_contentRooms cX4_contentRooms 4 (some .int) 1 := ⟨mw_711, mw_13, mw_60, mw_712, by decide +kernel⟩
set_option maxHeartbeats 8000000 in
set_option maxRecDepth 100000 in
theorem c_X4_contentRooms {l : Launch} {E : va_G} {cy : Nat → ClassId} (A : Nat → Nat) (rs : TS) (x1 : Int32) (q : Int32) (hf : f_X4_contentRooms rs x1 = some q) : Ci l yX4_contentRooms cX4_contentRooms 4 (some .int) 2 86 E cy [.ref (A 0), .int x1] (wT cy A rs) q (wT cy A rs) := by
  refine Ci.of RX4 (by decide) rfl (Nat.le_of_ble_eq_true rfl) ?_
  intro K hK
  have hc := hK.cq
  have L4 : ∀ (n4 : Nat) (x1 : Int32) (x2 : Int32) (x3 : Int32), it X4_contentRooms_B4 (fun _ _ _ _ => none) n4 rs x1 x2 x3 = some q → V K (wT cy A rs) 4 [(0, .ref (A 0)), (1, .int x1), (2, .int x2), (3, .int x3)] [] := by
    intro n4
    induction n4 with
    | zero => intro x1 x2 x3 hf; exact (o_none hf).elim
    | succ n4 ih4 =>
      have J36 : ∀ (x1 : Int32) (x2 : Int32) (x3 : Int32), X4_contentRooms_J36 (it X4_contentRooms_B4 (fun _ _ _ _ => none) n4) rs x1 x2 x3 = some q → V K (wT cy A rs) 36 [(0, .ref (A 0)), (1, .int x1), (2, .int x2), (3, .int x3)] [] := by
        intro x1 x2 x3 hf
        unfold X4_contentRooms_J36 at hf
        refine r_iinc hc 3 [(3, .int (x3 + (1 : Int32))), (0, .ref (A 0)), (1, .int x1), (2, .int x2)] (x3 + (1 : Int32)) dX4_contentRooms_36 rfl rfl (by decide) rfl ?_
        refine r_goto hc 4 dX4_contentRooms_39 (by decide) ?_
        exact V.sub [1, 2, 3, 0] rfl (ih4 x1 x2 (x3 + (1 : Int32)) hf)
      intro x1 x2 x3 hf
      replace hf : X4_contentRooms_B4 (it X4_contentRooms_B4 (fun _ _ _ _ => none) n4) rs x1 x2 x3 = some q := hf
      unfold X4_contentRooms_B4 at hf
      refine r_iload_n hc 3 dX4_contentRooms_4 rfl ?_
      refine r_aload_n hc 0 dX4_contentRooms_5 rfl ?_
      refine r_get (v := .int (T_rooms rs)) hc iw_X4 0 rfl rfl 3 (by decide) mw_212 rfl dX4_contentRooms_6 ?_
      refine r_icmp_ge hc 42 dX4_contentRooms_9 (by decide) (fun c_1 => ?_) (fun c_1 => ?_)
      · have hf := o_pos c_1 hf
        refine r_iload_n hc 2 dX4_contentRooms_42 rfl ?_
        exact r_iret hK (Option.some.inj hf) rfl dX4_contentRooms_43
      · have hf := o_neg c_1 hf
        refine r_aload_n hc 0 dX4_contentRooms_12 rfl ?_
        refine r_get (v := .ref (A 7)) hc iw_X4 0 rfl rfl 10 (by decide) mw_219 rfl dX4_contentRooms_13 ?_
        refine r_iload_n hc 3 dX4_contentRooms_16 rfl ?_
        obtain ⟨i_2, hf⟩ := chk_some hf
        refine r_iald (f := (T_share rs)) hc 7 rfl i_2 dX4_contentRooms_17 ?_
        refine r_if_le hc 36 dX4_contentRooms_18 (by decide) (fun c_3 => ?_) (fun c_3 => ?_)
        · have hf := o_pos c_3 hf
          exact V.sub [0, 1, 2, 3] rfl (J36 x1 x2 x3 hf)
        · have hf := o_neg c_3 hf
          refine r_aload_n hc 0 dX4_contentRooms_21 rfl ?_
          refine r_iload_n hc 1 dX4_contentRooms_22 rfl ?_
          refine r_iload_n hc 3 dX4_contentRooms_23 rfl ?_
          obtain ⟨q24, hq24, hf⟩ := o_bind hf
          refine r_callVi (ws' := (wT cy A rs)) (As := [.int x1, .int x3]) (rest := []) hc (c_X4_isContent A rs x1 x3 q24 hq24) kv_X4_isContent mw_713 0 rfl rfl _ _ _ (Sp_all _ _) rfl rfl (Nat.le_of_ble_eq_true rfl) ⟨by decide, by decide⟩ dX4_contentRooms_24 ?_
          refine r_if_eq hc 36 dX4_contentRooms_27 (by decide) (fun c_4 => ?_) (fun c_4 => ?_)
          · have hf := o_pos c_4 hf
            exact V.sub [0, 1, 2, 3] rfl (J36 x1 x2 x3 hf)
          · have hf := o_neg c_4 hf
            refine r_iload_n hc 2 dX4_contentRooms_30 rfl ?_
            refine r_iconst hc (1 : Int32) dX4_contentRooms_31 rfl ?_
            refine r_iload_n hc 3 dX4_contentRooms_32 rfl ?_
            refine r_ishl hc dX4_contentRooms_33 ?_
            refine r_ior hc dX4_contentRooms_34 ?_
            refine r_istore_n hc [(2, .int (x2 ||| ((1 : Int32) <<< (x3 &&& 31)))), (0, .ref (A 0)), (1, .int x1), (3, .int x3)] dX4_contentRooms_35 (by decide) rfl ?_
            exact V.sub [1, 2, 0, 3] rfl (J36 x1 (x2 ||| ((1 : Int32) <<< (x3 &&& 31))) x3 hf)
  show V K (wT cy A rs) 0 [(0, .ref (A 0)), (1, .int x1)] []
  unfold f_X4_contentRooms at hf
  refine r_iconst hc (0 : Int32) dX4_contentRooms_0 rfl ?_
  refine r_istore_n hc [(2, .int (0 : Int32)), (0, .ref (A 0)), (1, .int x1)] dX4_contentRooms_1 (by decide) rfl ?_
  refine r_iconst hc (0 : Int32) dX4_contentRooms_2 rfl ?_
  refine r_istore_n hc [(3, .int (0 : Int32)), (2, .int (0 : Int32)), (0, .ref (A 0)), (1, .int x1)] dX4_contentRooms_3 (by decide) rfl ?_
  exact V.sub [2, 3, 1, 0] rfl (L4 FU x1 (0 : Int32) (0 : Int32) hf)
def X4_put_J108 (kS : TS → Int32 → Int32 → Option (TS)) (k44 : TS → Int32 → Int32 → Int32 → Option (TS)) (rs : TS) (x1 : Int32) (x2 : Int32) (x3 : Int32) : Option (TS) :=
  (k44 rs x1 x2 (x3 + (1 : Int32)))
def X4_put_B44 (kS : TS → Int32 → Int32 → Option (TS)) (k44 : TS → Int32 → Int32 → Int32 → Option (TS)) (rs : TS) (x1 : Int32) (x2 : Int32) (x3 : Int32) : Option (TS) :=
  (if (T_rooms rs) ≤ x3 then (some (rs)) else (chk x1 6 (if ((((T_content rs) (x1).toNatClampNeg) >>> (x3 &&& 31)) &&& (1 : Int32)) = (1 : Int32) then (chk x3 6 (if ((T_share rs) (x3).toNatClampNeg) ≤ 0 then (X4_put_J108 kS k44 rs x1 x2 x3) else (chk x3 6 (chk x3 6 (ltA (upd (T_share rs) (x3).toNatClampNeg (((T_share rs) (x3).toNatClampNeg) - (1 : Int32))) fun f84 => ((kS (T_set_share rs f84) (x1 + (1 : Int32)) ((x2 * (10 : Int32)) + x3)).bind fun q95 => (chk x3 6 (chk x3 6 (ltA (upd (T_share q95) (x3).toNatClampNeg (((T_share q95) (x3).toNatClampNeg) + (1 : Int32))) fun f107 => (X4_put_J108 kS k44 (T_set_share q95 f107) x1 x2 x3)))))))))) else (X4_put_J108 kS k44 rs x1 x2 x3))))
def X4_put_J28 (kS : TS → Int32 → Int32 → Option (TS)) (rs : TS) (s0 : Int32) : Option (TS) :=
  (some ((T_set_ways (T_set_first rs s0) ((T_ways rs) + (1 : Int32)))))
def X4_put_R (kS : TS → Int32 → Int32 → Option (TS)) (rs : TS) (x1 : Int32) (x2 : Int32) : Option (TS) :=
  (if x1 < (T_members rs) then (it (X4_put_B44 kS) (fun _ _ _ _ => none) FU rs x1 x2 (0 : Int32)) else (if (T_ways rs) = 0 then (X4_put_J28 kS rs x2) else (X4_put_J28 kS rs (if x2 < (T_first rs) then x2 else (T_first rs)))))
def f_X4_put (rs : TS) (x1 : Int32) (x2 : Int32) : Option (TS) := it X4_put_R (fun _ _ _ => none) 9 rs x1 x2
theorem kv_X4_put : KV RX4 yX4_put cX4_put 4 none 2 := ⟨mw_719, mw_15, mw_60, mw_720, by decide +kernel⟩
set_option maxHeartbeats 8000000 in
set_option maxRecDepth 100000 in
theorem cr_X4_put {l : Launch} {E : va_G} {cy : Nat → ClassId} (A : Nat → Nat) (nS : Nat) : ∀ (rs : TS) (x1 : Int32) (x2 : Int32) (q : TS) (hf : it X4_put_R (fun _ _ _ => none) nS rs x1 x2 = some q), Cv l yX4_put cX4_put 4 none (1 + nS) (60 + nS * 23) E cy [.ref (A 0), .int x1, .int x2] (wT cy A rs) (wT cy A q) := by
  induction nS with
  | zero => intro rs x1 x2 q hf; exact (o_none hf).elim
  | succ nS ihS =>
    intro rs x1 x2 q hf
    refine Cv.of RX4 (by decide) rfl (Nat.le_of_ble_eq_true rfl) ?_
    intro K hK
    have hc := hK.cq
    have L44 : ∀ (n44 : Nat) (rs : TS) (x1 : Int32) (x2 : Int32) (x3 : Int32), it (X4_put_B44 (it X4_put_R (fun _ _ _ => none) nS)) (fun _ _ _ _ => none) n44 rs x1 x2 x3 = some q → V K (wT cy A rs) 44 [(0, .ref (A 0)), (1, .int x1), (2, .int x2), (3, .int x3)] [] := by
      intro n44
      induction n44 with
      | zero => intro rs x1 x2 x3 hf; exact (o_none hf).elim
      | succ n44 ih44 =>
        have J108 : ∀ (rs : TS) (x1 : Int32) (x2 : Int32) (x3 : Int32), X4_put_J108 (it X4_put_R (fun _ _ _ => none) nS) (it (X4_put_B44 (it X4_put_R (fun _ _ _ => none) nS)) (fun _ _ _ _ => none) n44) rs x1 x2 x3 = some q → V K (wT cy A rs) 108 [(0, .ref (A 0)), (1, .int x1), (2, .int x2), (3, .int x3)] [] := by
          intro rs x1 x2 x3 hf
          unfold X4_put_J108 at hf
          refine r_iinc hc 3 [(3, .int (x3 + (1 : Int32))), (0, .ref (A 0)), (1, .int x1), (2, .int x2)] (x3 + (1 : Int32)) dX4_put_108 rfl rfl (by decide) rfl ?_
          refine r_goto hc 44 dX4_put_111 (by decide) ?_
          exact V.sub [1, 2, 3, 0] rfl (ih44 rs x1 x2 (x3 + (1 : Int32)) hf)
        intro rs x1 x2 x3 hf
        replace hf : X4_put_B44 (it X4_put_R (fun _ _ _ => none) nS) (it (X4_put_B44 (it X4_put_R (fun _ _ _ => none) nS)) (fun _ _ _ _ => none) n44) rs x1 x2 x3 = some q := hf
        unfold X4_put_B44 at hf
        refine r_iload_n hc 3 dX4_put_44 rfl ?_
        refine r_aload_n hc 0 dX4_put_45 rfl ?_
        refine r_get (v := .int (T_rooms rs)) hc iw_X4 0 rfl rfl 3 (by decide) mw_212 rfl dX4_put_46 ?_
        refine r_icmp_ge hc 114 dX4_put_49 (by decide) (fun c_3 => ?_) (fun c_3 => ?_)
        · have hf := o_pos c_3 hf
          exact r_vret hK (congrArg (fun z9 => (wT cy A z9)) (Option.some.inj hf)) dX4_put_114
        · have hf := o_neg c_3 hf
          refine r_aload_n hc 0 dX4_put_52 rfl ?_
          refine r_get (v := .ref (A 4)) hc iw_X4 0 rfl rfl 7 (by decide) mw_216 rfl dX4_put_53 ?_
          refine r_iload_n hc 1 dX4_put_56 rfl ?_
          obtain ⟨i_4, hf⟩ := chk_some hf
          refine r_iald (f := (T_content rs)) hc 4 rfl i_4 dX4_put_57 ?_
          refine r_iload_n hc 3 dX4_put_58 rfl ?_
          refine r_ishr hc dX4_put_59 ?_
          refine r_iconst hc (1 : Int32) dX4_put_60 rfl ?_
          refine r_iand hc dX4_put_61 ?_
          refine r_iconst hc (1 : Int32) dX4_put_62 rfl ?_
          refine r_icmp_ne hc 108 dX4_put_63 (by decide) (fun c_5 => ?_) (fun c_5 => ?_)
          · have hf := o_neg c_5 hf
            exact V.sub [0, 1, 2, 3] rfl (J108 rs x1 x2 x3 hf)
          · have hf := o_pos c_5 hf
            refine r_aload_n hc 0 dX4_put_66 rfl ?_
            refine r_get (v := .ref (A 7)) hc iw_X4 0 rfl rfl 10 (by decide) mw_219 rfl dX4_put_67 ?_
            refine r_iload_n hc 3 dX4_put_70 rfl ?_
            obtain ⟨i_6, hf⟩ := chk_some hf
            refine r_iald (f := (T_share rs)) hc 7 rfl i_6 dX4_put_71 ?_
            refine r_if_le hc 108 dX4_put_72 (by decide) (fun c_7 => ?_) (fun c_7 => ?_)
            · have hf := o_pos c_7 hf
              exact V.sub [0, 1, 2, 3] rfl (J108 rs x1 x2 x3 hf)
            · have hf := o_neg c_7 hf
              refine r_aload_n hc 0 dX4_put_75 rfl ?_
              refine r_get (v := .ref (A 7)) hc iw_X4 0 rfl rfl 10 (by decide) mw_219 rfl dX4_put_76 ?_
              refine r_iload_n hc 3 dX4_put_79 rfl ?_
              refine r_dup2_11 hc dX4_put_80 rfl rfl ?_
              obtain ⟨i_8, hf⟩ := chk_some hf
              refine r_iald (f := (T_share rs)) hc 7 rfl i_8 dX4_put_81 ?_
              refine r_iconst hc (1 : Int32) dX4_put_82 rfl ?_
              refine r_isub hc dX4_put_83 ?_
              obtain ⟨i_9, hf⟩ := chk_some hf
              obtain ⟨f84, ef84, hf⟩ := lt_some hf
              refine r_iast (f := (T_share rs)) hc 7 rfl i_9 dX4_put_84 f84 ef84 (wT cy A (T_set_share rs f84)) rfl ?_
              refine r_aload_n hc 0 dX4_put_85 rfl ?_
              refine r_iload_n hc 1 dX4_put_86 rfl ?_
              refine r_iconst hc (1 : Int32) dX4_put_87 rfl ?_
              refine r_iadd hc dX4_put_88 ?_
              refine r_iload_n hc 2 dX4_put_89 rfl ?_
              refine r_bipush hc (10 : Int32) dX4_put_90 rfl ?_
              refine r_imul hc dX4_put_92 ?_
              refine r_iload_n hc 3 dX4_put_93 rfl ?_
              refine r_iadd hc dX4_put_94 ?_
              obtain ⟨q95, hq95, hf⟩ := o_bind hf
              refine r_callVv (ws' := (wT cy A q95)) (As := [.int (x1 + (1 : Int32)), .int ((x2 * (10 : Int32)) + x3)]) (rest := []) hc (ihS (T_set_share rs f84) (x1 + (1 : Int32)) ((x2 * (10 : Int32)) + x3) q95 hq95) kv_X4_put mw_717 0 rfl rfl _ _ _ (Sp_all _ _) rfl rfl (Nat.le_of_ble_eq_true rfl) ⟨Nat.le_refl _, by show 8 + (4 + 11) + (60 + nS * 23) ≤ 60 + (nS + 1) * 23; omega⟩ dX4_put_95 ?_
              refine r_aload_n hc 0 dX4_put_98 rfl ?_
              refine r_get (v := .ref (A 7)) hc iw_X4 0 rfl rfl 10 (by decide) mw_219 rfl dX4_put_99 ?_
              refine r_iload_n hc 3 dX4_put_102 rfl ?_
              refine r_dup2_11 hc dX4_put_103 rfl rfl ?_
              obtain ⟨i_10, hf⟩ := chk_some hf
              refine r_iald (f := (T_share q95)) hc 7 rfl i_10 dX4_put_104 ?_
              refine r_iconst hc (1 : Int32) dX4_put_105 rfl ?_
              refine r_iadd hc dX4_put_106 ?_
              obtain ⟨i_11, hf⟩ := chk_some hf
              obtain ⟨f107, ef107, hf⟩ := lt_some hf
              refine r_iast (f := (T_share q95)) hc 7 rfl i_11 dX4_put_107 f107 ef107 (wT cy A (T_set_share q95 f107)) rfl ?_
              exact V.sub [0, 1, 2, 3] rfl (J108 (T_set_share q95 f107) x1 x2 x3 hf)
    have J28 : ∀ (rs : TS) (s0 : Int32), X4_put_J28 (it X4_put_R (fun _ _ _ => none) nS) rs s0 = some q → V K (wT cy A rs) 28 [(0, .ref (A 0))] [.int s0, .ref (A 0)] := by
      intro rs s0 hf
      unfold X4_put_J28 at hf
      refine r_put hc iw_X4 tyX4 tyX4_ok nmX4 0 rfl rfl 1 (by decide) mw_210 rfl rfl rfl (Nat.le_of_ble_eq_true rfl) dX4_put_28 (wT cy A (T_set_first rs s0)) rfl ?_
      refine r_aload_n hc 0 dX4_put_31 rfl ?_
      refine r_dup hc dX4_put_32 rfl ?_
      refine r_get (v := .int (T_ways rs)) hc iw_X4 0 rfl rfl 0 (by decide) mw_208 rfl dX4_put_33 ?_
      refine r_iconst hc (1 : Int32) dX4_put_36 rfl ?_
      refine r_iadd hc dX4_put_37 ?_
      refine r_put hc iw_X4 tyX4 tyX4_ok nmX4 0 rfl rfl 0 (by decide) mw_208 rfl rfl rfl (Nat.le_of_ble_eq_true rfl) dX4_put_38 (wT cy A (T_set_ways (T_set_first rs s0) ((T_ways rs) + (1 : Int32)))) rfl ?_
      exact r_vret hK (congrArg (fun z9 => (wT cy A z9)) (Option.some.inj hf)) dX4_put_41
    show V K (wT cy A rs) 0 [(0, .ref (A 0)), (1, .int x1), (2, .int x2)] []
    replace hf : X4_put_R (it X4_put_R (fun _ _ _ => none) nS) rs x1 x2 = some q := hf
    unfold X4_put_R at hf
    refine r_iload_n hc 1 dX4_put_0 rfl ?_
    refine r_aload_n hc 0 dX4_put_1 rfl ?_
    refine r_get (v := .int (T_members rs)) hc iw_X4 0 rfl rfl 2 (by decide) mw_211 rfl dX4_put_2 ?_
    refine r_icmp_lt hc 42 dX4_put_5 (by decide) (fun c_1 => ?_) (fun c_1 => ?_)
    · have hf := o_pos c_1 hf
      refine r_iconst hc (0 : Int32) dX4_put_42 rfl ?_
      refine r_istore_n hc [(3, .int (0 : Int32)), (0, .ref (A 0)), (1, .int x1), (2, .int x2)] dX4_put_43 (by decide) rfl ?_
      exact V.sub [1, 2, 3, 0] rfl (L44 FU rs x1 x2 (0 : Int32) hf)
    · have hf := o_neg c_1 hf
      refine r_aload_n hc 0 dX4_put_8 rfl ?_
      refine r_aload_n hc 0 dX4_put_9 rfl ?_
      refine r_get (v := .int (T_ways rs)) hc iw_X4 0 rfl rfl 0 (by decide) mw_208 rfl dX4_put_10 ?_
      refine r_if_ne hc 20 dX4_put_13 (by decide) (fun c_2 => ?_) (fun c_2 => ?_)
      · have hf := o_neg c_2 hf
        refine r_aload_n hc 0 dX4_put_20 rfl ?_
        refine r_get (v := .int (T_first rs)) hc iw_X4 0 rfl rfl 1 (by decide) mw_210 rfl dX4_put_21 ?_
        refine r_iload_n hc 2 dX4_put_24 rfl ?_
        refine r_mmin hc mw_721 mw_722 mw_68 mw_723 (by show 1 ≤ 1 + (nS + 1); omega) (Nat.le_trans (Nat.le_of_ble_eq_true rfl : _ ≤ 40) (by show 40 ≤ 60 + (nS + 1) * 23; omega)) dX4_put_25 ?_
        exact V.sub [0] rfl (J28 rs (if x2 < (T_first rs) then x2 else (T_first rs)) hf)
      · have hf := o_pos c_2 hf
        refine r_iload_n hc 2 dX4_put_16 rfl ?_
        refine r_goto hc 28 dX4_put_17 (by decide) ?_
        exact V.sub [0] rfl (J28 rs x2 hf)
theorem c_X4_put {l : Launch} {E : va_G} {cy : Nat → ClassId} (A : Nat → Nat) (rs : TS) (x1 : Int32) (x2 : Int32) (q : TS) (hf : f_X4_put rs x1 x2 = some q) : Cv l yX4_put cX4_put 4 none 10 267 E cy [.ref (A 0), .int x1, .int x2] (wT cy A rs) (wT cy A q) := cr_X4_put A 9 rs x1 x2 q hf
def X4_weigh_B2 (k2 : TS → Int32 → Option (TS)) (rs : TS) (x1 : Int32) : Option (TS) :=
  (if (T_members rs) ≤ x1 then ((f_X4_put rs (0 : Int32) (0 : Int32)).bind fun q40 => (some (q40))) else ((f_X4_contentRooms rs x1).bind fun q17 => (chk x1 6 (ltA (upd (T_content rs) (x1).toNatClampNeg q17) fun f20 => (chk x1 6 (if (f20 (x1).toNatClampNeg) = 0 then (some ((T_set_content rs f20))) else (k2 (T_set_content rs f20) (x1 + (1 : Int32)))))))))
def f_X4_weigh (rs : TS) : Option (TS) :=
  (it X4_weigh_B2 (fun _ _ => none) FU rs (0 : Int32))
theorem kv_X4_weigh : KV RX4 yX4_weigh cX4_weigh 2 none 0 := ⟨mw_707, mw_12, mw_60, mw_708, by decide +kernel⟩
set_option maxHeartbeats 8000000 in
set_option maxRecDepth 100000 in
theorem c_X4_weigh {l : Launch} {E : va_G} {cy : Nat → ClassId} (A : Nat → Nat) (rs : TS) (q : TS) (hf : f_X4_weigh rs = some q) : Cv l yX4_weigh cX4_weigh 2 none 11 290 E cy [.ref (A 0)] (wT cy A rs) (wT cy A q) := by
  refine Cv.of RX4 (by decide) rfl (Nat.le_of_ble_eq_true rfl) ?_
  intro K hK
  have hc := hK.cq
  have L2 : ∀ (n2 : Nat) (rs : TS) (x1 : Int32), it X4_weigh_B2 (fun _ _ => none) n2 rs x1 = some q → V K (wT cy A rs) 2 [(0, .ref (A 0)), (1, .int x1)] [] := by
    intro n2
    induction n2 with
    | zero => intro rs x1 hf; exact (o_none hf).elim
    | succ n2 ih2 =>
      intro rs x1 hf
      replace hf : X4_weigh_B2 (it X4_weigh_B2 (fun _ _ => none) n2) rs x1 = some q := hf
      unfold X4_weigh_B2 at hf
      refine r_iload_n hc 1 dX4_weigh_2 rfl ?_
      refine r_aload_n hc 0 dX4_weigh_3 rfl ?_
      refine r_get (v := .int (T_members rs)) hc iw_X4 0 rfl rfl 2 (by decide) mw_211 rfl dX4_weigh_4 ?_
      refine r_icmp_ge hc 37 dX4_weigh_7 (by decide) (fun c_1 => ?_) (fun c_1 => ?_)
      · have hf := o_pos c_1 hf
        refine r_aload_n hc 0 dX4_weigh_37 rfl ?_
        refine r_iconst hc (0 : Int32) dX4_weigh_38 rfl ?_
        refine r_iconst hc (0 : Int32) dX4_weigh_39 rfl ?_
        obtain ⟨q40, hq40, hf⟩ := o_bind hf
        refine r_callVv (ws' := (wT cy A q40)) (As := [.int (0 : Int32), .int (0 : Int32)]) (rest := []) hc (c_X4_put A rs (0 : Int32) (0 : Int32) q40 hq40) kv_X4_put mw_717 0 rfl rfl _ _ _ (Sp_all _ _) rfl rfl (Nat.le_of_ble_eq_true rfl) ⟨by decide, by decide⟩ dX4_weigh_40 ?_
        exact r_vret hK (congrArg (fun z9 => (wT cy A z9)) (Option.some.inj hf)) dX4_weigh_43
      · have hf := o_neg c_1 hf
        refine r_aload_n hc 0 dX4_weigh_10 rfl ?_
        refine r_get (v := .ref (A 4)) hc iw_X4 0 rfl rfl 7 (by decide) mw_216 rfl dX4_weigh_11 ?_
        refine r_iload_n hc 1 dX4_weigh_14 rfl ?_
        refine r_aload_n hc 0 dX4_weigh_15 rfl ?_
        refine r_iload_n hc 1 dX4_weigh_16 rfl ?_
        obtain ⟨q17, hq17, hf⟩ := o_bind hf
        refine r_callVi (ws' := (wT cy A rs)) (As := [.int x1]) (rest := [.int x1, .ref (A 4)]) hc (c_X4_contentRooms A rs x1 q17 hq17) kv_X4_contentRooms mw_709 0 rfl rfl _ _ _ (Sp_all _ _) rfl rfl (Nat.le_of_ble_eq_true rfl) ⟨by decide, by decide⟩ dX4_weigh_17 ?_
        obtain ⟨i_2, hf⟩ := chk_some hf
        obtain ⟨f20, ef20, hf⟩ := lt_some hf
        refine r_iast (f := (T_content rs)) hc 4 rfl i_2 dX4_weigh_20 f20 ef20 (wT cy A (T_set_content rs f20)) rfl ?_
        refine r_aload_n hc 0 dX4_weigh_21 rfl ?_
        refine r_get (v := .ref (A 4)) hc iw_X4 0 rfl rfl 7 (by decide) mw_216 rfl dX4_weigh_22 ?_
        refine r_iload_n hc 1 dX4_weigh_25 rfl ?_
        obtain ⟨i_3, hf⟩ := chk_some hf
        refine r_iald (f := f20) hc 4 rfl i_3 dX4_weigh_26 ?_
        refine r_if_ne hc 31 dX4_weigh_27 (by decide) (fun c_4 => ?_) (fun c_4 => ?_)
        · have hf := o_neg c_4 hf
          refine r_iinc hc 1 [(1, .int (x1 + (1 : Int32))), (0, .ref (A 0))] (x1 + (1 : Int32)) dX4_weigh_31 rfl rfl (by decide) rfl ?_
          refine r_goto hc 2 dX4_weigh_34 (by decide) ?_
          exact V.sub [1, 0] rfl (ih2 (T_set_content rs f20) (x1 + (1 : Int32)) hf)
        · have hf := o_pos c_4 hf
          exact r_vret hK (congrArg (fun z9 => (wT cy A z9)) (Option.some.inj hf)) dX4_weigh_30
  show V K (wT cy A rs) 0 [(0, .ref (A 0))] []
  unfold f_X4_weigh at hf
  refine r_iconst hc (0 : Int32) dX4_weigh_0 rfl ?_
  refine r_istore_n hc [(1, .int (0 : Int32)), (0, .ref (A 0))] dX4_weigh_1 (by decide) rfl ?_
  exact V.sub [1, 0] rfl (L2 FU rs (0 : Int32) hf)
def X4_deal_B38 (kS : TS → Int32 → Int32 → Option (TS)) (k38 : TS → Int32 → Int32 → Int32 → Int32 → Option (TS)) (rs : TS) (x1 : Int32) (x2 : Int32) (x3 : Int32) (x4 : Int32) : Option (TS) :=
  (if x3 < x4 then (some (rs)) else (chk x1 6 (ltA (upd (T_share rs) (x1).toNatClampNeg x4) fun f51 => ((kS (T_set_share rs f51) (x1 + (1 : Int32)) (x2 - x4)).bind fun q60 => (k38 q60 x1 x2 x3 (x4 + (1 : Int32)))))))
def X4_deal_R (kS : TS → Int32 → Int32 → Option (TS)) (rs : TS) (x1 : Int32) (x2 : Int32) : Option (TS) :=
  (if x1 < (T_rooms rs) then (chk x1 6 (chk x1 6 (it (X4_deal_B38 kS) (fun _ _ _ _ _ => none) FU rs x1 x2 (if (((T_size rs) (x1).toNatClampNeg) - ((T_fixed rs) (x1).toNatClampNeg)) < x2 then (((T_size rs) (x1).toNatClampNeg) - ((T_fixed rs) (x1).toNatClampNeg)) else x2) (0 : Int32)))) else (if x2 = 0 then ((f_X4_weigh rs).bind fun q13 => (some (q13))) else (some (rs))))
def f_X4_deal (rs : TS) (x1 : Int32) (x2 : Int32) : Option (TS) := it X4_deal_R (fun _ _ _ => none) 9 rs x1 x2
theorem kv_X4_deal : KV RX4 yX4_deal cX4_deal 5 none 2 := ⟨mw_703, mw_11, mw_60, mw_704, by decide +kernel⟩
set_option maxHeartbeats 8000000 in
set_option maxRecDepth 100000 in
theorem cr_X4_deal {l : Launch} {E : va_G} {cy : Nat → ClassId} (A : Nat → Nat) (nS : Nat) : ∀ (rs : TS) (x1 : Int32) (x2 : Int32) (q : TS) (hf : it X4_deal_R (fun _ _ _ => none) nS rs x1 x2 = some q), Cv l yX4_deal cX4_deal 5 none (12 + nS) (311 + nS * 24) E cy [.ref (A 0), .int x1, .int x2] (wT cy A rs) (wT cy A q) := by
  induction nS with
  | zero => intro rs x1 x2 q hf; exact (o_none hf).elim
  | succ nS ihS =>
    intro rs x1 x2 q hf
    refine Cv.of RX4 (by decide) rfl (Nat.le_of_ble_eq_true rfl) ?_
    intro K hK
    have hc := hK.cq
    have L38 : ∀ (n38 : Nat) (rs : TS) (x1 : Int32) (x2 : Int32) (x3 : Int32) (x4 : Int32), it (X4_deal_B38 (it X4_deal_R (fun _ _ _ => none) nS)) (fun _ _ _ _ _ => none) n38 rs x1 x2 x3 x4 = some q → V K (wT cy A rs) 38 [(0, .ref (A 0)), (1, .int x1), (2, .int x2), (3, .int x3), (4, .int x4)] [] := by
      intro n38
      induction n38 with
      | zero => intro rs x1 x2 x3 x4 hf; exact (o_none hf).elim
      | succ n38 ih38 =>
        intro rs x1 x2 x3 x4 hf
        replace hf : X4_deal_B38 (it X4_deal_R (fun _ _ _ => none) nS) (it (X4_deal_B38 (it X4_deal_R (fun _ _ _ => none) nS)) (fun _ _ _ _ _ => none) n38) rs x1 x2 x3 x4 = some q := hf
        unfold X4_deal_B38 at hf
        refine r_iload hc 4 dX4_deal_38 rfl ?_
        refine r_iload_n hc 3 dX4_deal_40 rfl ?_
        refine r_icmp_gt hc 69 dX4_deal_41 (by decide) (fun c_5 => ?_) (fun c_5 => ?_)
        · have hf := o_pos c_5 hf
          exact r_vret hK (congrArg (fun z9 => (wT cy A z9)) (Option.some.inj hf)) dX4_deal_69
        · have hf := o_neg c_5 hf
          refine r_aload_n hc 0 dX4_deal_44 rfl ?_
          refine r_get (v := .ref (A 7)) hc iw_X4 0 rfl rfl 10 (by decide) mw_219 rfl dX4_deal_45 ?_
          refine r_iload_n hc 1 dX4_deal_48 rfl ?_
          refine r_iload hc 4 dX4_deal_49 rfl ?_
          obtain ⟨i_6, hf⟩ := chk_some hf
          obtain ⟨f51, ef51, hf⟩ := lt_some hf
          refine r_iast (f := (T_share rs)) hc 7 rfl i_6 dX4_deal_51 f51 ef51 (wT cy A (T_set_share rs f51)) rfl ?_
          refine r_aload_n hc 0 dX4_deal_52 rfl ?_
          refine r_iload_n hc 1 dX4_deal_53 rfl ?_
          refine r_iconst hc (1 : Int32) dX4_deal_54 rfl ?_
          refine r_iadd hc dX4_deal_55 ?_
          refine r_iload_n hc 2 dX4_deal_56 rfl ?_
          refine r_iload hc 4 dX4_deal_57 rfl ?_
          refine r_isub hc dX4_deal_59 ?_
          obtain ⟨q60, hq60, hf⟩ := o_bind hf
          refine r_callVv (ws' := (wT cy A q60)) (As := [.int (x1 + (1 : Int32)), .int (x2 - x4)]) (rest := []) hc (ihS (T_set_share rs f51) (x1 + (1 : Int32)) (x2 - x4) q60 hq60) kv_X4_deal mw_701 0 rfl rfl _ _ _ (Sp_all _ _) rfl rfl (Nat.le_of_ble_eq_true rfl) ⟨Nat.le_refl _, by show 8 + (5 + 11) + (311 + nS * 24) ≤ 311 + (nS + 1) * 24; omega⟩ dX4_deal_60 ?_
          refine r_iinc hc 4 [(4, .int (x4 + (1 : Int32))), (0, .ref (A 0)), (1, .int x1), (2, .int x2), (3, .int x3)] (x4 + (1 : Int32)) dX4_deal_63 rfl rfl (by decide) rfl ?_
          refine r_goto hc 38 dX4_deal_66 (by decide) ?_
          exact V.sub [1, 2, 3, 4, 0] rfl (ih38 q60 x1 x2 x3 (x4 + (1 : Int32)) hf)
    show V K (wT cy A rs) 0 [(0, .ref (A 0)), (1, .int x1), (2, .int x2)] []
    replace hf : X4_deal_R (it X4_deal_R (fun _ _ _ => none) nS) rs x1 x2 = some q := hf
    unfold X4_deal_R at hf
    refine r_iload_n hc 1 dX4_deal_0 rfl ?_
    refine r_aload_n hc 0 dX4_deal_1 rfl ?_
    refine r_get (v := .int (T_rooms rs)) hc iw_X4 0 rfl rfl 3 (by decide) mw_212 rfl dX4_deal_2 ?_
    refine r_icmp_lt hc 17 dX4_deal_5 (by decide) (fun c_1 => ?_) (fun c_1 => ?_)
    · have hf := o_pos c_1 hf
      refine r_iload_n hc 2 dX4_deal_17 rfl ?_
      refine r_aload_n hc 0 dX4_deal_18 rfl ?_
      refine r_get (v := .ref (A 5)) hc iw_X4 0 rfl rfl 8 (by decide) mw_217 rfl dX4_deal_19 ?_
      refine r_iload_n hc 1 dX4_deal_22 rfl ?_
      obtain ⟨i_2, hf⟩ := chk_some hf
      refine r_iald (f := (T_size rs)) hc 5 rfl i_2 dX4_deal_23 ?_
      refine r_aload_n hc 0 dX4_deal_24 rfl ?_
      refine r_get (v := .ref (A 6)) hc iw_X4 0 rfl rfl 9 (by decide) mw_218 rfl dX4_deal_25 ?_
      refine r_iload_n hc 1 dX4_deal_28 rfl ?_
      obtain ⟨i_3, hf⟩ := chk_some hf
      refine r_iald (f := (T_fixed rs)) hc 6 rfl i_3 dX4_deal_29 ?_
      refine r_isub hc dX4_deal_30 ?_
      refine r_mmin hc mw_721 mw_722 mw_68 mw_723 (by show 1 ≤ 12 + (nS + 1); omega) (Nat.le_trans (Nat.le_of_ble_eq_true rfl : _ ≤ 40) (by show 40 ≤ 311 + (nS + 1) * 24; omega)) dX4_deal_31 ?_
      refine r_istore_n hc [(3, .int (if (((T_size rs) (x1).toNatClampNeg) - ((T_fixed rs) (x1).toNatClampNeg)) < x2 then (((T_size rs) (x1).toNatClampNeg) - ((T_fixed rs) (x1).toNatClampNeg)) else x2)), (0, .ref (A 0)), (1, .int x1), (2, .int x2)] dX4_deal_34 (by decide) rfl ?_
      refine r_iconst hc (0 : Int32) dX4_deal_35 rfl ?_
      refine r_istore hc [(4, .int (0 : Int32)), (3, .int (if (((T_size rs) (x1).toNatClampNeg) - ((T_fixed rs) (x1).toNatClampNeg)) < x2 then (((T_size rs) (x1).toNatClampNeg) - ((T_fixed rs) (x1).toNatClampNeg)) else x2)), (0, .ref (A 0)), (1, .int x1), (2, .int x2)] dX4_deal_36 (by decide) rfl ?_
      exact V.sub [2, 3, 4, 1, 0] rfl (L38 FU rs x1 x2 (if (((T_size rs) (x1).toNatClampNeg) - ((T_fixed rs) (x1).toNatClampNeg)) < x2 then (((T_size rs) (x1).toNatClampNeg) - ((T_fixed rs) (x1).toNatClampNeg)) else x2) (0 : Int32) hf)
    · have hf := o_neg c_1 hf
      refine r_iload_n hc 2 dX4_deal_8 rfl ?_
      refine r_if_ne hc 16 dX4_deal_9 (by decide) (fun c_4 => ?_) (fun c_4 => ?_)
      · have hf := o_neg c_4 hf
        exact r_vret hK (congrArg (fun z9 => (wT cy A z9)) (Option.some.inj hf)) dX4_deal_16
      · have hf := o_pos c_4 hf
        refine r_aload_n hc 0 dX4_deal_12 rfl ?_
        obtain ⟨q13, hq13, hf⟩ := o_bind hf
        refine r_callVv (ws' := (wT cy A q13)) (As := []) (rest := []) hc (c_X4_weigh A rs q13 hq13) kv_X4_weigh mw_705 0 rfl rfl _ _ _ (Sp_all _ _) rfl rfl (Nat.le_of_ble_eq_true rfl) ⟨by show 11 + 1 ≤ 12 + (nS + 1); omega, by show 8 + (2 + 11) + 290 ≤ 311 + (nS + 1) * 24; omega⟩ dX4_deal_13 ?_
        exact r_vret hK (congrArg (fun z9 => (wT cy A z9)) (Option.some.inj hf)) dX4_deal_16
theorem c_X4_deal {l : Launch} {E : va_G} {cy : Nat → ClassId} (A : Nat → Nat) (rs : TS) (x1 : Int32) (x2 : Int32) (q : TS) (hf : f_X4_deal rs x1 x2 = some q) : Cv l yX4_deal cX4_deal 5 none 21 527 E cy [.ref (A 0), .int x1, .int x2] (wT cy A rs) (wT cy A q) := cr_X4_deal A 9 rs x1 x2 q hf
def X4_find_B62 (k62 : TS → HS → Int32 → Int32 → Option (TS)) (rs : TS) (h : HS) (x2 : Int32) (x3 : Int32) : Option (TS) :=
  (if (T_rooms rs) ≤ x3 then ((f_X4_deal rs (0 : Int32) (T_members rs)).bind fun q111 => (some (q111))) else ((f_X1_sizeOf h x3).bind fun q77 => (chk x3 6 (ltA (upd (T_size rs) (x3).toNatClampNeg q77) fun f80 => ((f_X1_bitsIn h x3).bind fun q88 => ((f_J6_bitCount_0f7a4 (q88 &&& (x2 ^^^ (-1 : Int32)))).bind fun q95 => (chk x3 6 (ltA (upd (T_fixed rs) (x3).toNatClampNeg q95) fun f98 => (k62 (T_set_fixed (T_set_size rs f80) f98) h x2 (x3 + (1 : Int32)))))))))))
def X4_find_J54 (k25 : TS → HS → Int32 → Int32 → Option (TS)) (rs : TS) (h : HS) (x2 : Int32) (x3 : Int32) : Option (TS) :=
  (k25 rs h x2 (x3 + (1 : Int32)))
def X4_find_B25 (k25 : TS → HS → Int32 → Int32 → Option (TS)) (rs : TS) (h : HS) (x2 : Int32) (x3 : Int32) : Option (TS) :=
  (if (8 : Int32) ≤ x3 then (it X4_find_B62 (fun _ _ _ _ => none) FU rs h x2 (0 : Int32)) else ((f_X8_isIn x2 x3).bind fun q33 => (if q33 = 0 then (X4_find_J54 k25 rs h x2 x3) else (if (6 : Int32) ≤ (T_members rs) then (X4_find_J54 k25 rs h x2 x3) else ((f_X4_enlist rs h x3).bind fun q51 => (X4_find_J54 k25 q51 h x2 x3))))))
def f_X4_find (rs : TS) (h : HS) (x2 : Int32) : Option (TS) :=
  (it X4_find_B25 (fun _ _ _ _ => none) FU ((0 : Int32), (0 : Int32), (0 : Int32), (H_rooms h), (T_member rs), (T_company rs), (T_taste rs), (T_content rs), (T_size rs), (T_fixed rs), (T_share rs)) h x2 (0 : Int32))
theorem kv_X4_find : KV RX4 yX4_find cX4_find 4 none 2 := ⟨mw_689, mw_690, mw_60, mw_691, by decide +kernel⟩
set_option maxHeartbeats 8000000 in
set_option maxRecDepth 100000 in
theorem c_X4_find {l : Launch} {E : va_G} {cy : Nat → ClassId} (A : Nat → Nat) (B1 : Nat → Nat) (rs : TS) (h : HS) (x2 : Int32) (q : TS) (hf : f_X4_find rs h x2 = some q) : Cv l yX4_find cX4_find 4 none 22 551 E cy [.ref (A 0), .ref (B1 0), .int x2] (wT cy A rs ++ wH cy B1 h) (wT cy A q ++ wH cy B1 h) := by
  refine Cv.of RX4 (by decide) rfl (Nat.le_of_ble_eq_true rfl) ?_
  intro K hK
  have hc := hK.cq
  have L62 : ∀ (n62 : Nat) (rs : TS) (x2 : Int32) (x3 : Int32), it X4_find_B62 (fun _ _ _ _ => none) n62 rs h x2 x3 = some q → V K (wT cy A rs ++ wH cy B1 h) 62 [(0, .ref (A 0)), (1, .ref (B1 0)), (2, .int x2), (3, .int x3)] [] := by
    intro n62
    induction n62 with
    | zero => intro rs x2 x3 hf; exact (o_none hf).elim
    | succ n62 ih62 =>
      intro rs x2 x3 hf
      replace hf : X4_find_B62 (it X4_find_B62 (fun _ _ _ _ => none) n62) rs h x2 x3 = some q := hf
      unfold X4_find_B62 at hf
      refine r_iload_n hc 3 dX4_find_62 rfl ?_
      refine r_aload_n hc 0 dX4_find_63 rfl ?_
      refine r_get (v := .int (T_rooms rs)) hc iw_X4 0 rfl rfl 3 (by decide) mw_212 rfl dX4_find_64 ?_
      refine r_icmp_ge hc 105 dX4_find_67 (by decide) (fun c_4 => ?_) (fun c_4 => ?_)
      · have hf := o_pos c_4 hf
        refine r_aload_n hc 0 dX4_find_105 rfl ?_
        refine r_iconst hc (0 : Int32) dX4_find_106 rfl ?_
        refine r_aload_n hc 0 dX4_find_107 rfl ?_
        refine r_get (v := .int (T_members rs)) hc iw_X4 0 rfl rfl 2 (by decide) mw_211 rfl dX4_find_108 ?_
        obtain ⟨q111, hq111, hf⟩ := o_bind hf
        refine r_callVBv (ws' := (wT cy A q111 ++ wH cy B1 h)) (As := [.int (0 : Int32), .int (T_members rs)]) (rest := []) hc (c_X4_deal A rs (0 : Int32) (T_members rs) q111 hq111) kv_X4_deal mw_701 0 rfl rfl [wT cy A rs, wH cy B1 h] [wH cy B1 h] [wT cy A rs] [wT cy A q111] [wT cy A q111, wH cy B1 h] [1, 0] [1, 0] ⟨(by simp only [wD_eq, List.flatten_cons, List.flatten_nil, List.append_nil, List.append_assoc, List.cons_append, List.nil_append]), (by simp only [wD_eq, List.flatten_cons, List.flatten_nil, List.append_nil, List.append_assoc, List.cons_append, List.nil_append]), (by simp only [wD_eq, List.flatten_cons, List.flatten_nil, List.append_nil, List.append_assoc, List.cons_append, List.nil_append]), (by simp only [wD_eq, List.flatten_cons, List.flatten_nil, List.append_nil, List.append_assoc, List.cons_append, List.nil_append]), rfl, (show List.Perm [1, 0] (List.range 2) from by decide), rfl, (show List.Perm [1, 0] (List.range 2) from by decide)⟩ rfl rfl (Nat.le_of_ble_eq_true rfl) ⟨by decide, by decide⟩ dX4_find_111 ?_
        exact r_vret hK (congrArg (fun z9 => (wT cy A z9 ++ wH cy B1 h)) (Option.some.inj hf)) dX4_find_114
      · have hf := o_neg c_4 hf
        refine r_aload_n hc 0 dX4_find_70 rfl ?_
        refine r_get (v := .ref (A 5)) hc iw_X4 0 rfl rfl 8 (by decide) mw_217 rfl dX4_find_71 ?_
        refine r_iload_n hc 3 dX4_find_74 rfl ?_
        refine r_aload_n hc 1 dX4_find_75 rfl ?_
        refine r_iload_n hc 3 dX4_find_76 rfl ?_
        obtain ⟨q77, hq77, hf⟩ := o_bind hf
        refine r_callVBi (ws' := (wT cy A rs ++ wH cy B1 h)) (As := [.int x3]) (rest := [.int x3, .ref (A 5)]) hc (c_X1_sizeOf B1 h x3 q77 hq77) kv_X1_sizeOf mw_698 0 rfl rfl [wT cy A rs, wH cy B1 h] [wT cy A rs] [wH cy B1 h] [wH cy B1 h] [wT cy A rs, wH cy B1 h] [0, 1] [0, 1] ⟨(by simp only [wD_eq, List.flatten_cons, List.flatten_nil, List.append_nil, List.append_assoc, List.cons_append, List.nil_append]), (by simp only [wD_eq, List.flatten_cons, List.flatten_nil, List.append_nil, List.append_assoc, List.cons_append, List.nil_append]), (by simp only [wD_eq, List.flatten_cons, List.flatten_nil, List.append_nil, List.append_assoc, List.cons_append, List.nil_append]), (by simp only [wD_eq, List.flatten_cons, List.flatten_nil, List.append_nil, List.append_assoc, List.cons_append, List.nil_append]), rfl, (show List.Perm [0, 1] (List.range 2) from by decide), rfl, (show List.Perm [0, 1] (List.range 2) from by decide)⟩ rfl rfl (Nat.le_of_ble_eq_true rfl) ⟨by decide, by decide⟩ dX4_find_77 ?_
        obtain ⟨i_5, hf⟩ := chk_some hf
        obtain ⟨f80, ef80, hf⟩ := lt_some hf
        refine r_iast (f := (T_size rs)) hc 5 rfl i_5 dX4_find_80 f80 ef80 (wT cy A (T_set_size rs f80) ++ wH cy B1 h) rfl ?_
        refine r_aload_n hc 0 dX4_find_81 rfl ?_
        refine r_get (v := .ref (A 6)) hc iw_X4 0 rfl rfl 9 (by decide) mw_218 rfl dX4_find_82 ?_
        refine r_iload_n hc 3 dX4_find_85 rfl ?_
        refine r_aload_n hc 1 dX4_find_86 rfl ?_
        refine r_iload_n hc 3 dX4_find_87 rfl ?_
        obtain ⟨q88, hq88, hf⟩ := o_bind hf
        refine r_callVBi (ws' := (wT cy A (T_set_size rs f80) ++ wH cy B1 h)) (As := [.int x3]) (rest := [.int x3, .ref (A 6)]) hc (c_X1_bitsIn B1 h x3 q88 hq88) kv_X1_bitsIn mw_699 0 rfl rfl [wT cy A (T_set_size rs f80), wH cy B1 h] [wT cy A (T_set_size rs f80)] [wH cy B1 h] [wH cy B1 h] [wT cy A (T_set_size rs f80), wH cy B1 h] [0, 1] [0, 1] ⟨(by simp only [wD_eq, List.flatten_cons, List.flatten_nil, List.append_nil, List.append_assoc, List.cons_append, List.nil_append]), (by simp only [wD_eq, List.flatten_cons, List.flatten_nil, List.append_nil, List.append_assoc, List.cons_append, List.nil_append]), (by simp only [wD_eq, List.flatten_cons, List.flatten_nil, List.append_nil, List.append_assoc, List.cons_append, List.nil_append]), (by simp only [wD_eq, List.flatten_cons, List.flatten_nil, List.append_nil, List.append_assoc, List.cons_append, List.nil_append]), rfl, (show List.Perm [0, 1] (List.range 2) from by decide), rfl, (show List.Perm [0, 1] (List.range 2) from by decide)⟩ rfl rfl (Nat.le_of_ble_eq_true rfl) ⟨by decide, by decide⟩ dX4_find_88 ?_
        refine r_iload_n hc 2 dX4_find_91 rfl ?_
        refine r_iconst hc (-1 : Int32) dX4_find_92 rfl ?_
        refine r_ixor hc dX4_find_93 ?_
        refine r_iand hc dX4_find_94 ?_
        obtain ⟨q95, hq95, hf⟩ := o_bind hf
        refine r_callSi (ws' := (wT cy A (T_set_size rs f80) ++ wH cy B1 h)) (As := [.int (q88 &&& (x2 ^^^ (-1 : Int32)))]) (rest := [.int x3, .ref (A 6)]) hc (c_J6_bitCount_0f7a4  (q88 &&& (x2 ^^^ (-1 : Int32))) q95 hq95) ks_J6_bitCount_0f7a4 mw_700 _ _ _ (Sp_none _) rfl rfl (Nat.le_of_ble_eq_true rfl) ⟨by decide, by decide⟩ dX4_find_95 ?_
        obtain ⟨i_6, hf⟩ := chk_some hf
        obtain ⟨f98, ef98, hf⟩ := lt_some hf
        refine r_iast (f := (T_fixed rs)) hc 6 rfl i_6 dX4_find_98 f98 ef98 (wT cy A (T_set_fixed (T_set_size rs f80) f98) ++ wH cy B1 h) rfl ?_
        refine r_iinc hc 3 [(3, .int (x3 + (1 : Int32))), (0, .ref (A 0)), (1, .ref (B1 0)), (2, .int x2)] (x3 + (1 : Int32)) dX4_find_99 rfl rfl (by decide) rfl ?_
        refine r_goto hc 62 dX4_find_102 (by decide) ?_
        exact V.sub [1, 2, 3, 0] rfl (ih62 (T_set_fixed (T_set_size rs f80) f98) x2 (x3 + (1 : Int32)) hf)
  have L25 : ∀ (n25 : Nat) (rs : TS) (x2 : Int32) (x3 : Int32), it X4_find_B25 (fun _ _ _ _ => none) n25 rs h x2 x3 = some q → V K (wT cy A rs ++ wH cy B1 h) 25 [(0, .ref (A 0)), (1, .ref (B1 0)), (2, .int x2), (3, .int x3)] [] := by
    intro n25
    induction n25 with
    | zero => intro rs x2 x3 hf; exact (o_none hf).elim
    | succ n25 ih25 =>
      have J54 : ∀ (rs : TS) (x2 : Int32) (x3 : Int32), X4_find_J54 (it X4_find_B25 (fun _ _ _ _ => none) n25) rs h x2 x3 = some q → V K (wT cy A rs ++ wH cy B1 h) 54 [(0, .ref (A 0)), (1, .ref (B1 0)), (2, .int x2), (3, .int x3)] [] := by
        intro rs x2 x3 hf
        unfold X4_find_J54 at hf
        refine r_iinc hc 3 [(3, .int (x3 + (1 : Int32))), (0, .ref (A 0)), (1, .ref (B1 0)), (2, .int x2)] (x3 + (1 : Int32)) dX4_find_54 rfl rfl (by decide) rfl ?_
        refine r_goto hc 25 dX4_find_57 (by decide) ?_
        exact V.sub [1, 2, 3, 0] rfl (ih25 rs x2 (x3 + (1 : Int32)) hf)
      intro rs x2 x3 hf
      replace hf : X4_find_B25 (it X4_find_B25 (fun _ _ _ _ => none) n25) rs h x2 x3 = some q := hf
      unfold X4_find_B25 at hf
      refine r_iload_n hc 3 dX4_find_25 rfl ?_
      refine r_bipush hc (8 : Int32) dX4_find_26 rfl ?_
      refine r_icmp_ge hc 60 dX4_find_28 (by decide) (fun c_1 => ?_) (fun c_1 => ?_)
      · have hf := o_pos c_1 hf
        refine r_iconst hc (0 : Int32) dX4_find_60 rfl ?_
        refine r_istore_n hc [(3, .int (0 : Int32)), (0, .ref (A 0)), (1, .ref (B1 0)), (2, .int x2)] dX4_find_61 (by decide) rfl ?_
        exact V.sub [1, 2, 3, 0] rfl (L62 FU rs x2 (0 : Int32) hf)
      · have hf := o_neg c_1 hf
        refine r_iload_n hc 2 dX4_find_31 rfl ?_
        refine r_iload_n hc 3 dX4_find_32 rfl ?_
        obtain ⟨q33, hq33, hf⟩ := o_bind hf
        refine r_callSNi (ws' := (wT cy A rs ++ wH cy B1 h)) (As := [.int x2, .int x3]) (rest := []) hc (c_X8_isIn  x2 x3 q33 hq33) ks_X8_isIn (fun U h9 => h9.1 _ (List.mem_of_getElem? (i := 9) rfl)) _ _ _ (Sp_none _) rfl rfl (Nat.le_of_ble_eq_true rfl) ⟨by decide, by decide⟩ dX4_find_33 ?_
        refine r_if_eq hc 54 dX4_find_36 (by decide) (fun c_2 => ?_) (fun c_2 => ?_)
        · have hf := o_pos c_2 hf
          exact V.sub [0, 1, 2, 3] rfl (J54 rs x2 x3 hf)
        · have hf := o_neg c_2 hf
          refine r_aload_n hc 0 dX4_find_39 rfl ?_
          refine r_get (v := .int (T_members rs)) hc iw_X4 0 rfl rfl 2 (by decide) mw_211 rfl dX4_find_40 ?_
          refine r_bipush hc (6 : Int32) dX4_find_43 rfl ?_
          refine r_icmp_ge hc 54 dX4_find_45 (by decide) (fun c_3 => ?_) (fun c_3 => ?_)
          · have hf := o_pos c_3 hf
            exact V.sub [0, 1, 2, 3] rfl (J54 rs x2 x3 hf)
          · have hf := o_neg c_3 hf
            refine r_aload_n hc 0 dX4_find_48 rfl ?_
            refine r_aload_n hc 1 dX4_find_49 rfl ?_
            refine r_iload_n hc 3 dX4_find_50 rfl ?_
            obtain ⟨q51, hq51, hf⟩ := o_bind hf
            refine r_callVv (ws' := (wT cy A q51 ++ wH cy B1 h)) (As := [.ref (B1 0), .int x3]) (rest := []) hc (c_X4_enlist A B1 rs h x3 q51 hq51) kv_X4_enlist mw_693 0 rfl rfl _ _ _ (Sp_all _ _) rfl rfl (Nat.le_of_ble_eq_true rfl) ⟨by decide, by decide⟩ dX4_find_51 ?_
            exact V.sub [0, 1, 2, 3] rfl (J54 q51 x2 x3 hf)
  show V K (wT cy A rs ++ wH cy B1 h) 0 [(0, .ref (A 0)), (1, .ref (B1 0)), (2, .int x2)] []
  unfold f_X4_find at hf
  refine r_aload_n hc 0 dX4_find_0 rfl ?_
  refine r_iconst hc (0 : Int32) dX4_find_1 rfl ?_
  refine r_put hc iw_X4 tyX4 tyX4_ok nmX4 0 rfl rfl 0 (by decide) mw_208 rfl rfl rfl (Nat.le_of_ble_eq_true rfl) dX4_find_2 (wT cy A (T_set_ways rs (0 : Int32)) ++ wH cy B1 h) rfl ?_
  refine r_aload_n hc 0 dX4_find_5 rfl ?_
  refine r_iconst hc (0 : Int32) dX4_find_6 rfl ?_
  refine r_put hc iw_X4 tyX4 tyX4_ok nmX4 0 rfl rfl 1 (by decide) mw_210 rfl rfl rfl (Nat.le_of_ble_eq_true rfl) dX4_find_7 (wT cy A (T_set_first (T_set_ways rs (0 : Int32)) (0 : Int32)) ++ wH cy B1 h) rfl ?_
  refine r_aload_n hc 0 dX4_find_10 rfl ?_
  refine r_iconst hc (0 : Int32) dX4_find_11 rfl ?_
  refine r_put hc iw_X4 tyX4 tyX4_ok nmX4 0 rfl rfl 2 (by decide) mw_211 rfl rfl rfl (Nat.le_of_ble_eq_true rfl) dX4_find_12 (wT cy A (T_set_members (T_set_first (T_set_ways rs (0 : Int32)) (0 : Int32)) (0 : Int32)) ++ wH cy B1 h) rfl ?_
  refine r_aload_n hc 0 dX4_find_15 rfl ?_
  refine r_aload_n hc 1 dX4_find_16 rfl ?_
  refine r_get (v := .int (H_rooms h)) hc iw_X1 8 rfl rfl 0 (by decide) mw_85 rfl dX4_find_17 ?_
  refine r_put hc iw_X4 tyX4 tyX4_ok nmX4 0 rfl rfl 3 (by decide) mw_212 rfl rfl rfl (Nat.le_of_ble_eq_true rfl) dX4_find_20 (wT cy A ((0 : Int32), (0 : Int32), (0 : Int32), (H_rooms h), (T_member rs), (T_company rs), (T_taste rs), (T_content rs), (T_size rs), (T_fixed rs), (T_share rs)) ++ wH cy B1 h) rfl ?_
  refine r_iconst hc (0 : Int32) dX4_find_23 rfl ?_
  refine r_istore_n hc [(3, .int (0 : Int32)), (0, .ref (A 0)), (1, .ref (B1 0)), (2, .int x2)] dX4_find_24 (by decide) rfl ?_
  exact V.sub [1, 2, 3, 0] rfl (L25 FU ((0 : Int32), (0 : Int32), (0 : Int32), (H_rooms h), (T_member rs), (T_company rs), (T_taste rs), (T_content rs), (T_size rs), (T_fixed rs), (T_share rs)) x2 (0 : Int32) hf)
def X4_roomOf_B22 (k22 : TS → Int32 → Int32 → Int32 → Option (Int32)) (rs : TS) (x1 : Int32) (x2 : Int32) (x3 : Int32) : Option (Int32) :=
  (if x3 < 0 then (some ((-6 : Int32))) else (chk x3 6 (if ((T_member rs) (x3).toNatClampNeg) = x1 then (some ((x2 - x2 / (10 : Int32) * (10 : Int32)))) else (k22 rs x1 (x2 / (10 : Int32)) (x3 + (-1 : Int32))))))
def f_X4_roomOf (rs : TS) (x1 : Int32) : Option (Int32) :=
  (if (T_ways rs) = 0 then (some ((-6 : Int32))) else (it X4_roomOf_B22 (fun _ _ _ _ => none) FU rs x1 (T_first rs) ((T_members rs) - (1 : Int32))))
theorem kv_X4_roomOf : KV RX4 yX4_roomOf cX4_roomOf 4 (some .int) 1 := ⟨mw_725, mw_726, mw_60, mw_727, by decide +kernel⟩
set_option maxHeartbeats 8000000 in
set_option maxRecDepth 100000 in
theorem c_X4_roomOf {l : Launch} {E : va_G} {cy : Nat → ClassId} (A : Nat → Nat) (rs : TS) (x1 : Int32) (q : Int32) (hf : f_X4_roomOf rs x1 = some q) : Ci l yX4_roomOf cX4_roomOf 4 (some .int) 1 60 E cy [.ref (A 0), .int x1] (wT cy A rs) q (wT cy A rs) := by
  refine Ci.of RX4 (by decide) rfl (Nat.le_of_ble_eq_true rfl) ?_
  intro K hK
  have hc := hK.cq
  have L22 : ∀ (n22 : Nat) (x1 : Int32) (x2 : Int32) (x3 : Int32), it X4_roomOf_B22 (fun _ _ _ _ => none) n22 rs x1 x2 x3 = some q → V K (wT cy A rs) 22 [(0, .ref (A 0)), (1, .int x1), (2, .int x2), (3, .int x3)] [] := by
    intro n22
    induction n22 with
    | zero => intro x1 x2 x3 hf; exact (o_none hf).elim
    | succ n22 ih22 =>
      intro x1 x2 x3 hf
      replace hf : X4_roomOf_B22 (it X4_roomOf_B22 (fun _ _ _ _ => none) n22) rs x1 x2 x3 = some q := hf
      unfold X4_roomOf_B22 at hf
      refine r_iload_n hc 3 dX4_roomOf_22 rfl ?_
      refine r_if_lt hc 52 dX4_roomOf_23 (by decide) (fun c_2 => ?_) (fun c_2 => ?_)
      · have hf := o_pos c_2 hf
        refine r_bipush hc (-6 : Int32) dX4_roomOf_52 rfl ?_
        exact r_iret hK (Option.some.inj hf) rfl dX4_roomOf_54
      · have hf := o_neg c_2 hf
        refine r_aload_n hc 0 dX4_roomOf_26 rfl ?_
        refine r_get (v := .ref (A 1)) hc iw_X4 0 rfl rfl 4 (by decide) mw_213 rfl dX4_roomOf_27 ?_
        refine r_iload_n hc 3 dX4_roomOf_30 rfl ?_
        obtain ⟨i_3, hf⟩ := chk_some hf
        refine r_iald (f := (T_member rs)) hc 1 rfl i_3 dX4_roomOf_31 ?_
        refine r_iload_n hc 1 dX4_roomOf_32 rfl ?_
        refine r_icmp_ne hc 41 dX4_roomOf_33 (by decide) (fun c_4 => ?_) (fun c_4 => ?_)
        · have hf := o_neg c_4 hf
          refine r_iload_n hc 2 dX4_roomOf_41 rfl ?_
          refine r_bipush hc (10 : Int32) dX4_roomOf_42 rfl ?_
          refine r_idiv hc dX4_roomOf_44 (by decide) ?_
          refine r_istore_n hc [(2, .int (x2 / (10 : Int32))), (0, .ref (A 0)), (1, .int x1), (3, .int x3)] dX4_roomOf_45 (by decide) rfl ?_
          refine r_iinc hc 3 [(3, .int (x3 + (-1 : Int32))), (2, .int (x2 / (10 : Int32))), (0, .ref (A 0)), (1, .int x1)] (x3 + (-1 : Int32)) dX4_roomOf_46 rfl rfl (by decide) rfl ?_
          refine r_goto hc 22 dX4_roomOf_49 (by decide) ?_
          exact V.sub [2, 3, 1, 0] rfl (ih22 x1 (x2 / (10 : Int32)) (x3 + (-1 : Int32)) hf)
        · have hf := o_pos c_4 hf
          refine r_iload_n hc 2 dX4_roomOf_36 rfl ?_
          refine r_bipush hc (10 : Int32) dX4_roomOf_37 rfl ?_
          refine r_irem hc dX4_roomOf_39 (by decide) ?_
          exact r_iret hK (Option.some.inj hf) rfl dX4_roomOf_40
  show V K (wT cy A rs) 0 [(0, .ref (A 0)), (1, .int x1)] []
  unfold f_X4_roomOf at hf
  refine r_aload_n hc 0 dX4_roomOf_0 rfl ?_
  refine r_get (v := .int (T_ways rs)) hc iw_X4 0 rfl rfl 0 (by decide) mw_208 rfl dX4_roomOf_1 ?_
  refine r_if_ne hc 10 dX4_roomOf_4 (by decide) (fun c_1 => ?_) (fun c_1 => ?_)
  · have hf := o_neg c_1 hf
    refine r_aload_n hc 0 dX4_roomOf_10 rfl ?_
    refine r_get (v := .int (T_first rs)) hc iw_X4 0 rfl rfl 1 (by decide) mw_210 rfl dX4_roomOf_11 ?_
    refine r_istore_n hc [(2, .int (T_first rs)), (0, .ref (A 0)), (1, .int x1)] dX4_roomOf_14 (by decide) rfl ?_
    refine r_aload_n hc 1 dX4_roomOf_15 rfl ?_
    refine r_get (v := .int (T_members rs)) hc iw_X4 0 rfl rfl 2 (by decide) mw_211 rfl dX4_roomOf_16 ?_
    refine r_iconst hc (1 : Int32) dX4_roomOf_19 rfl ?_
    refine r_isub hc dX4_roomOf_20 ?_
    refine r_istore_n hc [(3, .int ((T_members rs) - (1 : Int32))), (2, .int (T_first rs)), (0, .ref (A 0)), (1, .int x1)] dX4_roomOf_21 (by decide) rfl ?_
    exact V.sub [2, 3, 1, 0] rfl (L22 FU x1 (T_first rs) ((T_members rs) - (1 : Int32)) hf)
  · have hf := o_pos c_1 hf
    refine r_bipush hc (-6 : Int32) dX4_roomOf_7 rfl ?_
    exact r_iret hK (Option.some.inj hf) rfl dX4_roomOf_9
