def X0_readyTastes_B2 (k2 : DS → Int32 → Int32 → Option (DS)) (d : DS) (x1 : Int32) (x2 : Int32) : Option (DS) :=
  (if (H_rooms (D_house d)) ≤ x2 then (some (d)) else ((f_X1_pullOfThings (D_house d) x1 x2).bind fun q29 => (chk ((x1 * (6 : Int32)) + x2) 48 (ltA (upd (D_taste d) (((x1 * (6 : Int32)) + x2)).toNatClampNeg q29) fun f32 => (k2 (D_set_taste d f32) x1 (x2 + (1 : Int32)))))))
def f_X0_readyTastes (d : DS) (x1 : Int32) : Option (DS) :=
  (it X0_readyTastes_B2 (fun _ _ _ => none) FU d x1 (0 : Int32))
theorem kv_X0_readyTastes : KV RX0 yX0_readyTastes cX0_readyTastes 3 none 1 := ⟨mw_477, mw_2, mw_58, mw_478, by decide +kernel⟩
set_option maxHeartbeats 8000000 in
set_option maxRecDepth 100000 in
theorem c_X0_readyTastes {l : Launch} {E : va_G} {cy : Nat → ClassId} (A : Nat → Nat) (d : DS) (x1 : Int32) (q : DS) (hf : f_X0_readyTastes d x1 = some q) : Cv l yX0_readyTastes cX0_readyTastes 3 none 2 84 E cy [.ref (A 0), .int x1] (wD cy A d) (wD cy A q) := by
  refine Cv.of RX0 (by decide) rfl (Nat.le_of_ble_eq_true rfl) ?_
  intro K hK
  have hc := hK.cq
  have L2 : ∀ (n2 : Nat) (d : DS) (x1 : Int32) (x2 : Int32), it X0_readyTastes_B2 (fun _ _ _ => none) n2 d x1 x2 = some q → V K (wD cy A d) 2 [(0, .ref (A 0)), (1, .int x1), (2, .int x2)] [] := by
    intro n2
    induction n2 with
    | zero => intro d x1 x2 hf; exact (o_none hf).elim
    | succ n2 ih2 =>
      intro d x1 x2 hf
      replace hf : X0_readyTastes_B2 (it X0_readyTastes_B2 (fun _ _ _ => none) n2) d x1 x2 = some q := hf
      unfold X0_readyTastes_B2 at hf
      refine r_iload_n hc 2 dX0_readyTastes_2 rfl ?_
      refine r_aload_n hc 0 dX0_readyTastes_3 rfl ?_
      refine r_get (v := .ref ((sh A 5) 0)) hc iw_X0 0 rfl rfl 0 (by decide) mw_168 rfl dX0_readyTastes_4 ?_
      refine r_get (v := .int (H_rooms (D_house d))) hc iw_X1 5 rfl rfl 0 (by decide) mw_88 rfl dX0_readyTastes_7 ?_
      refine r_icmp_ge hc 39 dX0_readyTastes_10 (by decide) (fun c_1 => ?_) (fun c_1 => ?_)
      · have hf := o_pos c_1 hf
        exact r_vret hK (congrArg (fun z9 => (wD cy A z9)) (Option.some.inj hf)) dX0_readyTastes_39
      · have hf := o_neg c_1 hf
        refine r_aload_n hc 0 dX0_readyTastes_13 rfl ?_
        refine r_get (v := .ref (A 1)) hc iw_X0 0 rfl rfl 1 (by decide) mw_172 rfl dX0_readyTastes_14 ?_
        refine r_iload_n hc 1 dX0_readyTastes_17 rfl ?_
        refine r_bipush hc (6 : Int32) dX0_readyTastes_18 rfl ?_
        refine r_imul hc dX0_readyTastes_20 ?_
        refine r_iload_n hc 2 dX0_readyTastes_21 rfl ?_
        refine r_iadd hc dX0_readyTastes_22 ?_
        refine r_aload_n hc 0 dX0_readyTastes_23 rfl ?_
        refine r_get (v := .ref ((sh A 5) 0)) hc iw_X0 0 rfl rfl 0 (by decide) mw_168 rfl dX0_readyTastes_24 ?_
        refine r_iload_n hc 1 dX0_readyTastes_27 rfl ?_
        refine r_iload_n hc 2 dX0_readyTastes_28 rfl ?_
        obtain ⟨q29, hq29, hf⟩ := o_bind hf
        refine r_callVBi (ws' := (wD cy A d)) (As := [.int x1, .int x2]) (rest := [.int ((x1 * (6 : Int32)) + x2), .ref (A 1)]) hc (c_X1_pullOfThings (sh A 5) (D_house d) x1 x2 q29 hq29) kv_X1_pullOfThings mw_479 0 rfl rfl [wDo cy A d, wH cy (sh A 5) (D_house d)] [wDo cy A d] [wH cy (sh A 5) (D_house d)] [wH cy (sh A 5) (D_house d)] [wDo cy A d, wH cy (sh A 5) (D_house d)] [0, 1] [0, 1] ⟨(by simp only [wD_eq, List.flatten_cons, List.flatten_nil, List.append_nil, List.append_assoc, List.cons_append, List.nil_append]), (by simp only [wD_eq, List.flatten_cons, List.flatten_nil, List.append_nil, List.append_assoc, List.cons_append, List.nil_append]), (by simp only [wD_eq, List.flatten_cons, List.flatten_nil, List.append_nil, List.append_assoc, List.cons_append, List.nil_append]), (by simp only [wD_eq, List.flatten_cons, List.flatten_nil, List.append_nil, List.append_assoc, List.cons_append, List.nil_append]), rfl, (show List.Perm [0, 1] (List.range 2) from by decide), rfl, (show List.Perm [0, 1] (List.range 2) from by decide)⟩ rfl rfl (Nat.le_of_ble_eq_true rfl) ⟨by decide, by decide⟩ dX0_readyTastes_29 ?_
        obtain ⟨i_2, hf⟩ := chk_some hf
        obtain ⟨f32, ef32, hf⟩ := lt_some hf
        refine r_iast (f := (D_taste d)) hc 1 rfl i_2 dX0_readyTastes_32 f32 ef32 (wD cy A (D_set_taste d f32)) rfl ?_
        refine r_iinc hc 2 [(2, .int (x2 + (1 : Int32))), (0, .ref (A 0)), (1, .int x1)] (x2 + (1 : Int32)) dX0_readyTastes_33 rfl rfl (by decide) rfl ?_
        refine r_goto hc 2 dX0_readyTastes_36 (by decide) ?_
        exact V.sub [1, 2, 0] rfl (ih2 (D_set_taste d f32) x1 (x2 + (1 : Int32)) hf)
  show V K (wD cy A d) 0 [(0, .ref (A 0)), (1, .int x1)] []
  unfold f_X0_readyTastes at hf
  refine r_iconst hc (0 : Int32) dX0_readyTastes_0 rfl ?_
  refine r_istore_n hc [(2, .int (0 : Int32)), (0, .ref (A 0)), (1, .int x1)] dX0_readyTastes_1 (by decide) rfl ?_
  exact V.sub [1, 2, 0] rfl (L2 FU d x1 (0 : Int32) hf)
def f_X0_readyJam (d : DS) (x1 : Int32) : Option (DS) :=
  (chk x1 8 (chk x1 8 (chk x1 8 (if ((H_busy (D_house d)) (x1).toNatClampNeg) = (3 : Int32) then ((f_X1_isRoom (D_house d) ((H_mate (D_house d)) (x1).toNatClampNeg)).bind fun q38 => (if q38 = 0 then (some (d)) else (chk ((((H_place (D_house d)) (x1).toNatClampNeg) * (6 : Int32)) + ((H_mate (D_house d)) (x1).toNatClampNeg)) 36 (chk ((((H_place (D_house d)) (x1).toNatClampNeg) * (6 : Int32)) + ((H_mate (D_house d)) (x1).toNatClampNeg)) 36 (ltA (upd (D_wide d) (((((H_place (D_house d)) (x1).toNatClampNeg) * (6 : Int32)) + ((H_mate (D_house d)) (x1).toNatClampNeg))).toNatClampNeg (((D_wide d) (((((H_place (D_house d)) (x1).toNatClampNeg) * (6 : Int32)) + ((H_mate (D_house d)) (x1).toNatClampNeg))).toNatClampNeg) - (1 : Int32))) fun f58 => (chk ((((H_mate (D_house d)) (x1).toNatClampNeg) * (6 : Int32)) + ((H_place (D_house d)) (x1).toNatClampNeg)) 36 (chk ((((H_mate (D_house d)) (x1).toNatClampNeg) * (6 : Int32)) + ((H_place (D_house d)) (x1).toNatClampNeg)) 36 (ltA (upd f58 (((((H_mate (D_house d)) (x1).toNatClampNeg) * (6 : Int32)) + ((H_place (D_house d)) (x1).toNatClampNeg))).toNatClampNeg ((f58 (((((H_mate (D_house d)) (x1).toNatClampNeg) * (6 : Int32)) + ((H_place (D_house d)) (x1).toNatClampNeg))).toNatClampNeg) - (1 : Int32))) fun f73 => (some ((D_set_wide d f73))))))))))) else (some (d))))))
theorem kv_X0_readyJam : KV RX0 yX0_readyJam cX0_readyJam 4 none 1 := ⟨mw_485, mw_3, mw_58, mw_486, by decide +kernel⟩
set_option maxHeartbeats 8000000 in
set_option maxRecDepth 100000 in
theorem c_X0_readyJam {l : Launch} {E : va_G} {cy : Nat → ClassId} (A : Nat → Nat) (d : DS) (x1 : Int32) (q : DS) (hf : f_X0_readyJam d x1 = some q) : Cv l yX0_readyJam cX0_readyJam 4 none 2 81 E cy [.ref (A 0), .int x1] (wD cy A d) (wD cy A q) := by
  refine Cv.of RX0 (by decide) rfl (Nat.le_of_ble_eq_true rfl) ?_
  intro K hK
  have hc := hK.cq
  show V K (wD cy A d) 0 [(0, .ref (A 0)), (1, .int x1)] []
  unfold f_X0_readyJam at hf
  refine r_aload_n hc 0 dX0_readyJam_0 rfl ?_
  refine r_get (v := .ref ((sh A 5) 0)) hc iw_X0 0 rfl rfl 0 (by decide) mw_168 rfl dX0_readyJam_1 ?_
  refine r_get (v := .ref ((sh A 5) 3)) hc iw_X1 5 rfl rfl 5 (by decide) mw_101 rfl dX0_readyJam_4 ?_
  refine r_iload_n hc 1 dX0_readyJam_7 rfl ?_
  obtain ⟨i_1, hf⟩ := chk_some hf
  refine r_iald (f := (H_place (D_house d))) hc 8 rfl i_1 dX0_readyJam_8 ?_
  refine r_istore_n hc [(2, .int ((H_place (D_house d)) (x1).toNatClampNeg)), (0, .ref (A 0)), (1, .int x1)] dX0_readyJam_9 (by decide) rfl ?_
  refine r_aload_n hc 1 dX0_readyJam_10 rfl ?_
  refine r_get (v := .ref ((sh A 5) 0)) hc iw_X0 0 rfl rfl 0 (by decide) mw_168 rfl dX0_readyJam_11 ?_
  refine r_get (v := .ref ((sh A 5) 5)) hc iw_X1 5 rfl rfl 7 (by decide) mw_107 rfl dX0_readyJam_14 ?_
  refine r_iload_n hc 2 dX0_readyJam_17 rfl ?_
  obtain ⟨i_2, hf⟩ := chk_some hf
  refine r_iald (f := (H_mate (D_house d))) hc 10 rfl i_2 dX0_readyJam_18 ?_
  refine r_istore_n hc [(3, .int ((H_mate (D_house d)) (x1).toNatClampNeg)), (2, .int ((H_place (D_house d)) (x1).toNatClampNeg)), (0, .ref (A 0)), (1, .int x1)] dX0_readyJam_19 (by decide) rfl ?_
  refine r_aload_n hc 2 dX0_readyJam_20 rfl ?_
  refine r_get (v := .ref ((sh A 5) 0)) hc iw_X0 0 rfl rfl 0 (by decide) mw_168 rfl dX0_readyJam_21 ?_
  refine r_get (v := .ref ((sh A 5) 4)) hc iw_X1 5 rfl rfl 6 (by decide) mw_104 rfl dX0_readyJam_24 ?_
  refine r_iload_n hc 3 dX0_readyJam_27 rfl ?_
  obtain ⟨i_3, hf⟩ := chk_some hf
  refine r_iald (f := (H_busy (D_house d))) hc 9 rfl i_3 dX0_readyJam_28 ?_
  refine r_iconst hc (3 : Int32) dX0_readyJam_29 rfl ?_
  refine r_icmp_ne hc 74 dX0_readyJam_30 (by decide) (fun c_4 => ?_) (fun c_4 => ?_)
  · have hf := o_neg c_4 hf
    exact r_vret hK (congrArg (fun z9 => (wD cy A z9)) (Option.some.inj hf)) dX0_readyJam_74
  · have hf := o_pos c_4 hf
    refine r_aload_n hc 2 dX0_readyJam_33 rfl ?_
    refine r_get (v := .ref ((sh A 5) 0)) hc iw_X0 0 rfl rfl 0 (by decide) mw_168 rfl dX0_readyJam_34 ?_
    refine r_iload_n hc 0 dX0_readyJam_37 rfl ?_
    obtain ⟨q38, hq38, hf⟩ := o_bind hf
    refine r_callVBi (ws' := (wD cy A d)) (As := [.int ((H_mate (D_house d)) (x1).toNatClampNeg)]) (rest := []) hc (c_X1_isRoom (sh A 5) (D_house d) ((H_mate (D_house d)) (x1).toNatClampNeg) q38 hq38) kv_X1_isRoom mw_487 0 rfl rfl [wDo cy A d, wH cy (sh A 5) (D_house d)] [wDo cy A d] [wH cy (sh A 5) (D_house d)] [wH cy (sh A 5) (D_house d)] [wDo cy A d, wH cy (sh A 5) (D_house d)] [0, 1] [0, 1] ⟨(by simp only [wD_eq, List.flatten_cons, List.flatten_nil, List.append_nil, List.append_assoc, List.cons_append, List.nil_append]), (by simp only [wD_eq, List.flatten_cons, List.flatten_nil, List.append_nil, List.append_assoc, List.cons_append, List.nil_append]), (by simp only [wD_eq, List.flatten_cons, List.flatten_nil, List.append_nil, List.append_assoc, List.cons_append, List.nil_append]), (by simp only [wD_eq, List.flatten_cons, List.flatten_nil, List.append_nil, List.append_assoc, List.cons_append, List.nil_append]), rfl, (show List.Perm [0, 1] (List.range 2) from by decide), rfl, (show List.Perm [0, 1] (List.range 2) from by decide)⟩ rfl rfl (Nat.le_of_ble_eq_true rfl) ⟨by decide, by decide⟩ dX0_readyJam_38 ?_
    refine r_if_eq hc 74 dX0_readyJam_41 (by decide) (fun c_5 => ?_) (fun c_5 => ?_)
    · have hf := o_pos c_5 hf
      exact r_vret hK (congrArg (fun z9 => (wD cy A z9)) (Option.some.inj hf)) dX0_readyJam_74
    · have hf := o_neg c_5 hf
      refine r_aload_n hc 2 dX0_readyJam_44 rfl ?_
      refine r_get (v := .ref (A 3)) hc iw_X0 0 rfl rfl 3 (by decide) mw_174 rfl dX0_readyJam_45 ?_
      refine r_iload_n hc 1 dX0_readyJam_48 rfl ?_
      refine r_bipush hc (6 : Int32) dX0_readyJam_49 rfl ?_
      refine r_imul hc dX0_readyJam_51 ?_
      refine r_iload_n hc 0 dX0_readyJam_52 rfl ?_
      refine r_iadd hc dX0_readyJam_53 ?_
      refine r_dup2_11 hc dX0_readyJam_54 rfl rfl ?_
      obtain ⟨i_6, hf⟩ := chk_some hf
      refine r_iald (f := (D_wide d)) hc 3 rfl i_6 dX0_readyJam_55 ?_
      refine r_iconst hc (1 : Int32) dX0_readyJam_56 rfl ?_
      refine r_isub hc dX0_readyJam_57 ?_
      obtain ⟨i_7, hf⟩ := chk_some hf
      obtain ⟨f58, ef58, hf⟩ := lt_some hf
      refine r_iast (f := (D_wide d)) hc 3 rfl i_7 dX0_readyJam_58 f58 ef58 (wD cy A (D_set_wide d f58)) rfl ?_
      refine r_aload_n hc 2 dX0_readyJam_59 rfl ?_
      refine r_get (v := .ref (A 3)) hc iw_X0 0 rfl rfl 3 (by decide) mw_174 rfl dX0_readyJam_60 ?_
      refine r_iload_n hc 0 dX0_readyJam_63 rfl ?_
      refine r_bipush hc (6 : Int32) dX0_readyJam_64 rfl ?_
      refine r_imul hc dX0_readyJam_66 ?_
      refine r_iload_n hc 1 dX0_readyJam_67 rfl ?_
      refine r_iadd hc dX0_readyJam_68 ?_
      refine r_dup2_11 hc dX0_readyJam_69 rfl rfl ?_
      obtain ⟨i_8, hf⟩ := chk_some hf
      refine r_iald (f := f58) hc 3 rfl i_8 dX0_readyJam_70 ?_
      refine r_iconst hc (1 : Int32) dX0_readyJam_71 rfl ?_
      refine r_isub hc dX0_readyJam_72 ?_
      obtain ⟨i_9, hf⟩ := chk_some hf
      obtain ⟨f73, ef73, hf⟩ := lt_some hf
      refine r_iast (f := f58) hc 3 rfl i_9 dX0_readyJam_73 f73 ef73 (wD cy A (D_set_wide d f73)) rfl ?_
      exact r_vret hK (congrArg (fun z9 => (wD cy A z9)) (Option.some.inj hf)) dX0_readyJam_74
def X0_ready_J84 (k39 : DS → Int32 → Option (DS)) (d : DS) (x1 : Int32) : Option (DS) :=
  (k39 d (x1 + (1 : Int32)))
def X0_ready_B39 (k39 : DS → Int32 → Option (DS)) (d : DS) (x1 : Int32) : Option (DS) :=
  (if (8 : Int32) ≤ x1 then (some (d)) else ((f_X1_isThere (D_house d) x1).bind fun q50 => (if q50 = 0 then (X0_ready_J84 k39 d x1) else (chk x1 8 (chk ((H_place (D_house d)) (x1).toNatClampNeg) 6 (chk ((H_place (D_house d)) (x1).toNatClampNeg) 6 (ltA (upd (D_crowd d) (((H_place (D_house d)) (x1).toNatClampNeg)).toNatClampNeg (((D_crowd d) (((H_place (D_house d)) (x1).toNatClampNeg)).toNatClampNeg) + (1 : Int32))) fun f73 => ((f_X0_readyTastes (D_set_crowd d f73) x1).bind fun q76 => ((f_X0_readyJam q76 x1).bind fun q81 => (X0_ready_J84 k39 q81 x1))))))))))
def f_X0_ready (d : DS) : Option (DS) :=
  (ltA (fillA 36 (0 : Int32) (D_gone d)) fun f5 => (ltA (fillA 6 (0 : Int32) (D_crowd d)) fun f13 => (ltA (va_cpy (H_width (D_house d)) (D_wide d) ((0 : Int32)).toNatClampNeg ((0 : Int32)).toNatClampNeg ((36 : Int32)).toNatClampNeg) fun f34 => (it X0_ready_B39 (fun _ _ => none) FU (D_set_wide (D_set_crowd (D_set_gone d f5) f13) f34) (0 : Int32)))))
theorem kv_X0_ready : KV RX0 yX0_ready cX0_ready 2 none 0 := ⟨mw_469, mw_470, mw_58, mw_471, by decide +kernel⟩
set_option maxHeartbeats 8000000 in
set_option maxRecDepth 100000 in
theorem c_X0_ready {l : Launch} {E : va_G} {cy : Nat → ClassId} (A : Nat → Nat) (d : DS) (q : DS) (hf : f_X0_ready d = some q) : Cv l yX0_ready cX0_ready 2 none 3 106 E cy [.ref (A 0)] (wD cy A d) (wD cy A q) := by
  refine Cv.of RX0 (by decide) rfl (Nat.le_of_ble_eq_true rfl) ?_
  intro K hK
  have hc := hK.cq
  have L39 : ∀ (n39 : Nat) (d : DS) (x1 : Int32), it X0_ready_B39 (fun _ _ => none) n39 d x1 = some q → V K (wD cy A d) 39 [(0, .ref (A 0)), (1, .int x1)] [] := by
    intro n39
    induction n39 with
    | zero => intro d x1 hf; exact (o_none hf).elim
    | succ n39 ih39 =>
      have J84 : ∀ (d : DS) (x1 : Int32), X0_ready_J84 (it X0_ready_B39 (fun _ _ => none) n39) d x1 = some q → V K (wD cy A d) 84 [(0, .ref (A 0)), (1, .int x1)] [] := by
        intro d x1 hf
        unfold X0_ready_J84 at hf
        refine r_iinc hc 1 [(1, .int (x1 + (1 : Int32))), (0, .ref (A 0))] (x1 + (1 : Int32)) dX0_ready_84 rfl rfl (by decide) rfl ?_
        refine r_goto hc 39 dX0_ready_87 (by decide) ?_
        exact V.sub [1, 0] rfl (ih39 d (x1 + (1 : Int32)) hf)
      intro d x1 hf
      replace hf : X0_ready_B39 (it X0_ready_B39 (fun _ _ => none) n39) d x1 = some q := hf
      unfold X0_ready_B39 at hf
      refine r_iload_n hc 1 dX0_ready_39 rfl ?_
      refine r_bipush hc (8 : Int32) dX0_ready_40 rfl ?_
      refine r_icmp_ge hc 90 dX0_ready_42 (by decide) (fun c_1 => ?_) (fun c_1 => ?_)
      · have hf := o_pos c_1 hf
        exact r_vret hK (congrArg (fun z9 => (wD cy A z9)) (Option.some.inj hf)) dX0_ready_90
      · have hf := o_neg c_1 hf
        refine r_aload_n hc 0 dX0_ready_45 rfl ?_
        refine r_get (v := .ref ((sh A 5) 0)) hc iw_X0 0 rfl rfl 0 (by decide) mw_168 rfl dX0_ready_46 ?_
        refine r_iload_n hc 1 dX0_ready_49 rfl ?_
        obtain ⟨q50, hq50, hf⟩ := o_bind hf
        refine r_callVBi (ws' := (wD cy A d)) (As := [.int x1]) (rest := []) hc (c_X1_isThere (sh A 5) (D_house d) x1 q50 hq50) kv_X1_isThere mw_474 0 rfl rfl [wDo cy A d, wH cy (sh A 5) (D_house d)] [wDo cy A d] [wH cy (sh A 5) (D_house d)] [wH cy (sh A 5) (D_house d)] [wDo cy A d, wH cy (sh A 5) (D_house d)] [0, 1] [0, 1] ⟨(by simp only [wD_eq, List.flatten_cons, List.flatten_nil, List.append_nil, List.append_assoc, List.cons_append, List.nil_append]), (by simp only [wD_eq, List.flatten_cons, List.flatten_nil, List.append_nil, List.append_assoc, List.cons_append, List.nil_append]), (by simp only [wD_eq, List.flatten_cons, List.flatten_nil, List.append_nil, List.append_assoc, List.cons_append, List.nil_append]), (by simp only [wD_eq, List.flatten_cons, List.flatten_nil, List.append_nil, List.append_assoc, List.cons_append, List.nil_append]), rfl, (show List.Perm [0, 1] (List.range 2) from by decide), rfl, (show List.Perm [0, 1] (List.range 2) from by decide)⟩ rfl rfl (Nat.le_of_ble_eq_true rfl) ⟨by decide, by decide⟩ dX0_ready_50 ?_
        refine r_if_eq hc 84 dX0_ready_53 (by decide) (fun c_2 => ?_) (fun c_2 => ?_)
        · have hf := o_pos c_2 hf
          exact V.sub [0, 1] rfl (J84 d x1 hf)
        · have hf := o_neg c_2 hf
          refine r_aload_n hc 0 dX0_ready_56 rfl ?_
          refine r_get (v := .ref (A 2)) hc iw_X0 0 rfl rfl 2 (by decide) mw_173 rfl dX0_ready_57 ?_
          refine r_aload_n hc 0 dX0_ready_60 rfl ?_
          refine r_get (v := .ref ((sh A 5) 0)) hc iw_X0 0 rfl rfl 0 (by decide) mw_168 rfl dX0_ready_61 ?_
          refine r_get (v := .ref ((sh A 5) 3)) hc iw_X1 5 rfl rfl 5 (by decide) mw_101 rfl dX0_ready_64 ?_
          refine r_iload_n hc 1 dX0_ready_67 rfl ?_
          obtain ⟨i_3, hf⟩ := chk_some hf
          refine r_iald (f := (H_place (D_house d))) hc 8 rfl i_3 dX0_ready_68 ?_
          refine r_dup2_11 hc dX0_ready_69 rfl rfl ?_
          obtain ⟨i_4, hf⟩ := chk_some hf
          refine r_iald (f := (D_crowd d)) hc 2 rfl i_4 dX0_ready_70 ?_
          refine r_iconst hc (1 : Int32) dX0_ready_71 rfl ?_
          refine r_iadd hc dX0_ready_72 ?_
          obtain ⟨i_5, hf⟩ := chk_some hf
          obtain ⟨f73, ef73, hf⟩ := lt_some hf
          refine r_iast (f := (D_crowd d)) hc 2 rfl i_5 dX0_ready_73 f73 ef73 (wD cy A (D_set_crowd d f73)) rfl ?_
          refine r_aload_n hc 0 dX0_ready_74 rfl ?_
          refine r_iload_n hc 1 dX0_ready_75 rfl ?_
          obtain ⟨q76, hq76, hf⟩ := o_bind hf
          refine r_callVv (ws' := (wD cy A q76)) (As := [.int x1]) (rest := []) hc (c_X0_readyTastes A (D_set_crowd d f73) x1 q76 hq76) kv_X0_readyTastes mw_475 0 rfl rfl _ _ _ (Sp_all _ _) rfl rfl (Nat.le_of_ble_eq_true rfl) ⟨by decide, by decide⟩ dX0_ready_76 ?_
          refine r_aload_n hc 0 dX0_ready_79 rfl ?_
          refine r_iload_n hc 1 dX0_ready_80 rfl ?_
          obtain ⟨q81, hq81, hf⟩ := o_bind hf
          refine r_callVv (ws' := (wD cy A q81)) (As := [.int x1]) (rest := []) hc (c_X0_readyJam A q76 x1 q81 hq81) kv_X0_readyJam mw_483 0 rfl rfl _ _ _ (Sp_all _ _) rfl rfl (Nat.le_of_ble_eq_true rfl) ⟨by decide, by decide⟩ dX0_ready_81 ?_
          exact V.sub [0, 1] rfl (J84 q81 x1 hf)
  show V K (wD cy A d) 0 [(0, .ref (A 0))] []
  unfold f_X0_ready at hf
  refine r_aload_n hc 0 dX0_ready_0 rfl ?_
  refine r_get (v := .ref (A 4)) hc iw_X0 0 rfl rfl 4 (by decide) mw_175 rfl dX0_ready_1 ?_
  refine r_iconst hc (0 : Int32) dX0_ready_4 rfl ?_
  obtain ⟨f5, ef5, hf⟩ := lt_some hf
  refine r_callSv (ws' := (wD cy A (D_set_gone d f5))) (As := [.ref (A 4), .int (0 : Int32)]) (rest := []) hc (c_fillA (A 4) 36 (D_gone d) (0 : Int32) f5 ef5 (by decide)) ks_fillA mw_472 [4] [0, 1, 2, 3, 5, 6, 7, 8, 9, 10, 11, 12, 13, 14] [0, 1, 2, 3, 14, 4, 5, 6, 7, 8, 9, 10, 11, 12, 13] ⟨rfl, rfl, rfl, rfl, rfl, rfl, rfl⟩ rfl rfl (Nat.le_of_ble_eq_true rfl) ⟨by decide, by decide⟩ dX0_ready_5 ?_
  refine r_aload_n hc 0 dX0_ready_8 rfl ?_
  refine r_get (v := .ref (A 2)) hc iw_X0 0 rfl rfl 2 (by decide) mw_173 rfl dX0_ready_9 ?_
  refine r_iconst hc (0 : Int32) dX0_ready_12 rfl ?_
  obtain ⟨f13, ef13, hf⟩ := lt_some hf
  refine r_callSv (ws' := (wD cy A (D_set_crowd (D_set_gone d f5) f13))) (As := [.ref (A 2), .int (0 : Int32)]) (rest := []) hc (c_fillA (A 2) 6 (D_crowd d) (0 : Int32) f13 ef13 (by decide)) ks_fillA mw_472 [2] [0, 1, 3, 4, 5, 6, 7, 8, 9, 10, 11, 12, 13, 14] [0, 1, 14, 2, 3, 4, 5, 6, 7, 8, 9, 10, 11, 12, 13] ⟨rfl, rfl, rfl, rfl, rfl, rfl, rfl⟩ rfl rfl (Nat.le_of_ble_eq_true rfl) ⟨by decide, by decide⟩ dX0_ready_13 ?_
  refine r_aload_n hc 0 dX0_ready_16 rfl ?_
  refine r_get (v := .ref ((sh A 5) 0)) hc iw_X0 0 rfl rfl 0 (by decide) mw_168 rfl dX0_ready_17 ?_
  refine r_get (v := .ref ((sh A 5) 2)) hc iw_X1 5 rfl rfl 4 (by decide) mw_97 rfl dX0_ready_20 ?_
  refine r_iconst hc (0 : Int32) dX0_ready_23 rfl ?_
  refine r_aload_n hc 0 dX0_ready_24 rfl ?_
  refine r_get (v := .ref (A 3)) hc iw_X0 0 rfl rfl 3 (by decide) mw_174 rfl dX0_ready_25 ?_
  refine r_iconst hc (0 : Int32) dX0_ready_28 rfl ?_
  refine r_aload_n hc 0 dX0_ready_29 rfl ?_
  refine r_get (v := .ref (A 3)) hc iw_X0 0 rfl rfl 3 (by decide) mw_174 rfl dX0_ready_30 ?_
  refine r_alen hc 3 0 rfl rfl (36 : Int32) rfl dX0_ready_33 ?_
  obtain ⟨f34, ef34, hf⟩ := lt_some hf
  refine r_copyi (f := (H_width (D_house d))) (g := (D_wide d)) hc 7 3 rfl rfl (by decide) (by decide) (by decide) (by decide) (by decide) mw_473 mw_467 mw_466 mw_67 (by decide) (Nat.le_of_ble_eq_true rfl) dX0_ready_34 f34 ef34 (wD cy A (D_set_wide (D_set_crowd (D_set_gone d f5) f13) f34)) rfl ?_
  refine r_iconst hc (0 : Int32) dX0_ready_37 rfl ?_
  refine r_istore_n hc [(1, .int (0 : Int32)), (0, .ref (A 0))] dX0_ready_38 (by decide) rfl ?_
  exact V.sub [1, 0] rfl (L39 FU (D_set_wide (D_set_crowd (D_set_gone d f5) f13) f34) (0 : Int32) hf)
def f_X0_begin (d : DS) (h : HS) : Option (DS) :=
  ((f_X1_copy (D_house d) h).bind fun q5 => ((f_X0_ready (D_set_house d q5)).bind fun q9 => (some (q9))))
theorem kv_X0_begin : KV RX0 yX0_begin cX0_begin 2 none 1 := ⟨mw_458, mw_459, mw_58, mw_460, by decide +kernel⟩
set_option maxHeartbeats 8000000 in
set_option maxRecDepth 100000 in
theorem c_X0_begin {l : Launch} {E : va_G} {cy : Nat → ClassId} (A : Nat → Nat) (B1 : Nat → Nat) (d : DS) (h : HS) (q : DS) (hf : f_X0_begin d h = some q) : Cv l yX0_begin cX0_begin 2 none 4 127 E cy [.ref (A 0), .ref (B1 0)] (wD cy A d ++ wH cy B1 h) (wD cy A q ++ wH cy B1 h) := by
  refine Cv.of RX0 (by decide) rfl (Nat.le_of_ble_eq_true rfl) ?_
  intro K hK
  have hc := hK.cq
  show V K (wD cy A d ++ wH cy B1 h) 0 [(0, .ref (A 0)), (1, .ref (B1 0))] []
  unfold f_X0_begin at hf
  refine r_aload_n hc 0 dX0_begin_0 rfl ?_
  refine r_get (v := .ref ((sh A 5) 0)) hc iw_X0 0 rfl rfl 0 (by decide) mw_168 rfl dX0_begin_1 ?_
  refine r_aload_n hc 1 dX0_begin_4 rfl ?_
  obtain ⟨q5, hq5, hf⟩ := o_bind hf
  refine r_callVBv (ws' := (wD cy A (D_set_house d q5) ++ wH cy B1 h)) (As := [.ref (B1 0)]) (rest := []) hc (c_X1_copy (sh A 5) B1 (D_house d) h q5 hq5) kv_X1_copy mw_461 0 rfl rfl [wDo cy A d, wH cy (sh A 5) (D_house d), wH cy B1 h] [wDo cy A d] [wH cy (sh A 5) (D_house d), wH cy B1 h] [wH cy (sh A 5) q5, wH cy B1 h] [wDo cy A (D_set_house d q5), wH cy (sh A 5) (D_house (D_set_house d q5)), wH cy B1 h] [0, 1, 2] [0, 1, 2] ⟨(by simp only [wD_eq, List.flatten_cons, List.flatten_nil, List.append_nil, List.append_assoc, List.cons_append, List.nil_append]), (by simp only [wD_eq, List.flatten_cons, List.flatten_nil, List.append_nil, List.append_assoc, List.cons_append, List.nil_append]), (by simp only [wD_eq, List.flatten_cons, List.flatten_nil, List.append_nil, List.append_assoc, List.cons_append, List.nil_append]), (by simp only [wD_eq, List.flatten_cons, List.flatten_nil, List.append_nil, List.append_assoc, List.cons_append, List.nil_append]), rfl, (show List.Perm [0, 1, 2] (List.range 3) from by decide), rfl, (show List.Perm [0, 1, 2] (List.range 3) from by decide)⟩ rfl rfl (Nat.le_of_ble_eq_true rfl) ⟨by decide, by decide⟩ dX0_begin_5 ?_
  refine r_aload_n hc 0 dX0_begin_8 rfl ?_
  obtain ⟨q9, hq9, hf⟩ := o_bind hf
  refine r_callVBv (ws' := (wD cy A q9 ++ wH cy B1 h)) (As := []) (rest := []) hc (c_X0_ready A (D_set_house d q5) q9 hq9) kv_X0_ready mw_468 0 rfl rfl [wDo cy A (D_set_house d q5), wH cy (sh A 5) (D_house (D_set_house d q5)), wH cy B1 h] [wH cy B1 h] [wDo cy A (D_set_house d q5), wH cy (sh A 5) (D_house (D_set_house d q5))] [wDo cy A q9, wH cy (sh A 5) (D_house q9)] [wDo cy A q9, wH cy (sh A 5) (D_house q9), wH cy B1 h] [2, 0, 1] [1, 2, 0] ⟨(by simp only [wD_eq, List.flatten_cons, List.flatten_nil, List.append_nil, List.append_assoc, List.cons_append, List.nil_append]), (by simp only [wD_eq, List.flatten_cons, List.flatten_nil, List.append_nil, List.append_assoc, List.cons_append, List.nil_append]), (by simp only [wD_eq, List.flatten_cons, List.flatten_nil, List.append_nil, List.append_assoc, List.cons_append, List.nil_append]), (by simp only [wD_eq, List.flatten_cons, List.flatten_nil, List.append_nil, List.append_assoc, List.cons_append, List.nil_append]), rfl, (show List.Perm [2, 0, 1] (List.range 3) from by decide), rfl, (show List.Perm [1, 2, 0] (List.range 3) from by decide)⟩ rfl rfl (Nat.le_of_ble_eq_true rfl) ⟨by decide, by decide⟩ dX0_begin_9 ?_
  exact r_vret hK (congrArg (fun z9 => (wD cy A z9 ++ wH cy B1 h)) (Option.some.inj hf)) dX0_begin_12
def f_X0_unhinge (d : DS) (x1 : Int32) (x2 : Int32) : Option (DS) :=
  (chk ((x1 * (6 : Int32)) + x2) 36 (ltA (upd (D_wide d) (((x1 * (6 : Int32)) + x2)).toNatClampNeg (1000 : Int32)) fun f13 => (chk ((x2 * (6 : Int32)) + x1) 36 (ltA (upd f13 (((x2 * (6 : Int32)) + x1)).toNatClampNeg (1000 : Int32)) fun f27 => (some ((D_set_wide d f27)))))))
theorem kv_X0_unhinge : KV RX0 yX0_unhinge cX0_unhinge 3 none 2 := ⟨mw_674, mw_675, mw_58, mw_676, by decide +kernel⟩
set_option maxHeartbeats 8000000 in
set_option maxRecDepth 100000 in
theorem c_X0_unhinge {l : Launch} {E : va_G} {cy : Nat → ClassId} (A : Nat → Nat) (d : DS) (x1 : Int32) (x2 : Int32) (q : DS) (hf : f_X0_unhinge d x1 x2 = some q) : Cv l yX0_unhinge cX0_unhinge 3 none 1 60 E cy [.ref (A 0), .int x1, .int x2] (wD cy A d) (wD cy A q) := by
  refine Cv.of RX0 (by decide) rfl (Nat.le_of_ble_eq_true rfl) ?_
  intro K hK
  have hc := hK.cq
  show V K (wD cy A d) 0 [(0, .ref (A 0)), (1, .int x1), (2, .int x2)] []
  unfold f_X0_unhinge at hf
  refine r_aload_n hc 0 dX0_unhinge_0 rfl ?_
  refine r_get (v := .ref (A 3)) hc iw_X0 0 rfl rfl 3 (by decide) mw_174 rfl dX0_unhinge_1 ?_
  refine r_iload_n hc 1 dX0_unhinge_4 rfl ?_
  refine r_bipush hc (6 : Int32) dX0_unhinge_5 rfl ?_
  refine r_imul hc dX0_unhinge_7 ?_
  refine r_iload_n hc 2 dX0_unhinge_8 rfl ?_
  refine r_iadd hc dX0_unhinge_9 ?_
  refine r_sipush hc (1000 : Int32) dX0_unhinge_10 rfl ?_
  obtain ⟨i_1, hf⟩ := chk_some hf
  obtain ⟨f13, ef13, hf⟩ := lt_some hf
  refine r_iast (f := (D_wide d)) hc 3 rfl i_1 dX0_unhinge_13 f13 ef13 (wD cy A (D_set_wide d f13)) rfl ?_
  refine r_aload_n hc 0 dX0_unhinge_14 rfl ?_
  refine r_get (v := .ref (A 3)) hc iw_X0 0 rfl rfl 3 (by decide) mw_174 rfl dX0_unhinge_15 ?_
  refine r_iload_n hc 2 dX0_unhinge_18 rfl ?_
  refine r_bipush hc (6 : Int32) dX0_unhinge_19 rfl ?_
  refine r_imul hc dX0_unhinge_21 ?_
  refine r_iload_n hc 1 dX0_unhinge_22 rfl ?_
  refine r_iadd hc dX0_unhinge_23 ?_
  refine r_sipush hc (1000 : Int32) dX0_unhinge_24 rfl ?_
  obtain ⟨i_2, hf⟩ := chk_some hf
  obtain ⟨f27, ef27, hf⟩ := lt_some hf
  refine r_iast (f := f13) hc 3 rfl i_2 dX0_unhinge_27 f27 ef27 (wD cy A (D_set_wide d f27)) rfl ?_
  exact r_vret hK (congrArg (fun z9 => (wD cy A z9)) (Option.some.inj hf)) dX0_unhinge_28
def X0_target_J156 (k54 : DS → Int32 → Int32 → Int32 → Int32 → Int32 → Int32 → Option (Int32)) (d : DS) (x1 : Int32) (x2 : Int32) (x3 : Int32) (x4 : Int32) (x5 : Int32) (x6 : Int32) : Option (Int32) :=
  (k54 d x1 x2 x3 x4 x5 (x6 + (1 : Int32)))
def X0_target_B54 (k54 : DS → Int32 → Int32 → Int32 → Int32 → Int32 → Int32 → Option (Int32)) (d : DS) (x1 : Int32) (x2 : Int32) (x3 : Int32) (x4 : Int32) (x5 : Int32) (x6 : Int32) : Option (Int32) :=
  (if (H_rooms (D_house d)) ≤ x6 then (some (x4)) else (chk ((x2 * (6 : Int32)) + x6) 36 (chk ((x2 * (6 : Int32)) + x6) 36 (if ((D_wide d) (((x2 * (6 : Int32)) + x6)).toNatClampNeg) ≤ ((D_gone d) (((x2 * (6 : Int32)) + x6)).toNatClampNeg) then (X0_target_J156 k54 d x1 x2 x3 x4 x5 x6) else (chk x6 6 (chk ((x6 * (6 : Int32)) + (4 : Int32)) 36 (if ((H_measure (D_house d)) (((x6 * (6 : Int32)) + (4 : Int32))).toNatClampNeg) ≤ ((D_crowd d) (x6).toNatClampNeg) then (X0_target_J156 k54 d x1 x2 x3 x4 x5 x6) else (chk ((x1 * (6 : Int32)) + x6) 48 (chk x6 6 (if (((D_taste d) (((x1 * (6 : Int32)) + x6)).toNatClampNeg) + (x3 * ((D_crowd d) (x6).toNatClampNeg))) ≤ x5 then (X0_target_J156 k54 d x1 x2 x3 x4 x5 x6) else (X0_target_J156 k54 d x1 x2 x3 x6 (((D_taste d) (((x1 * (6 : Int32)) + x6)).toNatClampNeg) + (x3 * ((D_crowd d) (x6).toNatClampNeg))) x6)))))))))))
def f_X0_target (d : DS) (x1 : Int32) : Option (Int32) :=
  (chk x1 8 (chk ((x1 * (5 : Int32)) + (4 : Int32)) 40 (chk ((x1 * (6 : Int32)) + ((H_place (D_house d)) (x1).toNatClampNeg)) 48 (chk ((H_place (D_house d)) (x1).toNatClampNeg) 6 (it X0_target_B54 (fun _ _ _ _ _ _ _ => none) FU d x1 ((H_place (D_house d)) (x1).toNatClampNeg) ((H_likes (D_house d)) (((x1 * (5 : Int32)) + (4 : Int32))).toNatClampNeg) ((H_place (D_house d)) (x1).toNatClampNeg) (((D_taste d) (((x1 * (6 : Int32)) + ((H_place (D_house d)) (x1).toNatClampNeg))).toNatClampNeg) + (((H_likes (D_house d)) (((x1 * (5 : Int32)) + (4 : Int32))).toNatClampNeg) * (((D_crowd d) (((H_place (D_house d)) (x1).toNatClampNeg)).toNatClampNeg) - (1 : Int32)))) (0 : Int32))))))
theorem kv_X0_target : KV RX0 yX0_target cX0_target 9 (some .int) 1 := ⟨mw_503, mw_504, mw_58, mw_505, by decide +kernel⟩
set_option maxHeartbeats 8000000 in
set_option maxRecDepth 100000 in
theorem c_X0_target {l : Launch} {E : va_G} {cy : Nat → ClassId} (A : Nat → Nat) (d : DS) (x1 : Int32) (q : Int32) (hf : f_X0_target d x1 = some q) : Ci l yX0_target cX0_target 9 (some .int) 1 60 E cy [.ref (A 0), .int x1] (wD cy A d) q (wD cy A d) := by
  refine Ci.of RX0 (by decide) rfl (Nat.le_of_ble_eq_true rfl) ?_
  intro K hK
  have hc := hK.cq
  have L54 : ∀ (n54 : Nat) (x1 : Int32) (x2 : Int32) (x3 : Int32) (x4 : Int32) (x5 : Int32) (x6 : Int32), it X0_target_B54 (fun _ _ _ _ _ _ _ => none) n54 d x1 x2 x3 x4 x5 x6 = some q → V K (wD cy A d) 54 [(0, .ref (A 0)), (1, .int x1), (2, .int x2), (3, .int x3), (4, .int x4), (5, .int x5), (6, .int x6)] [] := by
    intro n54
    induction n54 with
    | zero => intro x1 x2 x3 x4 x5 x6 hf; exact (o_none hf).elim
    | succ n54 ih54 =>
      have J156 : ∀ (x1 : Int32) (x2 : Int32) (x3 : Int32) (x4 : Int32) (x5 : Int32) (x6 : Int32), X0_target_J156 (it X0_target_B54 (fun _ _ _ _ _ _ _ => none) n54) d x1 x2 x3 x4 x5 x6 = some q → V K (wD cy A d) 156 [(0, .ref (A 0)), (1, .int x1), (2, .int x2), (3, .int x3), (4, .int x4), (5, .int x5), (6, .int x6)] [] := by
        intro x1 x2 x3 x4 x5 x6 hf
        unfold X0_target_J156 at hf
        refine r_iinc hc 6 [(6, .int (x6 + (1 : Int32))), (0, .ref (A 0)), (1, .int x1), (2, .int x2), (3, .int x3), (4, .int x4), (5, .int x5)] (x6 + (1 : Int32)) dX0_target_156 rfl rfl (by decide) rfl ?_
        refine r_goto hc 54 dX0_target_159 (by decide) ?_
        exact V.sub [1, 2, 3, 4, 5, 6, 0] rfl (ih54 x1 x2 x3 x4 x5 (x6 + (1 : Int32)) hf)
      intro x1 x2 x3 x4 x5 x6 hf
      replace hf : X0_target_B54 (it X0_target_B54 (fun _ _ _ _ _ _ _ => none) n54) d x1 x2 x3 x4 x5 x6 = some q := hf
      unfold X0_target_B54 at hf
      refine r_iload hc 6 dX0_target_54 rfl ?_
      refine r_aload_n hc 0 dX0_target_56 rfl ?_
      refine r_get (v := .ref ((sh A 5) 0)) hc iw_X0 0 rfl rfl 0 (by decide) mw_168 rfl dX0_target_57 ?_
      refine r_get (v := .int (H_rooms (D_house d))) hc iw_X1 5 rfl rfl 0 (by decide) mw_88 rfl dX0_target_60 ?_
      refine r_icmp_ge hc 162 dX0_target_63 (by decide) (fun c_5 => ?_) (fun c_5 => ?_)
      · have hf := o_pos c_5 hf
        refine r_iload hc 4 dX0_target_162 rfl ?_
        exact r_iret hK (Option.some.inj hf) rfl dX0_target_164
      · have hf := o_neg c_5 hf
        refine r_iload_n hc 2 dX0_target_66 rfl ?_
        refine r_bipush hc (6 : Int32) dX0_target_67 rfl ?_
        refine r_imul hc dX0_target_69 ?_
        refine r_iload hc 6 dX0_target_70 rfl ?_
        refine r_iadd hc dX0_target_72 ?_
        refine r_istore hc [(7, .int ((x2 * (6 : Int32)) + x6)), (0, .ref (A 0)), (1, .int x1), (2, .int x2), (3, .int x3), (4, .int x4), (5, .int x5), (6, .int x6)] dX0_target_73 (by decide) rfl ?_
        refine r_aload_n hc 1 dX0_target_75 rfl ?_
        refine r_get (v := .ref (A 4)) hc iw_X0 0 rfl rfl 4 (by decide) mw_175 rfl dX0_target_76 ?_
        refine r_iload hc 0 dX0_target_79 rfl ?_
        obtain ⟨i_6, hf⟩ := chk_some hf
        refine r_iald (f := (D_gone d)) hc 4 rfl i_6 dX0_target_81 ?_
        refine r_aload_n hc 1 dX0_target_82 rfl ?_
        refine r_get (v := .ref (A 3)) hc iw_X0 0 rfl rfl 3 (by decide) mw_174 rfl dX0_target_83 ?_
        refine r_iload hc 0 dX0_target_86 rfl ?_
        obtain ⟨i_7, hf⟩ := chk_some hf
        refine r_iald (f := (D_wide d)) hc 3 rfl i_7 dX0_target_88 ?_
        refine r_icmp_ge hc 156 dX0_target_89 (by decide) (fun c_8 => ?_) (fun c_8 => ?_)
        · have hf := o_pos c_8 hf
          exact V.sub [1, 2, 3, 4, 5, 6, 7] rfl (J156 x1 x2 x3 x4 x5 x6 hf)
        · have hf := o_neg c_8 hf
          refine r_aload_n hc 1 dX0_target_92 rfl ?_
          refine r_get (v := .ref (A 2)) hc iw_X0 0 rfl rfl 2 (by decide) mw_173 rfl dX0_target_93 ?_
          refine r_iload hc 7 dX0_target_96 rfl ?_
          obtain ⟨i_9, hf⟩ := chk_some hf
          refine r_iald (f := (D_crowd d)) hc 2 rfl i_9 dX0_target_98 ?_
          refine r_aload_n hc 1 dX0_target_99 rfl ?_
          refine r_get (v := .ref ((sh A 5) 0)) hc iw_X0 0 rfl rfl 0 (by decide) mw_168 rfl dX0_target_100 ?_
          refine r_get (v := .ref ((sh A 5) 1)) hc iw_X1 5 rfl rfl 3 (by decide) mw_95 rfl dX0_target_103 ?_
          refine r_iload hc 7 dX0_target_106 rfl ?_
          refine r_bipush hc (6 : Int32) dX0_target_108 rfl ?_
          refine r_imul hc dX0_target_110 ?_
          refine r_iconst hc (4 : Int32) dX0_target_111 rfl ?_
          refine r_iadd hc dX0_target_112 ?_
          obtain ⟨i_10, hf⟩ := chk_some hf
          refine r_iald (f := (H_measure (D_house d))) hc 6 rfl i_10 dX0_target_113 ?_
          refine r_icmp_ge hc 156 dX0_target_114 (by decide) (fun c_11 => ?_) (fun c_11 => ?_)
          · have hf := o_pos c_11 hf
            exact V.sub [1, 2, 3, 4, 5, 6, 7] rfl (J156 x1 x2 x3 x4 x5 x6 hf)
          · have hf := o_neg c_11 hf
            refine r_aload_n hc 1 dX0_target_117 rfl ?_
            refine r_get (v := .ref (A 1)) hc iw_X0 0 rfl rfl 1 (by decide) mw_172 rfl dX0_target_118 ?_
            refine r_iload_n hc 2 dX0_target_121 rfl ?_
            refine r_bipush hc (6 : Int32) dX0_target_122 rfl ?_
            refine r_imul hc dX0_target_124 ?_
            refine r_iload hc 7 dX0_target_125 rfl ?_
            refine r_iadd hc dX0_target_127 ?_
            obtain ⟨i_12, hf⟩ := chk_some hf
            refine r_iald (f := (D_taste d)) hc 1 rfl i_12 dX0_target_128 ?_
            refine r_iload_n hc 4 dX0_target_129 rfl ?_
            refine r_aload_n hc 1 dX0_target_130 rfl ?_
            refine r_get (v := .ref (A 2)) hc iw_X0 0 rfl rfl 2 (by decide) mw_173 rfl dX0_target_131 ?_
            refine r_iload hc 7 dX0_target_134 rfl ?_
            obtain ⟨i_13, hf⟩ := chk_some hf
            refine r_iald (f := (D_crowd d)) hc 2 rfl i_13 dX0_target_136 ?_
            refine r_imul hc dX0_target_137 ?_
            refine r_iadd hc dX0_target_138 ?_
            refine r_istore hc [(8, .int (((D_taste d) (((x1 * (6 : Int32)) + x6)).toNatClampNeg) + (x3 * ((D_crowd d) (x6).toNatClampNeg)))), (7, .int ((x2 * (6 : Int32)) + x6)), (0, .ref (A 0)), (1, .int x1), (2, .int x2), (3, .int x3), (4, .int x4), (5, .int x5), (6, .int x6)] dX0_target_139 (by decide) rfl ?_
            refine r_iload hc 0 dX0_target_141 rfl ?_
            refine r_iload hc 7 dX0_target_143 rfl ?_
            refine r_icmp_le hc 156 dX0_target_145 (by decide) (fun c_14 => ?_) (fun c_14 => ?_)
            · have hf := o_pos c_14 hf
              exact V.sub [2, 3, 4, 5, 6, 7, 8] rfl (J156 x1 x2 x3 x4 x5 x6 hf)
            · have hf := o_neg c_14 hf
              refine r_iload hc 0 dX0_target_148 rfl ?_
              refine r_istore hc [(5, .int (((D_taste d) (((x1 * (6 : Int32)) + x6)).toNatClampNeg) + (x3 * ((D_crowd d) (x6).toNatClampNeg)))), (8, .int (((D_taste d) (((x1 * (6 : Int32)) + x6)).toNatClampNeg) + (x3 * ((D_crowd d) (x6).toNatClampNeg)))), (7, .int ((x2 * (6 : Int32)) + x6)), (0, .ref (A 0)), (1, .int x1), (2, .int x2), (3, .int x3), (4, .int x4), (6, .int x6)] dX0_target_150 (by decide) rfl ?_
              refine r_iload hc 8 dX0_target_152 rfl ?_
              refine r_istore hc [(4, .int x6), (5, .int (((D_taste d) (((x1 * (6 : Int32)) + x6)).toNatClampNeg) + (x3 * ((D_crowd d) (x6).toNatClampNeg)))), (8, .int (((D_taste d) (((x1 * (6 : Int32)) + x6)).toNatClampNeg) + (x3 * ((D_crowd d) (x6).toNatClampNeg)))), (7, .int ((x2 * (6 : Int32)) + x6)), (0, .ref (A 0)), (1, .int x1), (2, .int x2), (3, .int x3), (6, .int x6)] dX0_target_154 (by decide) rfl ?_
              exact V.sub [4, 5, 6, 7, 0, 1, 8] rfl (J156 x1 x2 x3 x6 (((D_taste d) (((x1 * (6 : Int32)) + x6)).toNatClampNeg) + (x3 * ((D_crowd d) (x6).toNatClampNeg))) x6 hf)
  show V K (wD cy A d) 0 [(0, .ref (A 0)), (1, .int x1)] []
  unfold f_X0_target at hf
  refine r_aload_n hc 0 dX0_target_0 rfl ?_
  refine r_get (v := .ref ((sh A 5) 0)) hc iw_X0 0 rfl rfl 0 (by decide) mw_168 rfl dX0_target_1 ?_
  refine r_get (v := .ref ((sh A 5) 3)) hc iw_X1 5 rfl rfl 5 (by decide) mw_101 rfl dX0_target_4 ?_
  refine r_iload_n hc 1 dX0_target_7 rfl ?_
  obtain ⟨i_1, hf⟩ := chk_some hf
  refine r_iald (f := (H_place (D_house d))) hc 8 rfl i_1 dX0_target_8 ?_
  refine r_istore_n hc [(2, .int ((H_place (D_house d)) (x1).toNatClampNeg)), (0, .ref (A 0)), (1, .int x1)] dX0_target_9 (by decide) rfl ?_
  refine r_aload_n hc 1 dX0_target_10 rfl ?_
  refine r_get (v := .ref ((sh A 5) 0)) hc iw_X0 0 rfl rfl 0 (by decide) mw_168 rfl dX0_target_11 ?_
  refine r_get (v := .ref ((sh A 5) 7)) hc iw_X1 5 rfl rfl 9 (by decide) mw_112 rfl dX0_target_14 ?_
  refine r_iload_n hc 2 dX0_target_17 rfl ?_
  refine r_iconst hc (5 : Int32) dX0_target_18 rfl ?_
  refine r_imul hc dX0_target_19 ?_
  refine r_iconst hc (4 : Int32) dX0_target_20 rfl ?_
  refine r_iadd hc dX0_target_21 ?_
  obtain ⟨i_2, hf⟩ := chk_some hf
  refine r_iald (f := (H_likes (D_house d))) hc 12 rfl i_2 dX0_target_22 ?_
  refine r_istore_n hc [(3, .int ((H_likes (D_house d)) (((x1 * (5 : Int32)) + (4 : Int32))).toNatClampNeg)), (2, .int ((H_place (D_house d)) (x1).toNatClampNeg)), (0, .ref (A 0)), (1, .int x1)] dX0_target_23 (by decide) rfl ?_
  refine r_iload_n hc 1 dX0_target_24 rfl ?_
  refine r_istore hc [(4, .int ((H_place (D_house d)) (x1).toNatClampNeg)), (3, .int ((H_likes (D_house d)) (((x1 * (5 : Int32)) + (4 : Int32))).toNatClampNeg)), (2, .int ((H_place (D_house d)) (x1).toNatClampNeg)), (0, .ref (A 0)), (1, .int x1)] dX0_target_25 (by decide) rfl ?_
  refine r_aload_n hc 3 dX0_target_27 rfl ?_
  refine r_get (v := .ref (A 1)) hc iw_X0 0 rfl rfl 1 (by decide) mw_172 rfl dX0_target_28 ?_
  refine r_iload_n hc 4 dX0_target_31 rfl ?_
  refine r_bipush hc (6 : Int32) dX0_target_32 rfl ?_
  refine r_imul hc dX0_target_34 ?_
  refine r_iload_n hc 2 dX0_target_35 rfl ?_
  refine r_iadd hc dX0_target_36 ?_
  obtain ⟨i_3, hf⟩ := chk_some hf
  refine r_iald (f := (D_taste d)) hc 1 rfl i_3 dX0_target_37 ?_
  refine r_iload_n hc 1 dX0_target_38 rfl ?_
  refine r_aload_n hc 3 dX0_target_39 rfl ?_
  refine r_get (v := .ref (A 2)) hc iw_X0 0 rfl rfl 2 (by decide) mw_173 rfl dX0_target_40 ?_
  refine r_iload_n hc 2 dX0_target_43 rfl ?_
  obtain ⟨i_4, hf⟩ := chk_some hf
  refine r_iald (f := (D_crowd d)) hc 2 rfl i_4 dX0_target_44 ?_
  refine r_iconst hc (1 : Int32) dX0_target_45 rfl ?_
  refine r_isub hc dX0_target_46 ?_
  refine r_imul hc dX0_target_47 ?_
  refine r_iadd hc dX0_target_48 ?_
  refine r_istore hc [(5, .int (((D_taste d) (((x1 * (6 : Int32)) + ((H_place (D_house d)) (x1).toNatClampNeg))).toNatClampNeg) + (((H_likes (D_house d)) (((x1 * (5 : Int32)) + (4 : Int32))).toNatClampNeg) * (((D_crowd d) (((H_place (D_house d)) (x1).toNatClampNeg)).toNatClampNeg) - (1 : Int32))))), (4, .int ((H_place (D_house d)) (x1).toNatClampNeg)), (3, .int ((H_likes (D_house d)) (((x1 * (5 : Int32)) + (4 : Int32))).toNatClampNeg)), (2, .int ((H_place (D_house d)) (x1).toNatClampNeg)), (0, .ref (A 0)), (1, .int x1)] dX0_target_49 (by decide) rfl ?_
  refine r_iconst hc (0 : Int32) dX0_target_51 rfl ?_
  refine r_istore hc [(6, .int (0 : Int32)), (5, .int (((D_taste d) (((x1 * (6 : Int32)) + ((H_place (D_house d)) (x1).toNatClampNeg))).toNatClampNeg) + (((H_likes (D_house d)) (((x1 * (5 : Int32)) + (4 : Int32))).toNatClampNeg) * (((D_crowd d) (((H_place (D_house d)) (x1).toNatClampNeg)).toNatClampNeg) - (1 : Int32))))), (4, .int ((H_place (D_house d)) (x1).toNatClampNeg)), (3, .int ((H_likes (D_house d)) (((x1 * (5 : Int32)) + (4 : Int32))).toNatClampNeg)), (2, .int ((H_place (D_house d)) (x1).toNatClampNeg)), (0, .ref (A 0)), (1, .int x1)] dX0_target_52 (by decide) rfl ?_
  exact V.sub [5, 6, 4, 3, 2, 1, 0] rfl (L54 FU x1 ((H_place (D_house d)) (x1).toNatClampNeg) ((H_likes (D_house d)) (((x1 * (5 : Int32)) + (4 : Int32))).toNatClampNeg) ((H_place (D_house d)) (x1).toNatClampNeg) (((D_taste d) (((x1 * (6 : Int32)) + ((H_place (D_house d)) (x1).toNatClampNeg))).toNatClampNeg) + (((H_likes (D_house d)) (((x1 * (5 : Int32)) + (4 : Int32))).toNatClampNeg) * (((D_crowd d) (((H_place (D_house d)) (x1).toNatClampNeg)).toNatClampNeg) - (1 : Int32)))) (0 : Int32) hf)
def f_X0_moves (d : DS) (x1 : Int32) : Option (Int32 × DS) :=
  (chk x1 8 ((f_X0_target d x1).bind fun q12 => (if q12 = ((H_place (D_house d)) (x1).toNatClampNeg) then (some ((0 : Int32), d)) else (chk ((((H_place (D_house d)) (x1).toNatClampNeg) * (6 : Int32)) + q12) 36 (chk ((((H_place (D_house d)) (x1).toNatClampNeg) * (6 : Int32)) + q12) 36 (ltA (upd (D_gone d) (((((H_place (D_house d)) (x1).toNatClampNeg) * (6 : Int32)) + q12)).toNatClampNeg (((D_gone d) (((((H_place (D_house d)) (x1).toNatClampNeg) * (6 : Int32)) + q12)).toNatClampNeg) + (1 : Int32))) fun f37 => (chk ((q12 * (6 : Int32)) + ((H_place (D_house d)) (x1).toNatClampNeg)) 36 (chk ((q12 * (6 : Int32)) + ((H_place (D_house d)) (x1).toNatClampNeg)) 36 (ltA (upd f37 (((q12 * (6 : Int32)) + ((H_place (D_house d)) (x1).toNatClampNeg))).toNatClampNeg ((f37 (((q12 * (6 : Int32)) + ((H_place (D_house d)) (x1).toNatClampNeg))).toNatClampNeg) + (1 : Int32))) fun f52 => (chk ((H_place (D_house d)) (x1).toNatClampNeg) 6 (chk ((H_place (D_house d)) (x1).toNatClampNeg) 6 (ltA (upd (D_crowd d) (((H_place (D_house d)) (x1).toNatClampNeg)).toNatClampNeg (((D_crowd d) (((H_place (D_house d)) (x1).toNatClampNeg)).toNatClampNeg) - (1 : Int32))) fun f62 => (chk q12 6 (chk q12 6 (ltA (upd f62 (q12).toNatClampNeg ((f62 (q12).toNatClampNeg) + (1 : Int32))) fun f72 => (chk x1 8 (ltA (upd (H_place (D_house d)) (x1).toNatClampNeg q12) fun f82 => (some ((1 : Int32), (D_set_house (D_set_crowd (D_set_gone d f52) f72) (H_set_place (D_house d) f82)))))))))))))))))))))
theorem kv_X0_moves : KV RX0 yX0_moves cX0_moves 4 (some .boolean) 1 := ⟨mw_500, mw_4, mw_58, mw_501, by decide +kernel⟩
set_option maxHeartbeats 8000000 in
set_option maxRecDepth 100000 in
theorem c_X0_moves {l : Launch} {E : va_G} {cy : Nat → ClassId} (A : Nat → Nat) (d : DS) (x1 : Int32) (q : Int32 × DS) (hf : f_X0_moves d x1 = some q) : Ci l yX0_moves cX0_moves 4 (some .boolean) 2 88 E cy [.ref (A 0), .int x1] (wD cy A d) q.1 (wD cy A q.2) := by
  refine Ci.of RX0 (by decide) rfl (Nat.le_of_ble_eq_true rfl) ?_
  intro K hK
  have hc := hK.cq
  show V K (wD cy A d) 0 [(0, .ref (A 0)), (1, .int x1)] []
  unfold f_X0_moves at hf
  refine r_aload_n hc 0 dX0_moves_0 rfl ?_
  refine r_get (v := .ref ((sh A 5) 0)) hc iw_X0 0 rfl rfl 0 (by decide) mw_168 rfl dX0_moves_1 ?_
  refine r_get (v := .ref ((sh A 5) 3)) hc iw_X1 5 rfl rfl 5 (by decide) mw_101 rfl dX0_moves_4 ?_
  refine r_iload_n hc 1 dX0_moves_7 rfl ?_
  obtain ⟨i_1, hf⟩ := chk_some hf
  refine r_iald (f := (H_place (D_house d))) hc 8 rfl i_1 dX0_moves_8 ?_
  refine r_istore_n hc [(2, .int ((H_place (D_house d)) (x1).toNatClampNeg)), (0, .ref (A 0)), (1, .int x1)] dX0_moves_9 (by decide) rfl ?_
  refine r_aload_n hc 1 dX0_moves_10 rfl ?_
  refine r_iload_n hc 2 dX0_moves_11 rfl ?_
  obtain ⟨q12, hq12, hf⟩ := o_bind hf
  refine r_callVi (ws' := (wD cy A d)) (As := [.int x1]) (rest := []) hc (c_X0_target A d x1 q12 hq12) kv_X0_target mw_502 0 rfl rfl _ _ _ (Sp_all _ _) rfl rfl (Nat.le_of_ble_eq_true rfl) ⟨by decide, by decide⟩ dX0_moves_12 ?_
  refine r_istore_n hc [(3, .int q12), (2, .int ((H_place (D_house d)) (x1).toNatClampNeg)), (0, .ref (A 0)), (1, .int x1)] dX0_moves_15 (by decide) rfl ?_
  refine r_iload_n hc 0 dX0_moves_16 rfl ?_
  refine r_iload_n hc 1 dX0_moves_17 rfl ?_
  refine r_icmp_ne hc 23 dX0_moves_18 (by decide) (fun c_2 => ?_) (fun c_2 => ?_)
  · have hf := o_neg c_2 hf
    refine r_aload_n hc 2 dX0_moves_23 rfl ?_
    refine r_get (v := .ref (A 4)) hc iw_X0 0 rfl rfl 4 (by decide) mw_175 rfl dX0_moves_24 ?_
    refine r_iload_n hc 1 dX0_moves_27 rfl ?_
    refine r_bipush hc (6 : Int32) dX0_moves_28 rfl ?_
    refine r_imul hc dX0_moves_30 ?_
    refine r_iload_n hc 0 dX0_moves_31 rfl ?_
    refine r_iadd hc dX0_moves_32 ?_
    refine r_dup2_11 hc dX0_moves_33 rfl rfl ?_
    obtain ⟨i_3, hf⟩ := chk_some hf
    refine r_iald (f := (D_gone d)) hc 4 rfl i_3 dX0_moves_34 ?_
    refine r_iconst hc (1 : Int32) dX0_moves_35 rfl ?_
    refine r_iadd hc dX0_moves_36 ?_
    obtain ⟨i_4, hf⟩ := chk_some hf
    obtain ⟨f37, ef37, hf⟩ := lt_some hf
    refine r_iast (f := (D_gone d)) hc 4 rfl i_4 dX0_moves_37 f37 ef37 (wD cy A (D_set_gone d f37)) rfl ?_
    refine r_aload_n hc 2 dX0_moves_38 rfl ?_
    refine r_get (v := .ref (A 4)) hc iw_X0 0 rfl rfl 4 (by decide) mw_175 rfl dX0_moves_39 ?_
    refine r_iload_n hc 0 dX0_moves_42 rfl ?_
    refine r_bipush hc (6 : Int32) dX0_moves_43 rfl ?_
    refine r_imul hc dX0_moves_45 ?_
    refine r_iload_n hc 1 dX0_moves_46 rfl ?_
    refine r_iadd hc dX0_moves_47 ?_
    refine r_dup2_11 hc dX0_moves_48 rfl rfl ?_
    obtain ⟨i_5, hf⟩ := chk_some hf
    refine r_iald (f := f37) hc 4 rfl i_5 dX0_moves_49 ?_
    refine r_iconst hc (1 : Int32) dX0_moves_50 rfl ?_
    refine r_iadd hc dX0_moves_51 ?_
    obtain ⟨i_6, hf⟩ := chk_some hf
    obtain ⟨f52, ef52, hf⟩ := lt_some hf
    refine r_iast (f := f37) hc 4 rfl i_6 dX0_moves_52 f52 ef52 (wD cy A (D_set_gone d f52)) rfl ?_
    refine r_aload_n hc 2 dX0_moves_53 rfl ?_
    refine r_get (v := .ref (A 2)) hc iw_X0 0 rfl rfl 2 (by decide) mw_173 rfl dX0_moves_54 ?_
    refine r_iload_n hc 1 dX0_moves_57 rfl ?_
    refine r_dup2_11 hc dX0_moves_58 rfl rfl ?_
    obtain ⟨i_7, hf⟩ := chk_some hf
    refine r_iald (f := (D_crowd d)) hc 2 rfl i_7 dX0_moves_59 ?_
    refine r_iconst hc (1 : Int32) dX0_moves_60 rfl ?_
    refine r_isub hc dX0_moves_61 ?_
    obtain ⟨i_8, hf⟩ := chk_some hf
    obtain ⟨f62, ef62, hf⟩ := lt_some hf
    refine r_iast (f := (D_crowd d)) hc 2 rfl i_8 dX0_moves_62 f62 ef62 (wD cy A (D_set_crowd (D_set_gone d f52) f62)) rfl ?_
    refine r_aload_n hc 2 dX0_moves_63 rfl ?_
    refine r_get (v := .ref (A 2)) hc iw_X0 0 rfl rfl 2 (by decide) mw_173 rfl dX0_moves_64 ?_
    refine r_iload_n hc 0 dX0_moves_67 rfl ?_
    refine r_dup2_11 hc dX0_moves_68 rfl rfl ?_
    obtain ⟨i_9, hf⟩ := chk_some hf
    refine r_iald (f := f62) hc 2 rfl i_9 dX0_moves_69 ?_
    refine r_iconst hc (1 : Int32) dX0_moves_70 rfl ?_
    refine r_iadd hc dX0_moves_71 ?_
    obtain ⟨i_10, hf⟩ := chk_some hf
    obtain ⟨f72, ef72, hf⟩ := lt_some hf
    refine r_iast (f := f62) hc 2 rfl i_10 dX0_moves_72 f72 ef72 (wD cy A (D_set_crowd (D_set_gone d f52) f72)) rfl ?_
    refine r_aload_n hc 2 dX0_moves_73 rfl ?_
    refine r_get (v := .ref ((sh A 5) 0)) hc iw_X0 0 rfl rfl 0 (by decide) mw_168 rfl dX0_moves_74 ?_
    refine r_get (v := .ref ((sh A 5) 3)) hc iw_X1 5 rfl rfl 5 (by decide) mw_101 rfl dX0_moves_77 ?_
    refine r_iload_n hc 3 dX0_moves_80 rfl ?_
    refine r_iload_n hc 0 dX0_moves_81 rfl ?_
    obtain ⟨i_11, hf⟩ := chk_some hf
    obtain ⟨f82, ef82, hf⟩ := lt_some hf
    refine r_iast (f := (H_place (D_house d))) hc 8 rfl i_11 dX0_moves_82 f82 ef82 (wD cy A (D_set_house (D_set_crowd (D_set_gone d f52) f72) (H_set_place (D_house d) f82))) rfl ?_
    refine r_iconst hc (1 : Int32) dX0_moves_83 rfl ?_
    exact r_zret hK rfl (congrArg (fun z9 => z9.1) (Option.some.inj hf)) (congrArg (fun z9 => (wD cy A z9.2)) (Option.some.inj hf)) dX0_moves_84
  · have hf := o_pos c_2 hf
    refine r_iconst hc (0 : Int32) dX0_moves_21 rfl ?_
    exact r_zret hK rfl (congrArg (fun z9 => z9.1) (Option.some.inj hf)) (congrArg (fun z9 => (wD cy A z9.2)) (Option.some.inj hf)) dX0_moves_22
def X0_minute_J52 (k12 : DS → Int32 → Int32 → Option (Int32 × DS)) (d : DS) (x1 : Int32) (x2 : Int32) : Option (Int32 × DS) :=
  (k12 d x1 (x2 + (1 : Int32)))
def X0_minute_B12 (k12 : DS → Int32 → Int32 → Option (Int32 × DS)) (d : DS) (x1 : Int32) (x2 : Int32) : Option (Int32 × DS) :=
  (if (8 : Int32) ≤ x2 then ((f_X1_talkOn (D_house d)).bind fun q62 => (some (x1, (D_set_house d q62)))) else ((f_X1_isThere (D_house d) x2).bind fun q23 => (if q23 = 0 then (X0_minute_J52 k12 d x1 x2) else (chk x2 8 (if ((H_busy (D_house d)) (x2).toNatClampNeg) = 0 then ((f_X0_moves d x2).bind fun q43 => (if q43.1 = 0 then (X0_minute_J52 k12 q43.2 x1 x2) else (X0_minute_J52 k12 q43.2 (x1 + (1 : Int32)) x2))) else (X0_minute_J52 k12 d x1 x2))))))
def f_X0_minute (d : DS) : Option (Int32 × DS) :=
  (ltA (fillA 36 (0 : Int32) (D_gone d)) fun f5 => (it X0_minute_B12 (fun _ _ _ => none) FU (D_set_gone d f5) (0 : Int32) (0 : Int32)))
theorem kv_X0_minute : KV RX0 yX0_minute cX0_minute 3 (some .int) 0 := ⟨mw_495, mw_496, mw_58, mw_497, by decide +kernel⟩
set_option maxHeartbeats 8000000 in
set_option maxRecDepth 100000 in
theorem c_X0_minute {l : Launch} {E : va_G} {cy : Nat → ClassId} (A : Nat → Nat) (d : DS) (q : Int32 × DS) (hf : f_X0_minute d = some q) : Ci l yX0_minute cX0_minute 3 (some .int) 3 111 E cy [.ref (A 0)] (wD cy A d) q.1 (wD cy A q.2) := by
  refine Ci.of RX0 (by decide) rfl (Nat.le_of_ble_eq_true rfl) ?_
  intro K hK
  have hc := hK.cq
  have L12 : ∀ (n12 : Nat) (d : DS) (x1 : Int32) (x2 : Int32), it X0_minute_B12 (fun _ _ _ => none) n12 d x1 x2 = some q → V K (wD cy A d) 12 [(0, .ref (A 0)), (1, .int x1), (2, .int x2)] [] := by
    intro n12
    induction n12 with
    | zero => intro d x1 x2 hf; exact (o_none hf).elim
    | succ n12 ih12 =>
      have J52 : ∀ (d : DS) (x1 : Int32) (x2 : Int32), X0_minute_J52 (it X0_minute_B12 (fun _ _ _ => none) n12) d x1 x2 = some q → V K (wD cy A d) 52 [(0, .ref (A 0)), (1, .int x1), (2, .int x2)] [] := by
        intro d x1 x2 hf
        unfold X0_minute_J52 at hf
        refine r_iinc hc 2 [(2, .int (x2 + (1 : Int32))), (0, .ref (A 0)), (1, .int x1)] (x2 + (1 : Int32)) dX0_minute_52 rfl rfl (by decide) rfl ?_
        refine r_goto hc 12 dX0_minute_55 (by decide) ?_
        exact V.sub [1, 2, 0] rfl (ih12 d x1 (x2 + (1 : Int32)) hf)
      intro d x1 x2 hf
      replace hf : X0_minute_B12 (it X0_minute_B12 (fun _ _ _ => none) n12) d x1 x2 = some q := hf
      unfold X0_minute_B12 at hf
      refine r_iload_n hc 2 dX0_minute_12 rfl ?_
      refine r_bipush hc (8 : Int32) dX0_minute_13 rfl ?_
      refine r_icmp_ge hc 58 dX0_minute_15 (by decide) (fun c_1 => ?_) (fun c_1 => ?_)
      · have hf := o_pos c_1 hf
        refine r_aload_n hc 0 dX0_minute_58 rfl ?_
        refine r_get (v := .ref ((sh A 5) 0)) hc iw_X0 0 rfl rfl 0 (by decide) mw_168 rfl dX0_minute_59 ?_
        obtain ⟨q62, hq62, hf⟩ := o_bind hf
        refine r_callVBv (ws' := (wD cy A (D_set_house d q62))) (As := []) (rest := []) hc (c_X1_talkOn (sh A 5) (D_house d) q62 hq62) kv_X1_talkOn mw_506 0 rfl rfl [wDo cy A d, wH cy (sh A 5) (D_house d)] [wDo cy A d] [wH cy (sh A 5) (D_house d)] [wH cy (sh A 5) q62] [wDo cy A (D_set_house d q62), wH cy (sh A 5) (D_house (D_set_house d q62))] [0, 1] [0, 1] ⟨(by simp only [wD_eq, List.flatten_cons, List.flatten_nil, List.append_nil, List.append_assoc, List.cons_append, List.nil_append]), (by simp only [wD_eq, List.flatten_cons, List.flatten_nil, List.append_nil, List.append_assoc, List.cons_append, List.nil_append]), (by simp only [wD_eq, List.flatten_cons, List.flatten_nil, List.append_nil, List.append_assoc, List.cons_append, List.nil_append]), (by simp only [wD_eq, List.flatten_cons, List.flatten_nil, List.append_nil, List.append_assoc, List.cons_append, List.nil_append]), rfl, (show List.Perm [0, 1] (List.range 2) from by decide), rfl, (show List.Perm [0, 1] (List.range 2) from by decide)⟩ rfl rfl (Nat.le_of_ble_eq_true rfl) ⟨by decide, by decide⟩ dX0_minute_62 ?_
        refine r_iload_n hc 1 dX0_minute_65 rfl ?_
        exact r_iret hK (congrArg (fun z9 => z9.1) (Option.some.inj hf)) (congrArg (fun z9 => (wD cy A z9.2)) (Option.some.inj hf)) dX0_minute_66
      · have hf := o_neg c_1 hf
        refine r_aload_n hc 0 dX0_minute_18 rfl ?_
        refine r_get (v := .ref ((sh A 5) 0)) hc iw_X0 0 rfl rfl 0 (by decide) mw_168 rfl dX0_minute_19 ?_
        refine r_iload_n hc 2 dX0_minute_22 rfl ?_
        obtain ⟨q23, hq23, hf⟩ := o_bind hf
        refine r_callVBi (ws' := (wD cy A d)) (As := [.int x2]) (rest := []) hc (c_X1_isThere (sh A 5) (D_house d) x2 q23 hq23) kv_X1_isThere mw_474 0 rfl rfl [wDo cy A d, wH cy (sh A 5) (D_house d)] [wDo cy A d] [wH cy (sh A 5) (D_house d)] [wH cy (sh A 5) (D_house d)] [wDo cy A d, wH cy (sh A 5) (D_house d)] [0, 1] [0, 1] ⟨(by simp only [wD_eq, List.flatten_cons, List.flatten_nil, List.append_nil, List.append_assoc, List.cons_append, List.nil_append]), (by simp only [wD_eq, List.flatten_cons, List.flatten_nil, List.append_nil, List.append_assoc, List.cons_append, List.nil_append]), (by simp only [wD_eq, List.flatten_cons, List.flatten_nil, List.append_nil, List.append_assoc, List.cons_append, List.nil_append]), (by simp only [wD_eq, List.flatten_cons, List.flatten_nil, List.append_nil, List.append_assoc, List.cons_append, List.nil_append]), rfl, (show List.Perm [0, 1] (List.range 2) from by decide), rfl, (show List.Perm [0, 1] (List.range 2) from by decide)⟩ rfl rfl (Nat.le_of_ble_eq_true rfl) ⟨by decide, by decide⟩ dX0_minute_23 ?_
        refine r_if_eq hc 52 dX0_minute_26 (by decide) (fun c_2 => ?_) (fun c_2 => ?_)
        · have hf := o_pos c_2 hf
          exact V.sub [0, 1, 2] rfl (J52 d x1 x2 hf)
        · have hf := o_neg c_2 hf
          refine r_aload_n hc 0 dX0_minute_29 rfl ?_
          refine r_get (v := .ref ((sh A 5) 0)) hc iw_X0 0 rfl rfl 0 (by decide) mw_168 rfl dX0_minute_30 ?_
          refine r_get (v := .ref ((sh A 5) 4)) hc iw_X1 5 rfl rfl 6 (by decide) mw_104 rfl dX0_minute_33 ?_
          refine r_iload_n hc 2 dX0_minute_36 rfl ?_
          obtain ⟨i_3, hf⟩ := chk_some hf
          refine r_iald (f := (H_busy (D_house d))) hc 9 rfl i_3 dX0_minute_37 ?_
          refine r_if_ne hc 52 dX0_minute_38 (by decide) (fun c_4 => ?_) (fun c_4 => ?_)
          · have hf := o_neg c_4 hf
            exact V.sub [0, 1, 2] rfl (J52 d x1 x2 hf)
          · have hf := o_pos c_4 hf
            refine r_aload_n hc 0 dX0_minute_41 rfl ?_
            refine r_iload_n hc 2 dX0_minute_42 rfl ?_
            obtain ⟨q43, hq43, hf⟩ := o_bind hf
            refine r_callVi (ws' := (wD cy A q43.2)) (As := [.int x2]) (rest := []) hc (c_X0_moves A d x2 q43 hq43) kv_X0_moves mw_498 0 rfl rfl _ _ _ (Sp_all _ _) rfl rfl (Nat.le_of_ble_eq_true rfl) ⟨by decide, by decide⟩ dX0_minute_43 ?_
            refine r_if_eq hc 52 dX0_minute_46 (by decide) (fun c_5 => ?_) (fun c_5 => ?_)
            · have hf := o_pos c_5 hf
              exact V.sub [0, 1, 2] rfl (J52 q43.2 x1 x2 hf)
            · have hf := o_neg c_5 hf
              refine r_iinc hc 1 [(1, .int (x1 + (1 : Int32))), (0, .ref (A 0)), (2, .int x2)] (x1 + (1 : Int32)) dX0_minute_49 rfl rfl (by decide) rfl ?_
              exact V.sub [1, 0, 2] rfl (J52 q43.2 (x1 + (1 : Int32)) x2 hf)
  show V K (wD cy A d) 0 [(0, .ref (A 0))] []
  unfold f_X0_minute at hf
  refine r_aload_n hc 0 dX0_minute_0 rfl ?_
  refine r_get (v := .ref (A 4)) hc iw_X0 0 rfl rfl 4 (by decide) mw_175 rfl dX0_minute_1 ?_
  refine r_iconst hc (0 : Int32) dX0_minute_4 rfl ?_
  obtain ⟨f5, ef5, hf⟩ := lt_some hf
  refine r_callSv (ws' := (wD cy A (D_set_gone d f5))) (As := [.ref (A 4), .int (0 : Int32)]) (rest := []) hc (c_fillA (A 4) 36 (D_gone d) (0 : Int32) f5 ef5 (by decide)) ks_fillA mw_472 [4] [0, 1, 2, 3, 5, 6, 7, 8, 9, 10, 11, 12, 13, 14] [0, 1, 2, 3, 14, 4, 5, 6, 7, 8, 9, 10, 11, 12, 13] ⟨rfl, rfl, rfl, rfl, rfl, rfl, rfl⟩ rfl rfl (Nat.le_of_ble_eq_true rfl) ⟨by decide, by decide⟩ dX0_minute_5 ?_
  refine r_iconst hc (0 : Int32) dX0_minute_8 rfl ?_
  refine r_istore_n hc [(1, .int (0 : Int32)), (0, .ref (A 0))] dX0_minute_9 (by decide) rfl ?_
  refine r_iconst hc (0 : Int32) dX0_minute_10 rfl ?_
  refine r_istore_n hc [(2, .int (0 : Int32)), (1, .int (0 : Int32)), (0, .ref (A 0))] dX0_minute_11 (by decide) rfl ?_
  exact V.sub [2, 1, 0] rfl (L12 FU (D_set_gone d f5) (0 : Int32) (0 : Int32) hf)
def f_X0_stillMinute (d : DS) : Option (Int32 × DS) :=
  ((f_X1_anyTalks (D_house d)).bind fun q4 => ((f_X0_minute d).bind fun q9 => (if q9.1 = 0 then (if q4 = 0 then (some ((1 : Int32), q9.2)) else (some ((0 : Int32), q9.2))) else (some ((0 : Int32), q9.2)))))
theorem kv_X0_stillMinute : KV RX0 yX0_stillMinute cX0_stillMinute 2 (some .boolean) 0 := ⟨mw_607, mw_608, mw_58, mw_609, by decide +kernel⟩
set_option maxHeartbeats 8000000 in
set_option maxRecDepth 100000 in
theorem c_X0_stillMinute {l : Launch} {E : va_G} {cy : Nat → ClassId} (A : Nat → Nat) (d : DS) (q : Int32 × DS) (hf : f_X0_stillMinute d = some q) : Ci l yX0_stillMinute cX0_stillMinute 2 (some .boolean) 4 133 E cy [.ref (A 0)] (wD cy A d) q.1 (wD cy A q.2) := by
  refine Ci.of RX0 (by decide) rfl (Nat.le_of_ble_eq_true rfl) ?_
  intro K hK
  have hc := hK.cq
  show V K (wD cy A d) 0 [(0, .ref (A 0))] []
  unfold f_X0_stillMinute at hf
  refine r_aload_n hc 0 dX0_stillMinute_0 rfl ?_
  refine r_get (v := .ref ((sh A 5) 0)) hc iw_X0 0 rfl rfl 0 (by decide) mw_168 rfl dX0_stillMinute_1 ?_
  obtain ⟨q4, hq4, hf⟩ := o_bind hf
  refine r_callVBi (ws' := (wD cy A d)) (As := []) (rest := []) hc (c_X1_anyTalks (sh A 5) (D_house d) q4 hq4) kv_X1_anyTalks mw_610 0 rfl rfl [wDo cy A d, wH cy (sh A 5) (D_house d)] [wDo cy A d] [wH cy (sh A 5) (D_house d)] [wH cy (sh A 5) (D_house d)] [wDo cy A d, wH cy (sh A 5) (D_house d)] [0, 1] [0, 1] ⟨(by simp only [wD_eq, List.flatten_cons, List.flatten_nil, List.append_nil, List.append_assoc, List.cons_append, List.nil_append]), (by simp only [wD_eq, List.flatten_cons, List.flatten_nil, List.append_nil, List.append_assoc, List.cons_append, List.nil_append]), (by simp only [wD_eq, List.flatten_cons, List.flatten_nil, List.append_nil, List.append_assoc, List.cons_append, List.nil_append]), (by simp only [wD_eq, List.flatten_cons, List.flatten_nil, List.append_nil, List.append_assoc, List.cons_append, List.nil_append]), rfl, (show List.Perm [0, 1] (List.range 2) from by decide), rfl, (show List.Perm [0, 1] (List.range 2) from by decide)⟩ rfl rfl (Nat.le_of_ble_eq_true rfl) ⟨by decide, by decide⟩ dX0_stillMinute_4 ?_
  refine r_istore_n hc [(1, .int q4), (0, .ref (A 0))] dX0_stillMinute_7 (by decide) rfl ?_
  refine r_aload_n hc 1 dX0_stillMinute_8 rfl ?_
  obtain ⟨q9, hq9, hf⟩ := o_bind hf
  refine r_callVi (ws' := (wD cy A q9.2)) (As := []) (rest := []) hc (c_X0_minute A d q9 hq9) kv_X0_minute mw_614 0 rfl rfl _ _ _ (Sp_all _ _) rfl rfl (Nat.le_of_ble_eq_true rfl) ⟨by decide, by decide⟩ dX0_stillMinute_9 ?_
  refine r_if_ne hc 23 dX0_stillMinute_12 (by decide) (fun c_1 => ?_) (fun c_1 => ?_)
  · have hf := o_neg c_1 hf
    refine r_iconst hc (0 : Int32) dX0_stillMinute_23 rfl ?_
    exact r_zret hK rfl (congrArg (fun z9 => z9.1) (Option.some.inj hf)) (congrArg (fun z9 => (wD cy A z9.2)) (Option.some.inj hf)) dX0_stillMinute_24
  · have hf := o_pos c_1 hf
    refine r_iload_n hc 0 dX0_stillMinute_15 rfl ?_
    refine r_if_ne hc 23 dX0_stillMinute_16 (by decide) (fun c_2 => ?_) (fun c_2 => ?_)
    · have hf := o_neg c_2 hf
      refine r_iconst hc (0 : Int32) dX0_stillMinute_23 rfl ?_
      exact r_zret hK rfl (congrArg (fun z9 => z9.1) (Option.some.inj hf)) (congrArg (fun z9 => (wD cy A z9.2)) (Option.some.inj hf)) dX0_stillMinute_24
    · have hf := o_pos c_2 hf
      refine r_iconst hc (1 : Int32) dX0_stillMinute_19 rfl ?_
      refine r_goto hc 24 dX0_stillMinute_20 (by decide) ?_
      exact r_zret hK rfl (congrArg (fun z9 => z9.1) (Option.some.inj hf)) (congrArg (fun z9 => (wD cy A z9.2)) (Option.some.inj hf)) dX0_stillMinute_24
def X0_run_B2 (k2 : DS → Int32 → Int32 → Option (DS)) (d : DS) (x1 : Int32) (x2 : Int32) : Option (DS) :=
  (if x1 ≤ x2 then (some (d)) else ((f_X0_stillMinute d).bind fun q8 => (if q8.1 = 0 then (k2 q8.2 x1 (x2 + (1 : Int32))) else (some (q8.2)))))
def f_X0_run (d : DS) (x1 : Int32) : Option (DS) :=
  (it X0_run_B2 (fun _ _ _ => none) FU d x1 (0 : Int32))
theorem kv_X0_run : KV RX0 yX0_run cX0_run 3 none 1 := ⟨mw_603, mw_604, mw_58, mw_605, by decide +kernel⟩
set_option maxHeartbeats 8000000 in
set_option maxRecDepth 100000 in
theorem c_X0_run {l : Launch} {E : va_G} {cy : Nat → ClassId} (A : Nat → Nat) (d : DS) (x1 : Int32) (q : DS) (hf : f_X0_run d x1 = some q) : Cv l yX0_run cX0_run 3 none 5 154 E cy [.ref (A 0), .int x1] (wD cy A d) (wD cy A q) := by
  refine Cv.of RX0 (by decide) rfl (Nat.le_of_ble_eq_true rfl) ?_
  intro K hK
  have hc := hK.cq
  have L2 : ∀ (n2 : Nat) (d : DS) (x1 : Int32) (x2 : Int32), it X0_run_B2 (fun _ _ _ => none) n2 d x1 x2 = some q → V K (wD cy A d) 2 [(0, .ref (A 0)), (1, .int x1), (2, .int x2)] [] := by
    intro n2
    induction n2 with
    | zero => intro d x1 x2 hf; exact (o_none hf).elim
    | succ n2 ih2 =>
      intro d x1 x2 hf
      replace hf : X0_run_B2 (it X0_run_B2 (fun _ _ _ => none) n2) d x1 x2 = some q := hf
      unfold X0_run_B2 at hf
      refine r_iload_n hc 2 dX0_run_2 rfl ?_
      refine r_iload_n hc 1 dX0_run_3 rfl ?_
      refine r_icmp_ge hc 21 dX0_run_4 (by decide) (fun c_1 => ?_) (fun c_1 => ?_)
      · have hf := o_pos c_1 hf
        exact r_vret hK (congrArg (fun z9 => (wD cy A z9)) (Option.some.inj hf)) dX0_run_21
      · have hf := o_neg c_1 hf
        refine r_aload_n hc 0 dX0_run_7 rfl ?_
        obtain ⟨q8, hq8, hf⟩ := o_bind hf
        refine r_callVi (ws' := (wD cy A q8.2)) (As := []) (rest := []) hc (c_X0_stillMinute A d q8 hq8) kv_X0_stillMinute mw_606 0 rfl rfl _ _ _ (Sp_all _ _) rfl rfl (Nat.le_of_ble_eq_true rfl) ⟨by decide, by decide⟩ dX0_run_8 ?_
        refine r_if_eq hc 15 dX0_run_11 (by decide) (fun c_2 => ?_) (fun c_2 => ?_)
        · have hf := o_pos c_2 hf
          refine r_iinc hc 2 [(2, .int (x2 + (1 : Int32))), (0, .ref (A 0)), (1, .int x1)] (x2 + (1 : Int32)) dX0_run_15 rfl rfl (by decide) rfl ?_
          refine r_goto hc 2 dX0_run_18 (by decide) ?_
          exact V.sub [1, 2, 0] rfl (ih2 q8.2 x1 (x2 + (1 : Int32)) hf)
        · have hf := o_neg c_2 hf
          exact r_vret hK (congrArg (fun z9 => (wD cy A z9)) (Option.some.inj hf)) dX0_run_14
  show V K (wD cy A d) 0 [(0, .ref (A 0)), (1, .int x1)] []
  unfold f_X0_run at hf
  refine r_iconst hc (0 : Int32) dX0_run_0 rfl ?_
  refine r_istore_n hc [(2, .int (0 : Int32)), (0, .ref (A 0)), (1, .int x1)] dX0_run_1 (by decide) rfl ?_
  exact V.sub [1, 2, 0] rfl (L2 FU d x1 (0 : Int32) hf)
def X0_fullest_B4 (k4 : DS → Int32 → Int32 → Option (Int32)) (d : DS) (x1 : Int32) (x2 : Int32) : Option (Int32) :=
  (if (H_rooms (D_house d)) ≤ x2 then (some (x1)) else (chk x2 6 (k4 d (if x1 < ((D_crowd d) (x2).toNatClampNeg) then ((D_crowd d) (x2).toNatClampNeg) else x1) (x2 + (1 : Int32)))))
def f_X0_fullest (d : DS) : Option (Int32) :=
  (it X0_fullest_B4 (fun _ _ _ => none) FU d (0 : Int32) (0 : Int32))
theorem kv_X0_fullest : KV RX0 yX0_fullest cX0_fullest 3 (some .int) 0 := ⟨mw_643, mw_644, mw_58, mw_645, by decide +kernel⟩
set_option maxHeartbeats 8000000 in
set_option maxRecDepth 100000 in
theorem c_X0_fullest {l : Launch} {E : va_G} {cy : Nat → ClassId} (A : Nat → Nat) (d : DS) (q : Int32) (hf : f_X0_fullest d = some q) : Ci l yX0_fullest cX0_fullest 3 (some .int) 1 60 E cy [.ref (A 0)] (wD cy A d) q (wD cy A d) := by
  refine Ci.of RX0 (by decide) rfl (Nat.le_of_ble_eq_true rfl) ?_
  intro K hK
  have hc := hK.cq
  have L4 : ∀ (n4 : Nat) (x1 : Int32) (x2 : Int32), it X0_fullest_B4 (fun _ _ _ => none) n4 d x1 x2 = some q → V K (wD cy A d) 4 [(0, .ref (A 0)), (1, .int x1), (2, .int x2)] [] := by
    intro n4
    induction n4 with
    | zero => intro x1 x2 hf; exact (o_none hf).elim
    | succ n4 ih4 =>
      intro x1 x2 hf
      replace hf : X0_fullest_B4 (it X0_fullest_B4 (fun _ _ _ => none) n4) d x1 x2 = some q := hf
      unfold X0_fullest_B4 at hf
      refine r_iload_n hc 2 dX0_fullest_4 rfl ?_
      refine r_aload_n hc 0 dX0_fullest_5 rfl ?_
      refine r_get (v := .ref ((sh A 5) 0)) hc iw_X0 0 rfl rfl 0 (by decide) mw_168 rfl dX0_fullest_6 ?_
      refine r_get (v := .int (H_rooms (D_house d))) hc iw_X1 5 rfl rfl 0 (by decide) mw_88 rfl dX0_fullest_9 ?_
      refine r_icmp_ge hc 32 dX0_fullest_12 (by decide) (fun c_1 => ?_) (fun c_1 => ?_)
      · have hf := o_pos c_1 hf
        refine r_iload_n hc 1 dX0_fullest_32 rfl ?_
        exact r_iret hK (Option.some.inj hf) rfl dX0_fullest_33
      · have hf := o_neg c_1 hf
        refine r_iload_n hc 1 dX0_fullest_15 rfl ?_
        refine r_aload_n hc 0 dX0_fullest_16 rfl ?_
        refine r_get (v := .ref (A 2)) hc iw_X0 0 rfl rfl 2 (by decide) mw_173 rfl dX0_fullest_17 ?_
        refine r_iload_n hc 2 dX0_fullest_20 rfl ?_
        obtain ⟨i_2, hf⟩ := chk_some hf
        refine r_iald (f := (D_crowd d)) hc 2 rfl i_2 dX0_fullest_21 ?_
        refine r_mmax hc mw_646 mw_647 mw_68 mw_648 (by decide) (Nat.le_of_ble_eq_true rfl) dX0_fullest_22 ?_
        refine r_istore_n hc [(1, .int (if x1 < ((D_crowd d) (x2).toNatClampNeg) then ((D_crowd d) (x2).toNatClampNeg) else x1)), (0, .ref (A 0)), (2, .int x2)] dX0_fullest_25 (by decide) rfl ?_
        refine r_iinc hc 2 [(2, .int (x2 + (1 : Int32))), (1, .int (if x1 < ((D_crowd d) (x2).toNatClampNeg) then ((D_crowd d) (x2).toNatClampNeg) else x1)), (0, .ref (A 0))] (x2 + (1 : Int32)) dX0_fullest_26 rfl rfl (by decide) rfl ?_
        refine r_goto hc 4 dX0_fullest_29 (by decide) ?_
        exact V.sub [2, 1, 0] rfl (ih4 (if x1 < ((D_crowd d) (x2).toNatClampNeg) then ((D_crowd d) (x2).toNatClampNeg) else x1) (x2 + (1 : Int32)) hf)
  show V K (wD cy A d) 0 [(0, .ref (A 0))] []
  unfold f_X0_fullest at hf
  refine r_iconst hc (0 : Int32) dX0_fullest_0 rfl ?_
  refine r_istore_n hc [(1, .int (0 : Int32)), (0, .ref (A 0))] dX0_fullest_1 (by decide) rfl ?_
  refine r_iconst hc (0 : Int32) dX0_fullest_2 rfl ?_
  refine r_istore_n hc [(2, .int (0 : Int32)), (1, .int (0 : Int32)), (0, .ref (A 0))] dX0_fullest_3 (by decide) rfl ?_
  exact V.sub [2, 1, 0] rfl (L4 FU (0 : Int32) (0 : Int32) hf)
