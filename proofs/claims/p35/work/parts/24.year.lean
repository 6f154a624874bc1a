def f_X7_meet (yr : US) (h : HS) (x1 : Int32) : Option (US × HS) :=
  (if (x1 - x1 / (8 : Int32) * (8 : Int32)) = ((x1 / (8 : Int32)) - (x1 / (8 : Int32)) / (8 : Int32) * (8 : Int32)) then (some (yr, h)) else ((f_X1_whyNotTalk h (x1 - x1 / (8 : Int32) * (8 : Int32)) ((x1 / (8 : Int32)) - (x1 / (8 : Int32)) / (8 : Int32) * (8 : Int32))).bind fun q24 => (if q24 = 0 then ((f_X1_talk h (x1 - x1 / (8 : Int32) * (8 : Int32)) ((x1 / (8 : Int32)) - (x1 / (8 : Int32)) / (8 : Int32) * (8 : Int32)) ((1 : Int32) + ((x1 / (64 : Int32)) - (x1 / (64 : Int32)) / (5 : Int32) * (5 : Int32)))).bind fun q42 => (some ((U_set_talks yr ((U_talks yr) + (1 : Int32))), q42))) else (some (yr, h)))))
theorem kv_X7_meet : KV RX7 yX7_meet cX7_meet 5 none 2 := ⟨mw_829, mw_21, mw_63, mw_830, by decide +kernel⟩
set_option maxHeartbeats 8000000 in
set_option maxRecDepth 100000 in
theorem c_X7_meet {l : Launch} {E : va_G} {cy : Nat → ClassId} (A : Nat → Nat) (B2 : Nat → Nat) (yr : US) (h : HS) (x1 : Int32) (q : US × HS) (hf : f_X7_meet yr h x1 = some q) : Cv l yX7_meet cX7_meet 5 none 3 107 E cy [.ref (A 0), .int x1, .ref (B2 0)] (wU cy A yr ++ wH cy B2 h) (wU cy A q.1 ++ wH cy B2 q.2) := by
  refine Cv.of RX7 (by decide) rfl (Nat.le_of_ble_eq_true rfl) ?_
  intro K hK
  have hc := hK.cq
  show V K (wU cy A yr ++ wH cy B2 h) 0 [(0, .ref (A 0)), (1, .int x1), (2, .ref (B2 0))] []
  unfold f_X7_meet at hf
  refine r_iload_n hc 1 dX7_meet_0 rfl ?_
  refine r_bipush hc (8 : Int32) dX7_meet_1 rfl ?_
  refine r_irem hc dX7_meet_3 (by decide) ?_
  refine r_istore_n hc [(3, .int (x1 - x1 / (8 : Int32) * (8 : Int32))), (0, .ref (A 0)), (1, .int x1), (2, .ref (B2 0))] dX7_meet_4 (by decide) rfl ?_
  refine r_iload_n hc 2 dX7_meet_5 rfl ?_
  refine r_bipush hc (8 : Int32) dX7_meet_6 rfl ?_
  refine r_idiv hc dX7_meet_8 (by decide) ?_
  refine r_bipush hc (8 : Int32) dX7_meet_9 rfl ?_
  refine r_irem hc dX7_meet_11 (by decide) ?_
  refine r_istore hc [(4, .int ((x1 / (8 : Int32)) - (x1 / (8 : Int32)) / (8 : Int32) * (8 : Int32))), (3, .int (x1 - x1 / (8 : Int32) * (8 : Int32))), (0, .ref (A 0)), (1, .int x1), (2, .ref (B2 0))] dX7_meet_12 (by decide) rfl ?_
  refine r_iload_n hc 1 dX7_meet_14 rfl ?_
  refine r_iload hc 0 dX7_meet_15 rfl ?_
  refine r_icmp_eq hc 55 dX7_meet_17 (by decide) (fun c_1 => ?_) (fun c_1 => ?_)
  · have hf := o_pos c_1 hf
    exact r_vret hK (congrArg (fun z9 => (wU cy A z9.1 ++ wH cy B2 z9.2)) (Option.some.inj hf)) dX7_meet_55
  · have hf := o_neg c_1 hf
    refine r_aload_n hc 4 dX7_meet_20 rfl ?_
    refine r_iload_n hc 1 dX7_meet_21 rfl ?_
    refine r_iload hc 0 dX7_meet_22 rfl ?_
    obtain ⟨q24, hq24, hf⟩ := o_bind hf
    refine r_callVi (ws' := (wU cy A yr ++ wH cy B2 h)) (As := [.int (x1 - x1 / (8 : Int32) * (8 : Int32)), .int ((x1 / (8 : Int32)) - (x1 / (8 : Int32)) / (8 : Int32) * (8 : Int32))]) (rest := []) hc (c_X1_whyNotTalk B2 h (x1 - x1 / (8 : Int32) * (8 : Int32)) ((x1 / (8 : Int32)) - (x1 / (8 : Int32)) / (8 : Int32) * (8 : Int32)) q24 hq24) kv_X1_whyNotTalk mw_831 0 rfl rfl [1, 2, 3, 4, 5, 6, 7, 8, 9, 10] [0] [0, 1, 2, 3, 4, 5, 6, 7, 8, 9, 10] ⟨rfl, rfl, rfl, rfl, rfl, rfl, rfl⟩ rfl rfl (Nat.le_of_ble_eq_true rfl) ⟨by decide, by decide⟩ dX7_meet_24 ?_
    refine r_if_ne hc 55 dX7_meet_27 (by decide) (fun c_2 => ?_) (fun c_2 => ?_)
    · have hf := o_neg c_2 hf
      exact r_vret hK (congrArg (fun z9 => (wU cy A z9.1 ++ wH cy B2 z9.2)) (Option.some.inj hf)) dX7_meet_55
    · have hf := o_pos c_2 hf
      refine r_aload_n hc 4 dX7_meet_30 rfl ?_
      refine r_iload_n hc 1 dX7_meet_31 rfl ?_
      refine r_iload hc 0 dX7_meet_32 rfl ?_
      refine r_iconst hc (1 : Int32) dX7_meet_34 rfl ?_
      refine r_iload_n hc 3 dX7_meet_35 rfl ?_
      refine r_bipush hc (64 : Int32) dX7_meet_36 rfl ?_
      refine r_idiv hc dX7_meet_38 (by decide) ?_
      refine r_iconst hc (5 : Int32) dX7_meet_39 rfl ?_
      refine r_irem hc dX7_meet_40 (by decide) ?_
      refine r_iadd hc dX7_meet_41 ?_
      obtain ⟨q42, hq42, hf⟩ := o_bind hf
      refine r_callVv (ws' := (wU cy A yr ++ wH cy B2 q42)) (As := [.int (x1 - x1 / (8 : Int32) * (8 : Int32)), .int ((x1 / (8 : Int32)) - (x1 / (8 : Int32)) / (8 : Int32) * (8 : Int32)), .int ((1 : Int32) + ((x1 / (64 : Int32)) - (x1 / (64 : Int32)) / (5 : Int32) * (5 : Int32)))]) (rest := []) hc (c_X1_talk B2 h (x1 - x1 / (8 : Int32) * (8 : Int32)) ((x1 / (8 : Int32)) - (x1 / (8 : Int32)) / (8 : Int32) * (8 : Int32)) ((1 : Int32) + ((x1 / (64 : Int32)) - (x1 / (64 : Int32)) / (5 : Int32) * (5 : Int32))) q42 hq42) kv_X1_talk mw_832 0 rfl rfl [1, 2, 3, 4, 5, 6, 7, 8, 9, 10] [0] [0, 1, 2, 3, 4, 5, 6, 7, 8, 9, 10] ⟨rfl, rfl, rfl, rfl, rfl, rfl, rfl⟩ rfl rfl (Nat.le_of_ble_eq_true rfl) ⟨by decide, by decide⟩ dX7_meet_42 ?_
      refine r_aload_n hc 2 dX7_meet_45 rfl ?_
      refine r_dup hc dX7_meet_46 rfl ?_
      refine r_get (v := .int (U_talks yr)) hc iw_X7 0 rfl rfl 1 (by decide) mw_281 rfl dX7_meet_47 ?_
      refine r_iconst hc (1 : Int32) dX7_meet_50 rfl ?_
      refine r_iadd hc dX7_meet_51 ?_
      refine r_put hc iw_X7 tyX7 tyX7_ok nmX7 0 rfl rfl 1 (by decide) mw_281 rfl rfl rfl (Nat.le_of_ble_eq_true rfl) dX7_meet_52 (wU cy A (U_set_talks yr ((U_talks yr) + (1 : Int32))) ++ wH cy B2 q42) rfl ?_
      exact r_vret hK (congrArg (fun z9 => (wU cy A z9.1 ++ wH cy B2 z9.2)) (Option.some.inj hf)) dX7_meet_55
def X7_pass_B16 (k16 : US → DS → Int32 → Int32 → Int32 → Option (US × DS)) (yr : US) (d : DS) (x2 : Int32) (x4 : Int32) (x5 : Int32) : Option (US × DS) :=
  (if x2 ≤ x5 then (some (yr, d)) else ((f_X7_meet yr (D_house d) ((((75 : Int32) * x4) + (74 : Int32)) - (((75 : Int32) * x4) + (74 : Int32)) / (65537 : Int32) * (65537 : Int32))).bind fun q42 => ((f_X0_minute (D_set_house d q42.2)).bind fun q51 => (k16 (U_set_went q42.1 ((U_went q42.1) + q51.1)) q51.2 x2 ((((75 : Int32) * x4) + (74 : Int32)) - (((75 : Int32) * x4) + (74 : Int32)) / (65537 : Int32) * (65537 : Int32)) (x5 + (1 : Int32))))))
def f_X7_pass (yr : US) (d : DS) (x1 : Int32) (x2 : Int32) : Option (US × DS) :=
  (it X7_pass_B16 (fun _ _ _ _ _ => none) FU (U_set_talks (U_set_went yr (0 : Int32)) (0 : Int32)) d x2 x1 (0 : Int32))
theorem kv_X7_pass : KV RX7 yX7_pass cX7_pass 6 none 3 := ⟨mw_823, mw_824, mw_63, mw_825, by decide +kernel⟩
set_option maxHeartbeats 8000000 in
set_option maxRecDepth 100000 in
theorem c_X7_pass {l : Launch} {E : va_G} {cy : Nat → ClassId} (A : Nat → Nat) (B3 : Nat → Nat) (yr : US) (d : DS) (x1 : Int32) (x2 : Int32) (q : US × DS) (hf : f_X7_pass yr d x1 x2 = some q) : Cv l yX7_pass cX7_pass 6 none 4 133 E cy [.ref (A 0), .int x1, .int x2, .ref (B3 0)] (wU cy A yr ++ wD cy B3 d) (wU cy A q.1 ++ wD cy B3 q.2) := by
  refine Cv.of RX7 (by decide) rfl (Nat.le_of_ble_eq_true rfl) ?_
  intro K hK
  have hc := hK.cq
  have L16 : ∀ (n16 : Nat) (yr : US) (d : DS) (x2 : Int32) (x4 : Int32) (x5 : Int32), it X7_pass_B16 (fun _ _ _ _ _ => none) n16 yr d x2 x4 x5 = some q → V K (wU cy A yr ++ wD cy B3 d) 16 [(0, .ref (A 0)), (2, .int x2), (3, .ref (B3 0)), (4, .int x4), (5, .int x5)] [] := by
    intro n16
    induction n16 with
    | zero => intro yr d x2 x4 x5 hf; exact (o_none hf).elim
    | succ n16 ih16 =>
      intro yr d x2 x4 x5 hf
      replace hf : X7_pass_B16 (it X7_pass_B16 (fun _ _ _ _ _ => none) n16) yr d x2 x4 x5 = some q := hf
      unfold X7_pass_B16 at hf
      refine r_iload hc 4 dX7_pass_16 rfl ?_
      refine r_iload_n hc 1 dX7_pass_18 rfl ?_
      refine r_icmp_ge hc 64 dX7_pass_19 (by decide) (fun c_1 => ?_) (fun c_1 => ?_)
      · have hf := o_pos c_1 hf
        exact r_vret hK (congrArg (fun z9 => (wU cy A z9.1 ++ wD cy B3 z9.2)) (Option.some.inj hf)) dX7_pass_64
      · have hf := o_neg c_1 hf
        refine r_bipush hc (75 : Int32) dX7_pass_22 rfl ?_
        refine r_iload hc 3 dX7_pass_24 rfl ?_
        refine r_imul hc dX7_pass_26 ?_
        refine r_bipush hc (74 : Int32) dX7_pass_27 rfl ?_
        refine r_iadd hc dX7_pass_29 ?_
        refine r_ldc (v := (65537 : Int32)) hc mw_826 dX7_pass_30 ?_
        refine r_irem hc dX7_pass_32 (by decide) ?_
        refine r_istore hc [(4, .int ((((75 : Int32) * x4) + (74 : Int32)) - (((75 : Int32) * x4) + (74 : Int32)) / (65537 : Int32) * (65537 : Int32))), (0, .ref (A 0)), (2, .int x2), (3, .ref (B3 0)), (5, .int x5)] dX7_pass_33 (by decide) rfl ?_
        refine r_aload_n hc 1 dX7_pass_35 rfl ?_
        refine r_iload hc 0 dX7_pass_36 rfl ?_
        refine r_aload_n hc 3 dX7_pass_38 rfl ?_
        refine r_get (v := .ref ((sh B3 5) 0)) hc iw_X0 1 rfl rfl 0 (by decide) mw_169 rfl dX7_pass_39 ?_
        obtain ⟨q42, hq42, hf⟩ := o_bind hf
        refine r_callVBv (ws' := (wU cy A q42.1 ++ wD cy B3 (D_set_house d q42.2))) (As := [.int ((((75 : Int32) * x4) + (74 : Int32)) - (((75 : Int32) * x4) + (74 : Int32)) / (65537 : Int32) * (65537 : Int32)), .ref ((sh B3 5) 0)]) (rest := []) hc (c_X7_meet A (sh B3 5) yr (D_house d) ((((75 : Int32) * x4) + (74 : Int32)) - (((75 : Int32) * x4) + (74 : Int32)) / (65537 : Int32) * (65537 : Int32)) q42 hq42) kv_X7_meet mw_827 0 rfl rfl [wU cy A yr, wDo cy B3 d, wH cy (sh B3 5) (D_house d)] [wDo cy B3 d] [wU cy A yr, wH cy (sh B3 5) (D_house d)] [wU cy A q42.1, wH cy (sh B3 5) q42.2] [wU cy A q42.1, wDo cy B3 (D_set_house d q42.2), wH cy (sh B3 5) (D_house (D_set_house d q42.2))] [1, 0, 2] [1, 0, 2] ⟨(by simp only [wD_eq, List.flatten_cons, List.flatten_nil, List.append_nil, List.append_assoc, List.cons_append, List.nil_append]), (by simp only [wD_eq, List.flatten_cons, List.flatten_nil, List.append_nil, List.append_assoc, List.cons_append, List.nil_append]), (by simp only [wD_eq, List.flatten_cons, List.flatten_nil, List.append_nil, List.append_assoc, List.cons_append, List.nil_append]), (by simp only [wD_eq, List.flatten_cons, List.flatten_nil, List.append_nil, List.append_assoc, List.cons_append, List.nil_append]), rfl, (show List.Perm [1, 0, 2] (List.range 3) from by decide), rfl, (show List.Perm [1, 0, 2] (List.range 3) from by decide)⟩ rfl rfl (Nat.le_of_ble_eq_true rfl) ⟨by decide, by decide⟩ dX7_pass_42 ?_
        refine r_aload_n hc 1 dX7_pass_45 rfl ?_
        refine r_dup hc dX7_pass_46 rfl ?_
        refine r_get (v := .int (U_went q42.1)) hc iw_X7 0 rfl rfl 0 (by decide) mw_279 rfl dX7_pass_47 ?_
        refine r_aload_n hc 3 dX7_pass_50 rfl ?_
        obtain ⟨q51, hq51, hf⟩ := o_bind hf
        refine r_callVBi (ws' := (wU cy A q42.1 ++ wD cy B3 q51.2)) (As := []) (rest := [.int (U_went q42.1), .ref (A 0)]) hc (c_X0_minute B3 (D_set_house d q42.2) q51 hq51) kv_X0_minute mw_833 0 rfl rfl [wU cy A q42.1, wDo cy B3 (D_set_house d q42.2), wH cy (sh B3 5) (D_house (D_set_house d q42.2))] [wU cy A q42.1] [wDo cy B3 (D_set_house d q42.2), wH cy (sh B3 5) (D_house (D_set_house d q42.2))] [wDo cy B3 q51.2, wH cy (sh B3 5) (D_house q51.2)] [wU cy A q42.1, wDo cy B3 q51.2, wH cy (sh B3 5) (D_house q51.2)] [0, 1, 2] [0, 1, 2] ⟨(by simp only [wD_eq, List.flatten_cons, List.flatten_nil, List.append_nil, List.append_assoc, List.cons_append, List.nil_append]), (by simp only [wD_eq, List.flatten_cons, List.flatten_nil, List.append_nil, List.append_assoc, List.cons_append, List.nil_append]), (by simp only [wD_eq, List.flatten_cons, List.flatten_nil, List.append_nil, List.append_assoc, List.cons_append, List.nil_append]), (by simp only [wD_eq, List.flatten_cons, List.flatten_nil, List.append_nil, List.append_assoc, List.cons_append, List.nil_append]), rfl, (show List.Perm [0, 1, 2] (List.range 3) from by decide), rfl, (show List.Perm [0, 1, 2] (List.range 3) from by decide)⟩ rfl rfl (Nat.le_of_ble_eq_true rfl) ⟨by decide, by decide⟩ dX7_pass_51 ?_
        refine r_iadd hc dX7_pass_54 ?_
        refine r_put hc iw_X7 tyX7 tyX7_ok nmX7 0 rfl rfl 0 (by decide) mw_279 rfl rfl rfl (Nat.le_of_ble_eq_true rfl) dX7_pass_55 (wU cy A (U_set_went q42.1 ((U_went q42.1) + q51.1)) ++ wD cy B3 q51.2) rfl ?_
        refine r_iinc hc 4 [(5, .int (x5 + (1 : Int32))), (4, .int ((((75 : Int32) * x4) + (74 : Int32)) - (((75 : Int32) * x4) + (74 : Int32)) / (65537 : Int32) * (65537 : Int32))), (0, .ref (A 0)), (2, .int x2), (3, .ref (B3 0))] (x5 + (1 : Int32)) dX7_pass_58 rfl rfl (by decide) rfl ?_
        refine r_goto hc 16 dX7_pass_61 (by decide) ?_
        exact V.sub [2, 3, 4, 1, 0] rfl (ih16 (U_set_went q42.1 ((U_went q42.1) + q51.1)) q51.2 x2 ((((75 : Int32) * x4) + (74 : Int32)) - (((75 : Int32) * x4) + (74 : Int32)) / (65537 : Int32) * (65537 : Int32)) (x5 + (1 : Int32)) hf)
  show V K (wU cy A yr ++ wD cy B3 d) 0 [(0, .ref (A 0)), (1, .int x1), (2, .int x2), (3, .ref (B3 0))] []
  unfold f_X7_pass at hf
  refine r_aload_n hc 0 dX7_pass_0 rfl ?_
  refine r_iconst hc (0 : Int32) dX7_pass_1 rfl ?_
  refine r_put hc iw_X7 tyX7 tyX7_ok nmX7 0 rfl rfl 0 (by decide) mw_279 rfl rfl rfl (Nat.le_of_ble_eq_true rfl) dX7_pass_2 (wU cy A (U_set_went yr (0 : Int32)) ++ wD cy B3 d) rfl ?_
  refine r_aload_n hc 0 dX7_pass_5 rfl ?_
  refine r_iconst hc (0 : Int32) dX7_pass_6 rfl ?_
  refine r_put hc iw_X7 tyX7 tyX7_ok nmX7 0 rfl rfl 1 (by decide) mw_281 rfl rfl rfl (Nat.le_of_ble_eq_true rfl) dX7_pass_7 (wU cy A (U_set_talks (U_set_went yr (0 : Int32)) (0 : Int32)) ++ wD cy B3 d) rfl ?_
  refine r_iload_n hc 1 dX7_pass_10 rfl ?_
  refine r_istore hc [(4, .int x1), (0, .ref (A 0)), (1, .int x1), (2, .int x2), (3, .ref (B3 0))] dX7_pass_11 (by decide) rfl ?_
  refine r_iconst hc (0 : Int32) dX7_pass_13 rfl ?_
  refine r_istore hc [(5, .int (0 : Int32)), (4, .int x1), (0, .ref (A 0)), (1, .int x1), (2, .int x2), (3, .ref (B3 0))] dX7_pass_14 (by decide) rfl ?_
  exact V.sub [2, 4, 5, 1, 0] rfl (L16 FU (U_set_talks (U_set_went yr (0 : Int32)) (0 : Int32)) d x2 x1 (0 : Int32) hf)
