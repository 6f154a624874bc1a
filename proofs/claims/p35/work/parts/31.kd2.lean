def f_X8_judge (hn : HS) (pd : PS) (dr : DS) (pl : YS) (x1 : Int32) : Option (Int32 × DS × YS) :=
  (if x1 < 0 then (some ((-2 : Int32), dr, pl)) else (if x1 ≤ (1 : Int32) then ((f_X2_flaw pd (H_rooms hn)).bind fun q23 => (if q23 = (-6 : Int32) then ((f_X3_perform pl pd hn dr).bind fun q50 => (if (Y_why q50.1) = 0 then (some ((-6 : Int32), q50.2, q50.1)) else (if x1 = 0 then (some ((Y_events q50.1), q50.2, q50.1)) else (some ((Y_why q50.1), q50.2, q50.1))))) else (some ((-5 : Int32), dr, pl)))) else (some ((-2 : Int32), dr, pl))))
theorem kv_X8_judge : KV RX8 yX8_judge cX8_judge 2 (some .int) 1 := ⟨mw_450, mw_451, mw_55, mw_452, by decide +kernel⟩
set_option maxHeartbeats 8000000 in
set_option maxRecDepth 100000 in
theorem c_X8_judge {l : Launch} {E : va_G} {cy : Nat → ClassId} (A : Nat → Nat) (hn : HS) (pd : PS) (dr : DS) (pl : YS) (x1 : Int32) (q : Int32 × DS × YS) (hf : f_X8_judge hn pd dr pl x1 = some q) : Ci l yX8_judge cX8_judge 2 (some .int) 6 183 E cy [.ref (A 0), .int x1] (kdo A :: (wH cy (sh A 10) hn ++ wP cy (sh A 40) pd ++ wD cy (sh A 50) dr ++ wY cy (sh A 70) pl)) q.1 (kdo A :: (wH cy (sh A 10) hn ++ wP cy (sh A 40) pd ++ wD cy (sh A 50) q.2.1 ++ wY cy (sh A 70) q.2.2)) := by
  refine Ci.of RX8 (by decide) rfl (Nat.le_of_ble_eq_true rfl) ?_
  intro K hK
  have hc := hK.cq
  show V K (kdo A :: (wH cy (sh A 10) hn ++ wP cy (sh A 40) pd ++ wD cy (sh A 50) dr ++ wY cy (sh A 70) pl)) 0 [(0, .ref (A 0)), (1, .int x1)] []
  unfold f_X8_judge at hf
  refine r_iload_n hc 1 dX8_judge_0 rfl ?_
  refine r_if_lt hc 9 dX8_judge_1 (by decide) (fun c_1 => ?_) (fun c_1 => ?_)
  · have hf := o_pos c_1 hf
    refine r_bipush hc (-2 : Int32) dX8_judge_9 rfl ?_
    exact r_iret hK (congrArg (fun z9 => z9.1) (Option.some.inj hf)) (congrArg (fun z9 => (kdo A :: (wH cy (sh A 10) hn ++ wP cy (sh A 40) pd ++ wD cy (sh A 50) z9.2.1 ++ wY cy (sh A 70) z9.2.2))) (Option.some.inj hf)) dX8_judge_11
  · have hf := o_neg c_1 hf
    refine r_iload_n hc 1 dX8_judge_4 rfl ?_
    refine r_iconst hc (1 : Int32) dX8_judge_5 rfl ?_
    refine r_icmp_le hc 12 dX8_judge_6 (by decide) (fun c_2 => ?_) (fun c_2 => ?_)
    · have hf := o_pos c_2 hf
      refine r_aload_n hc 0 dX8_judge_12 rfl ?_
      refine r_get (v := .ref ((sh A 40) 0)) hc iw_X8 0 rfl rfl 3 (by decide) mw_298 rfl dX8_judge_13 ?_
      refine r_aload_n hc 0 dX8_judge_16 rfl ?_
      refine r_get (v := .ref ((sh A 10) 0)) hc iw_X8 0 rfl rfl 0 (by decide) mw_295 rfl dX8_judge_17 ?_
      refine r_get (v := .int (H_rooms hn)) hc iw_X1 1 rfl rfl 0 (by decide) mw_86 rfl dX8_judge_20 ?_
      obtain ⟨q23, hq23, hf⟩ := o_bind hf
      refine r_callVBi (ws' := (kdo A :: (wH cy (sh A 10) hn ++ wP cy (sh A 40) pd ++ wD cy (sh A 50) dr ++ wY cy (sh A 70) pl))) (As := [.int (H_rooms hn)]) (rest := []) hc (c_X2_flaw (sh A 40) pd (H_rooms hn) q23 hq23) kv_X2_flaw mw_425 0 rfl rfl [[kdo A], wH cy (sh A 10) hn, wP cy (sh A 40) pd, wDo cy (sh A 50) dr, wH cy (sh (sh A 50) 5) (D_house dr), wY cy (sh A 70) pl] [[kdo A], wH cy (sh A 10) hn, wDo cy (sh A 50) dr, wH cy (sh (sh A 50) 5) (D_house dr), wY cy (sh A 70) pl] [wP cy (sh A 40) pd] [wP cy (sh A 40) pd] [[kdo A], wH cy (sh A 10) hn, wP cy (sh A 40) pd, wDo cy (sh A 50) dr, wH cy (sh (sh A 50) 5) (D_house dr), wY cy (sh A 70) pl] [0, 1, 3, 4, 5, 2] [0, 1, 5, 2, 3, 4] ⟨(by simp only [wD_eq, List.flatten_cons, List.flatten_nil, List.append_nil, List.append_assoc, List.cons_append, List.nil_append]), (by simp only [wD_eq, List.flatten_cons, List.flatten_nil, List.append_nil, List.append_assoc, List.cons_append, List.nil_append]), (by simp only [wD_eq, List.flatten_cons, List.flatten_nil, List.append_nil, List.append_assoc, List.cons_append, List.nil_append]), (by simp only [wD_eq, List.flatten_cons, List.flatten_nil, List.append_nil, List.append_assoc, List.cons_append, List.nil_append]), rfl, (show List.Perm [0, 1, 3, 4, 5, 2] (List.range 6) from by decide), rfl, (show List.Perm [0, 1, 5, 2, 3, 4] (List.range 6) from by decide)⟩ rfl rfl (Nat.le_of_ble_eq_true rfl) ⟨by decide, by decide⟩ dX8_judge_23 ?_
      refine r_bipush hc (-6 : Int32) dX8_judge_26 rfl ?_
      refine r_icmp_eq hc 34 dX8_judge_28 (by decide) (fun c_3 => ?_) (fun c_3 => ?_)
      · have hf := o_pos c_3 hf
        refine r_aload_n hc 0 dX8_judge_34 rfl ?_
        refine r_get (v := .ref ((sh A 70) 0)) hc iw_X8 0 rfl rfl 5 (by decide) mw_300 rfl dX8_judge_35 ?_
        refine r_aload_n hc 0 dX8_judge_38 rfl ?_
        refine r_get (v := .ref ((sh A 40) 0)) hc iw_X8 0 rfl rfl 3 (by decide) mw_298 rfl dX8_judge_39 ?_
        refine r_aload_n hc 0 dX8_judge_42 rfl ?_
        refine r_get (v := .ref ((sh A 10) 0)) hc iw_X8 0 rfl rfl 0 (by decide) mw_295 rfl dX8_judge_43 ?_
        refine r_aload_n hc 0 dX8_judge_46 rfl ?_
        refine r_get (v := .ref ((sh A 50) 0)) hc iw_X8 0 rfl rfl 4 (by decide) mw_299 rfl dX8_judge_47 ?_
        obtain ⟨q50, hq50, hf⟩ := o_bind hf
        refine r_callVBv (ws' := (kdo A :: (wH cy (sh A 10) hn ++ wP cy (sh A 40) pd ++ wD cy (sh A 50) q50.2 ++ wY cy (sh A 70) q50.1))) (As := [.ref ((sh A 40) 0), .ref ((sh A 10) 0), .ref ((sh A 50) 0)]) (rest := []) hc (c_X3_perform (sh A 70) (sh A 40) (sh A 10) (sh A 50) pl pd hn dr q50 hq50) kv_X3_perform mw_453 0 rfl rfl [[kdo A], wH cy (sh A 10) hn, wP cy (sh A 40) pd, wDo cy (sh A 50) dr, wH cy (sh (sh A 50) 5) (D_house dr), wY cy (sh A 70) pl] [[kdo A]] [wY cy (sh A 70) pl, wP cy (sh A 40) pd, wH cy (sh A 10) hn, wDo cy (sh A 50) dr, wH cy (sh (sh A 50) 5) (D_house dr)] [wY cy (sh A 70) q50.1, wP cy (sh A 40) pd, wH cy (sh A 10) hn, wDo cy (sh A 50) q50.2, wH cy (sh (sh A 50) 5) (D_house q50.2)] [[kdo A], wH cy (sh A 10) hn, wP cy (sh A 40) pd, wDo cy (sh A 50) q50.2, wH cy (sh (sh A 50) 5) (D_house q50.2), wY cy (sh A 70) q50.1] [0, 5, 2, 1, 3, 4] [0, 3, 2, 4, 5, 1] ⟨(by simp only [wD_eq, List.flatten_cons, List.flatten_nil, List.append_nil, List.append_assoc, List.cons_append, List.nil_append]), (by simp only [wD_eq, List.flatten_cons, List.flatten_nil, List.append_nil, List.append_assoc, List.cons_append, List.nil_append]), (by simp only [wD_eq, List.flatten_cons, List.flatten_nil, List.append_nil, List.append_assoc, List.cons_append, List.nil_append]), (by simp only [wD_eq, List.flatten_cons, List.flatten_nil, List.append_nil, List.append_assoc, List.cons_append, List.nil_append]), rfl, (show List.Perm [0, 5, 2, 1, 3, 4] (List.range 6) from by decide), rfl, (show List.Perm [0, 3, 2, 4, 5, 1] (List.range 6) from by decide)⟩ rfl rfl (Nat.le_of_ble_eq_true rfl) ⟨by decide, by decide⟩ dX8_judge_50 ?_
        refine r_aload_n hc 0 dX8_judge_53 rfl ?_
        refine r_get (v := .ref ((sh A 70) 0)) hc iw_X8 0 rfl rfl 5 (by decide) mw_300 rfl dX8_judge_54 ?_
        refine r_get (v := .int (Y_why q50.1)) hc iw_X3 28 rfl rfl 1 (by decide) mw_196 rfl dX8_judge_57 ?_
        refine r_if_ne hc 66 dX8_judge_60 (by decide) (fun c_4 => ?_) (fun c_4 => ?_)
        · have hf := o_neg c_4 hf
          refine r_iload_n hc 1 dX8_judge_66 rfl ?_
          refine r_if_ne hc 80 dX8_judge_67 (by decide) (fun c_5 => ?_) (fun c_5 => ?_)
          · have hf := o_neg c_5 hf
            refine r_aload_n hc 0 dX8_judge_80 rfl ?_
            refine r_get (v := .ref ((sh A 70) 0)) hc iw_X8 0 rfl rfl 5 (by decide) mw_300 rfl dX8_judge_81 ?_
            refine r_get (v := .int (Y_why q50.1)) hc iw_X3 28 rfl rfl 1 (by decide) mw_196 rfl dX8_judge_84 ?_
            exact r_iret hK (congrArg (fun z9 => z9.1) (Option.some.inj hf)) (congrArg (fun z9 => (kdo A :: (wH cy (sh A 10) hn ++ wP cy (sh A 40) pd ++ wD cy (sh A 50) z9.2.1 ++ wY cy (sh A 70) z9.2.2))) (Option.some.inj hf)) dX8_judge_87
          · have hf := o_pos c_5 hf
            refine r_aload_n hc 0 dX8_judge_70 rfl ?_
            refine r_get (v := .ref ((sh A 70) 0)) hc iw_X8 0 rfl rfl 5 (by decide) mw_300 rfl dX8_judge_71 ?_
            refine r_get (v := .int (Y_events q50.1)) hc iw_X3 28 rfl rfl 0 (by decide) mw_194 rfl dX8_judge_74 ?_
            refine r_goto hc 87 dX8_judge_77 (by decide) ?_
            exact r_iret hK (congrArg (fun z9 => z9.1) (Option.some.inj hf)) (congrArg (fun z9 => (kdo A :: (wH cy (sh A 10) hn ++ wP cy (sh A 40) pd ++ wD cy (sh A 50) z9.2.1 ++ wY cy (sh A 70) z9.2.2))) (Option.some.inj hf)) dX8_judge_87
        · have hf := o_pos c_4 hf
          refine r_bipush hc (-6 : Int32) dX8_judge_63 rfl ?_
          exact r_iret hK (congrArg (fun z9 => z9.1) (Option.some.inj hf)) (congrArg (fun z9 => (kdo A :: (wH cy (sh A 10) hn ++ wP cy (sh A 40) pd ++ wD cy (sh A 50) z9.2.1 ++ wY cy (sh A 70) z9.2.2))) (Option.some.inj hf)) dX8_judge_65
      · have hf := o_neg c_3 hf
        refine r_bipush hc (-5 : Int32) dX8_judge_31 rfl ?_
        exact r_iret hK (congrArg (fun z9 => z9.1) (Option.some.inj hf)) (congrArg (fun z9 => (kdo A :: (wH cy (sh A 10) hn ++ wP cy (sh A 40) pd ++ wD cy (sh A 50) z9.2.1 ++ wY cy (sh A 70) z9.2.2))) (Option.some.inj hf)) dX8_judge_33
    · have hf := o_neg c_2 hf
      refine r_bipush hc (-2 : Int32) dX8_judge_9 rfl ?_
      exact r_iret hK (congrArg (fun z9 => z9.1) (Option.some.inj hf)) (congrArg (fun z9 => (kdo A :: (wH cy (sh A 10) hn ++ wP cy (sh A 40) pd ++ wD cy (sh A 50) z9.2.1 ++ wY cy (sh A 70) z9.2.2))) (Option.some.inj hf)) dX8_judge_11
def f_X8_playsOut (hn : HS) (pd : PS) (dr : DS) (pl : YS) : Option (Int32 × DS × YS) :=
  ((f_X2_flaw pd (H_rooms hn)).bind fun q11 => (if q11 = (-6 : Int32) then ((f_X3_perform pl pd hn dr).bind fun q37 => (if (Y_why q37.1) = 0 then (some ((1 : Int32), q37.2, q37.1)) else (some ((0 : Int32), q37.2, q37.1)))) else (some ((0 : Int32), dr, pl))))
theorem kv_X8_playsOut : KV RX8 yX8_playsOut cX8_playsOut 1 (some .boolean) 0 := ⟨mw_567, mw_5, mw_55, mw_568, by decide +kernel⟩
set_option maxHeartbeats 8000000 in
set_option maxRecDepth 100000 in
theorem c_X8_playsOut {l : Launch} {E : va_G} {cy : Nat → ClassId} (A : Nat → Nat) (hn : HS) (pd : PS) (dr : DS) (pl : YS) (q : Int32 × DS × YS) (hf : f_X8_playsOut hn pd dr pl = some q) : Ci l yX8_playsOut cX8_playsOut 1 (some .boolean) 6 183 E cy [.ref (A 0)] (kdo A :: (wH cy (sh A 10) hn ++ wP cy (sh A 40) pd ++ wD cy (sh A 50) dr ++ wY cy (sh A 70) pl)) q.1 (kdo A :: (wH cy (sh A 10) hn ++ wP cy (sh A 40) pd ++ wD cy (sh A 50) q.2.1 ++ wY cy (sh A 70) q.2.2)) := by
  refine Ci.of RX8 (by decide) rfl (Nat.le_of_ble_eq_true rfl) ?_
  intro K hK
  have hc := hK.cq
  show V K (kdo A :: (wH cy (sh A 10) hn ++ wP cy (sh A 40) pd ++ wD cy (sh A 50) dr ++ wY cy (sh A 70) pl)) 0 [(0, .ref (A 0))] []
  unfold f_X8_playsOut at hf
  refine r_aload_n hc 0 dX8_playsOut_0 rfl ?_
  refine r_get (v := .ref ((sh A 40) 0)) hc iw_X8 0 rfl rfl 3 (by decide) mw_298 rfl dX8_playsOut_1 ?_
  refine r_aload_n hc 0 dX8_playsOut_4 rfl ?_
  refine r_get (v := .ref ((sh A 10) 0)) hc iw_X8 0 rfl rfl 0 (by decide) mw_295 rfl dX8_playsOut_5 ?_
  refine r_get (v := .int (H_rooms hn)) hc iw_X1 1 rfl rfl 0 (by decide) mw_86 rfl dX8_playsOut_8 ?_
  obtain ⟨q11, hq11, hf⟩ := o_bind hf
  refine r_callVBi (ws' := (kdo A :: (wH cy (sh A 10) hn ++ wP cy (sh A 40) pd ++ wD cy (sh A 50) dr ++ wY cy (sh A 70) pl))) (As := [.int (H_rooms hn)]) (rest := []) hc (c_X2_flaw (sh A 40) pd (H_rooms hn) q11 hq11) kv_X2_flaw mw_425 0 rfl rfl [[kdo A], wH cy (sh A 10) hn, wP cy (sh A 40) pd, wDo cy (sh A 50) dr, wH cy (sh (sh A 50) 5) (D_house dr), wY cy (sh A 70) pl] [[kdo A], wH cy (sh A 10) hn, wDo cy (sh A 50) dr, wH cy (sh (sh A 50) 5) (D_house dr), wY cy (sh A 70) pl] [wP cy (sh A 40) pd] [wP cy (sh A 40) pd] [[kdo A], wH cy (sh A 10) hn, wP cy (sh A 40) pd, wDo cy (sh A 50) dr, wH cy (sh (sh A 50) 5) (D_house dr), wY cy (sh A 70) pl] [0, 1, 3, 4, 5, 2] [0, 1, 5, 2, 3, 4] ⟨(by simp only [wD_eq, List.flatten_cons, List.flatten_nil, List.append_nil, List.append_assoc, List.cons_append, List.nil_append]), (by simp only [wD_eq, List.flatten_cons, List.flatten_nil, List.append_nil, List.append_assoc, List.cons_append, List.nil_append]), (by simp only [wD_eq, List.flatten_cons, List.flatten_nil, List.append_nil, List.append_assoc, List.cons_append, List.nil_append]), (by simp only [wD_eq, List.flatten_cons, List.flatten_nil, List.append_nil, List.append_assoc, List.cons_append, List.nil_append]), rfl, (show List.Perm [0, 1, 3, 4, 5, 2] (List.range 6) from by decide), rfl, (show List.Perm [0, 1, 5, 2, 3, 4] (List.range 6) from by decide)⟩ rfl rfl (Nat.le_of_ble_eq_true rfl) ⟨by decide, by decide⟩ dX8_playsOut_11 ?_
  refine r_bipush hc (-6 : Int32) dX8_playsOut_14 rfl ?_
  refine r_icmp_eq hc 21 dX8_playsOut_16 (by decide) (fun c_1 => ?_) (fun c_1 => ?_)
  · have hf := o_pos c_1 hf
    refine r_aload_n hc 0 dX8_playsOut_21 rfl ?_
    refine r_get (v := .ref ((sh A 70) 0)) hc iw_X8 0 rfl rfl 5 (by decide) mw_300 rfl dX8_playsOut_22 ?_
    refine r_aload_n hc 0 dX8_playsOut_25 rfl ?_
    refine r_get (v := .ref ((sh A 40) 0)) hc iw_X8 0 rfl rfl 3 (by decide) mw_298 rfl dX8_playsOut_26 ?_
    refine r_aload_n hc 0 dX8_playsOut_29 rfl ?_
    refine r_get (v := .ref ((sh A 10) 0)) hc iw_X8 0 rfl rfl 0 (by decide) mw_295 rfl dX8_playsOut_30 ?_
    refine r_aload_n hc 0 dX8_playsOut_33 rfl ?_
    refine r_get (v := .ref ((sh A 50) 0)) hc iw_X8 0 rfl rfl 4 (by decide) mw_299 rfl dX8_playsOut_34 ?_
    obtain ⟨q37, hq37, hf⟩ := o_bind hf
    refine r_callVBv (ws' := (kdo A :: (wH cy (sh A 10) hn ++ wP cy (sh A 40) pd ++ wD cy (sh A 50) q37.2 ++ wY cy (sh A 70) q37.1))) (As := [.ref ((sh A 40) 0), .ref ((sh A 10) 0), .ref ((sh A 50) 0)]) (rest := []) hc (c_X3_perform (sh A 70) (sh A 40) (sh A 10) (sh A 50) pl pd hn dr q37 hq37) kv_X3_perform mw_453 0 rfl rfl [[kdo A], wH cy (sh A 10) hn, wP cy (sh A 40) pd, wDo cy (sh A 50) dr, wH cy (sh (sh A 50) 5) (D_house dr), wY cy (sh A 70) pl] [[kdo A]] [wY cy (sh A 70) pl, wP cy (sh A 40) pd, wH cy (sh A 10) hn, wDo cy (sh A 50) dr, wH cy (sh (sh A 50) 5) (D_house dr)] [wY cy (sh A 70) q37.1, wP cy (sh A 40) pd, wH cy (sh A 10) hn, wDo cy (sh A 50) q37.2, wH cy (sh (sh A 50) 5) (D_house q37.2)] [[kdo A], wH cy (sh A 10) hn, wP cy (sh A 40) pd, wDo cy (sh A 50) q37.2, wH cy (sh (sh A 50) 5) (D_house q37.2), wY cy (sh A 70) q37.1] [0, 5, 2, 1, 3, 4] [0, 3, 2, 4, 5, 1] ⟨(by simp only [wD_eq, List.flatten_cons, List.flatten_nil, List.append_nil, List.append_assoc, List.cons_append, List.nil_append]), (by simp only [wD_eq, List.flatten_cons, List.flatten_nil, List.append_nil, List.append_assoc, List.cons_append, List.nil_append]), (by simp only [wD_eq, List.flatten_cons, List.flatten_nil, List.append_nil, List.append_assoc, List.cons_append, List.nil_append]), (by simp only [wD_eq, List.flatten_cons, List.flatten_nil, List.append_nil, List.append_assoc, List.cons_append, List.nil_append]), rfl, (show List.Perm [0, 5, 2, 1, 3, 4] (List.range 6) from by decide), rfl, (show List.Perm [0, 3, 2, 4, 5, 1] (List.range 6) from by decide)⟩ rfl rfl (Nat.le_of_ble_eq_true rfl) ⟨by decide, by decide⟩ dX8_playsOut_37 ?_
    refine r_aload_n hc 0 dX8_playsOut_40 rfl ?_
    refine r_get (v := .ref ((sh A 70) 0)) hc iw_X8 0 rfl rfl 5 (by decide) mw_300 rfl dX8_playsOut_41 ?_
    refine r_get (v := .int (Y_why q37.1)) hc iw_X3 28 rfl rfl 1 (by decide) mw_196 rfl dX8_playsOut_44 ?_
    refine r_if_ne hc 54 dX8_playsOut_47 (by decide) (fun c_2 => ?_) (fun c_2 => ?_)
    · have hf := o_neg c_2 hf
      refine r_iconst hc (0 : Int32) dX8_playsOut_54 rfl ?_
      exact r_zret hK rfl (congrArg (fun z9 => z9.1) (Option.some.inj hf)) (congrArg (fun z9 => (kdo A :: (wH cy (sh A 10) hn ++ wP cy (sh A 40) pd ++ wD cy (sh A 50) z9.2.1 ++ wY cy (sh A 70) z9.2.2))) (Option.some.inj hf)) dX8_playsOut_55
    · have hf := o_pos c_2 hf
      refine r_iconst hc (1 : Int32) dX8_playsOut_50 rfl ?_
      refine r_goto hc 55 dX8_playsOut_51 (by decide) ?_
      exact r_zret hK rfl (congrArg (fun z9 => z9.1) (Option.some.inj hf)) (congrArg (fun z9 => (kdo A :: (wH cy (sh A 10) hn ++ wP cy (sh A 40) pd ++ wD cy (sh A 50) z9.2.1 ++ wY cy (sh A 70) z9.2.2))) (Option.some.inj hf)) dX8_playsOut_55
  · have hf := o_neg c_1 hf
    refine r_iconst hc (0 : Int32) dX8_playsOut_19 rfl ?_
    exact r_zret hK rfl (congrArg (fun z9 => z9.1) (Option.some.inj hf)) (congrArg (fun z9 => (kdo A :: (wH cy (sh A 10) hn ++ wP cy (sh A 40) pd ++ wD cy (sh A 50) z9.2.1 ++ wY cy (sh A 70) z9.2.2))) (Option.some.inj hf)) dX8_playsOut_20
def f_X8_done (hn : HS) (pd : PS) (dr : DS) (pl : YS) : Option (Int32 × HS × PS × DS × YS) :=
  ((f_X8_playsOut hn pd dr pl).bind fun q1 => (if q1.1 = 0 then (some ((-5 : Int32), hn, pd, q1.2.1, q1.2.2)) else ((f_X1_copy hn (D_house q1.2.1)).bind fun q21 => (some ((Y_events q1.2.2), q21, (P_set_used pd (0 : Int32)), q1.2.1, q1.2.2)))))
theorem kv_X8_done : KV RX8 yX8_done cX8_done 1 (some .int) 0 := ⟨mw_562, mw_563, mw_55, mw_564, by decide +kernel⟩
set_option maxHeartbeats 8000000 in
set_option maxRecDepth 100000 in
theorem c_X8_done {l : Launch} {E : va_G} {cy : Nat → ClassId} (A : Nat → Nat) (hn : HS) (pd : PS) (dr : DS) (pl : YS) (q : Int32 × HS × PS × DS × YS) (hf : f_X8_done hn pd dr pl = some q) : Ci l yX8_done cX8_done 1 (some .int) 7 203 E cy [.ref (A 0)] (kdo A :: (wH cy (sh A 10) hn ++ wP cy (sh A 40) pd ++ wD cy (sh A 50) dr ++ wY cy (sh A 70) pl)) q.1 (kdo A :: (wH cy (sh A 10) q.2.1 ++ wP cy (sh A 40) q.2.2.1 ++ wD cy (sh A 50) q.2.2.2.1 ++ wY cy (sh A 70) q.2.2.2.2)) := by
  refine Ci.of RX8 (by decide) rfl (Nat.le_of_ble_eq_true rfl) ?_
  intro K hK
  have hc := hK.cq
  show V K (kdo A :: (wH cy (sh A 10) hn ++ wP cy (sh A 40) pd ++ wD cy (sh A 50) dr ++ wY cy (sh A 70) pl)) 0 [(0, .ref (A 0))] []
  unfold f_X8_done at hf
  refine r_aload_n hc 0 dX8_done_0 rfl ?_
  obtain ⟨q1, hq1, hf⟩ := o_bind hf
  refine r_callVi (ws' := (kdo A :: (wH cy (sh A 10) hn ++ wP cy (sh A 40) pd ++ wD cy (sh A 50) q1.2.1 ++ wY cy (sh A 70) q1.2.2))) (As := []) (rest := []) hc (c_X8_playsOut A hn pd dr pl q1 hq1) kv_X8_playsOut mw_565 0 rfl rfl _ _ _ (Sp_all _ _) rfl rfl (Nat.le_of_ble_eq_true rfl) ⟨by decide, by decide⟩ dX8_done_1 ?_
  refine r_if_ne hc 10 dX8_done_4 (by decide) (fun c_1 => ?_) (fun c_1 => ?_)
  · have hf := o_neg c_1 hf
    refine r_aload_n hc 0 dX8_done_10 rfl ?_
    refine r_get (v := .ref ((sh A 10) 0)) hc iw_X8 0 rfl rfl 0 (by decide) mw_295 rfl dX8_done_11 ?_
    refine r_aload_n hc 0 dX8_done_14 rfl ?_
    refine r_get (v := .ref ((sh A 50) 0)) hc iw_X8 0 rfl rfl 4 (by decide) mw_299 rfl dX8_done_15 ?_
    refine r_get (v := .ref ((sh (sh A 50) 5) 0)) hc iw_X0 13 rfl rfl 0 (by decide) mw_171 rfl dX8_done_18 ?_
    obtain ⟨q21, hq21, hf⟩ := o_bind hf
    refine r_callVBv (ws' := (kdo A :: (wH cy (sh A 10) q21 ++ wP cy (sh A 40) pd ++ wD cy (sh A 50) q1.2.1 ++ wY cy (sh A 70) q1.2.2))) (As := [.ref ((sh (sh A 50) 5) 0)]) (rest := []) hc (c_X1_copy (sh A 10) (sh (sh A 50) 5) hn (D_house q1.2.1) q21 hq21) kv_X1_copy mw_569 0 rfl rfl [[kdo A], wH cy (sh A 10) hn, wP cy (sh A 40) pd, wDo cy (sh A 50) q1.2.1, wH cy (sh (sh A 50) 5) (D_house q1.2.1), wY cy (sh A 70) q1.2.2] [[kdo A], wP cy (sh A 40) pd, wDo cy (sh A 50) q1.2.1, wY cy (sh A 70) q1.2.2] [wH cy (sh A 10) hn, wH cy (sh (sh A 50) 5) (D_house q1.2.1)] [wH cy (sh A 10) q21, wH cy (sh (sh A 50) 5) (D_house q1.2.1)] [[kdo A], wH cy (sh A 10) q21, wP cy (sh A 40) pd, wDo cy (sh A 50) q1.2.1, wH cy (sh (sh A 50) 5) (D_house q1.2.1), wY cy (sh A 70) q1.2.2] [0, 2, 3, 5, 1, 4] [0, 4, 1, 2, 5, 3] ⟨(by simp only [wD_eq, List.flatten_cons, List.flatten_nil, List.append_nil, List.append_assoc, List.cons_append, List.nil_append]), (by simp only [wD_eq, List.flatten_cons, List.flatten_nil, List.append_nil, List.append_assoc, List.cons_append, List.nil_append]), (by simp only [wD_eq, List.flatten_cons, List.flatten_nil, List.append_nil, List.append_assoc, List.cons_append, List.nil_append]), (by simp only [wD_eq, List.flatten_cons, List.flatten_nil, List.append_nil, List.append_assoc, List.cons_append, List.nil_append]), rfl, (show List.Perm [0, 2, 3, 5, 1, 4] (List.range 6) from by decide), rfl, (show List.Perm [0, 4, 1, 2, 5, 3] (List.range 6) from by decide)⟩ rfl rfl (Nat.le_of_ble_eq_true rfl) ⟨by decide, by decide⟩ dX8_done_21 ?_
    refine r_aload_n hc 0 dX8_done_24 rfl ?_
    refine r_get (v := .ref ((sh A 40) 0)) hc iw_X8 0 rfl rfl 3 (by decide) mw_298 rfl dX8_done_25 ?_
    refine r_iconst hc (0 : Int32) dX8_done_28 rfl ?_
    refine r_put hc iw_X2 tyX2 tyX2_ok nmX2 11 rfl rfl 0 (by decide) mw_152 rfl rfl rfl (Nat.le_of_ble_eq_true rfl) dX8_done_29 (kdo A :: (wH cy (sh A 10) q21 ++ wP cy (sh A 40) (P_set_used pd (0 : Int32)) ++ wD cy (sh A 50) q1.2.1 ++ wY cy (sh A 70) q1.2.2)) rfl ?_
    refine r_aload_n hc 0 dX8_done_32 rfl ?_
    refine r_get (v := .ref ((sh A 70) 0)) hc iw_X8 0 rfl rfl 5 (by decide) mw_300 rfl dX8_done_33 ?_
    refine r_get (v := .int (Y_events q1.2.2)) hc iw_X3 28 rfl rfl 0 (by decide) mw_194 rfl dX8_done_36 ?_
    exact r_iret hK (congrArg (fun z9 => z9.1) (Option.some.inj hf)) (congrArg (fun z9 => (kdo A :: (wH cy (sh A 10) z9.2.1 ++ wP cy (sh A 40) z9.2.2.1 ++ wD cy (sh A 50) z9.2.2.2.1 ++ wY cy (sh A 70) z9.2.2.2.2))) (Option.some.inj hf)) dX8_done_39
  · have hf := o_pos c_1 hf
    refine r_bipush hc (-5 : Int32) dX8_done_7 rfl ?_
    exact r_iret hK (congrArg (fun z9 => z9.1) (Option.some.inj hf)) (congrArg (fun z9 => (kdo A :: (wH cy (sh A 10) z9.2.1 ++ wP cy (sh A 40) z9.2.2.1 ++ wD cy (sh A 50) z9.2.2.2.1 ++ wY cy (sh A 70) z9.2.2.2.2))) (Option.some.inj hf)) dX8_done_9
def f_X8_state (hn : HS) (x1 : Int32) (x2 : Int32) : Option (Int32) :=
  ((f_X1_isThere hn x1).bind fun q5 => (if q5 = 0 then (some ((-1 : Int32))) else ((f_X1_tellGuest hn x1 x2).bind fun q19 => (some (q19)))))
theorem kv_X8_state : KV RX8 yX8_state cX8_state 3 (some .int) 2 := ⟨mw_571, mw_572, mw_55, mw_573, by decide +kernel⟩
set_option maxHeartbeats 8000000 in
set_option maxRecDepth 100000 in
theorem c_X8_state {l : Launch} {E : va_G} {cy : Nat → ClassId} (A : Nat → Nat) (hn : HS) (x1 : Int32) (x2 : Int32) (q : Int32) (hf : f_X8_state hn x1 x2 = some q) : Ci l yX8_state cX8_state 3 (some .int) 2 82 E cy [.ref (A 0), .int x1, .int x2] (kdo A :: (wH cy (sh A 10) hn)) q (kdo A :: (wH cy (sh A 10) hn)) := by
  refine Ci.of RX8 (by decide) rfl (Nat.le_of_ble_eq_true rfl) ?_
  intro K hK
  have hc := hK.cq
  show V K (kdo A :: (wH cy (sh A 10) hn)) 0 [(0, .ref (A 0)), (1, .int x1), (2, .int x2)] []
  unfold f_X8_state at hf
  refine r_aload_n hc 0 dX8_state_0 rfl ?_
  refine r_get (v := .ref ((sh A 10) 0)) hc iw_X8 0 rfl rfl 0 (by decide) mw_295 rfl dX8_state_1 ?_
  refine r_iload_n hc 1 dX8_state_4 rfl ?_
  obtain ⟨q5, hq5, hf⟩ := o_bind hf
  refine r_callVi (ws' := (kdo A :: (wH cy (sh A 10) hn))) (As := [.int x1]) (rest := []) hc (c_X1_isThere (sh A 10) hn x1 q5 hq5) kv_X1_isThere mw_404 0 rfl rfl [1, 2, 3, 4, 5, 6, 7, 8, 9, 10] [0] [0, 1, 2, 3, 4, 5, 6, 7, 8, 9, 10] ⟨rfl, rfl, rfl, rfl, rfl, rfl, rfl⟩ rfl rfl (Nat.le_of_ble_eq_true rfl) ⟨by decide, by decide⟩ dX8_state_5 ?_
  refine r_if_ne hc 13 dX8_state_8 (by decide) (fun c_1 => ?_) (fun c_1 => ?_)
  · have hf := o_neg c_1 hf
    refine r_aload_n hc 0 dX8_state_13 rfl ?_
    refine r_get (v := .ref ((sh A 10) 0)) hc iw_X8 0 rfl rfl 0 (by decide) mw_295 rfl dX8_state_14 ?_
    refine r_iload_n hc 1 dX8_state_17 rfl ?_
    refine r_iload_n hc 2 dX8_state_18 rfl ?_
    obtain ⟨q19, hq19, hf⟩ := o_bind hf
    refine r_callVi (ws' := (kdo A :: (wH cy (sh A 10) hn))) (As := [.int x1, .int x2]) (rest := []) hc (c_X1_tellGuest (sh A 10) hn x1 x2 q19 hq19) kv_X1_tellGuest mw_574 0 rfl rfl [1, 2, 3, 4, 5, 6, 7, 8, 9, 10] [0] [0, 1, 2, 3, 4, 5, 6, 7, 8, 9, 10] ⟨rfl, rfl, rfl, rfl, rfl, rfl, rfl⟩ rfl rfl (Nat.le_of_ble_eq_true rfl) ⟨by decide, by decide⟩ dX8_state_19 ?_
    exact r_iret hK (Option.some.inj hf) rfl dX8_state_22
  · have hf := o_pos c_1 hf
    refine r_iconst hc (-1 : Int32) dX8_state_11 rfl ?_
    exact r_iret hK (Option.some.inj hf) rfl dX8_state_12
def f_X8_behind (hn : HS) (pd : PS) (dr : DS) (pl : YS) (x1 : Int32) (x2 : Int32) : Option (Int32 × DS × YS) :=
  ((f_X1_isThere hn x1).bind fun q5 => (if q5 = 0 then (some ((-1 : Int32), dr, pl)) else (if x2 < 0 then (some ((-2 : Int32), dr, pl)) else (if x2 ≤ (3 : Int32) then ((f_X8_playsOut hn pd dr pl).bind fun q26 => (if q26.1 = 0 then (some ((-5 : Int32), q26.2.1, q26.2.2)) else ((f_X1_tellGuest (D_house q26.2.1) x1 x2).bind fun q41 => (some (q41, q26.2.1, q26.2.2))))) else (some ((-2 : Int32), dr, pl))))))
theorem kv_X8_behind : KV RX8 yX8_behind cX8_behind 3 (some .int) 2 := ⟨mw_579, mw_580, mw_55, mw_581, by decide +kernel⟩
set_option maxHeartbeats 8000000 in
set_option maxRecDepth 100000 in
theorem c_X8_behind {l : Launch} {E : va_G} {cy : Nat → ClassId} (A : Nat → Nat) (hn : HS) (pd : PS) (dr : DS) (pl : YS) (x1 : Int32) (x2 : Int32) (q : Int32 × DS × YS) (hf : f_X8_behind hn pd dr pl x1 x2 = some q) : Ci l yX8_behind cX8_behind 3 (some .int) 7 203 E cy [.ref (A 0), .int x1, .int x2] (kdo A :: (wH cy (sh A 10) hn ++ wP cy (sh A 40) pd ++ wD cy (sh A 50) dr ++ wY cy (sh A 70) pl)) q.1 (kdo A :: (wH cy (sh A 10) hn ++ wP cy (sh A 40) pd ++ wD cy (sh A 50) q.2.1 ++ wY cy (sh A 70) q.2.2)) := by
  refine Ci.of RX8 (by decide) rfl (Nat.le_of_ble_eq_true rfl) ?_
  intro K hK
  have hc := hK.cq
  show V K (kdo A :: (wH cy (sh A 10) hn ++ wP cy (sh A 40) pd ++ wD cy (sh A 50) dr ++ wY cy (sh A 70) pl)) 0 [(0, .ref (A 0)), (1, .int x1), (2, .int x2)] []
  unfold f_X8_behind at hf
  refine r_aload_n hc 0 dX8_behind_0 rfl ?_
  refine r_get (v := .ref ((sh A 10) 0)) hc iw_X8 0 rfl rfl 0 (by decide) mw_295 rfl dX8_behind_1 ?_
  refine r_iload_n hc 1 dX8_behind_4 rfl ?_
  obtain ⟨q5, hq5, hf⟩ := o_bind hf
  refine r_callVBi (ws' := (kdo A :: (wH cy (sh A 10) hn ++ wP cy (sh A 40) pd ++ wD cy (sh A 50) dr ++ wY cy (sh A 70) pl))) (As := [.int x1]) (rest := []) hc (c_X1_isThere (sh A 10) hn x1 q5 hq5) kv_X1_isThere mw_404 0 rfl rfl [[kdo A], wH cy (sh A 10) hn, wP cy (sh A 40) pd, wDo cy (sh A 50) dr, wH cy (sh (sh A 50) 5) (D_house dr), wY cy (sh A 70) pl] [[kdo A], wP cy (sh A 40) pd, wDo cy (sh A 50) dr, wH cy (sh (sh A 50) 5) (D_house dr), wY cy (sh A 70) pl] [wH cy (sh A 10) hn] [wH cy (sh A 10) hn] [[kdo A], wH cy (sh A 10) hn, wP cy (sh A 40) pd, wDo cy (sh A 50) dr, wH cy (sh (sh A 50) 5) (D_house dr), wY cy (sh A 70) pl] [0, 2, 3, 4, 5, 1] [0, 5, 1, 2, 3, 4] ⟨(by simp only [wD_eq, List.flatten_cons, List.flatten_nil, List.append_nil, List.append_assoc, List.cons_append, List.nil_append]), (by simp only [wD_eq, List.flatten_cons, List.flatten_nil, List.append_nil, List.append_assoc, List.cons_append, List.nil_append]), (by simp only [wD_eq, List.flatten_cons, List.flatten_nil, List.append_nil, List.append_assoc, List.cons_append, List.nil_append]), (by simp only [wD_eq, List.flatten_cons, List.flatten_nil, List.append_nil, List.append_assoc, List.cons_append, List.nil_append]), rfl, (show List.Perm [0, 2, 3, 4, 5, 1] (List.range 6) from by decide), rfl, (show List.Perm [0, 5, 1, 2, 3, 4] (List.range 6) from by decide)⟩ rfl rfl (Nat.le_of_ble_eq_true rfl) ⟨by decide, by decide⟩ dX8_behind_5 ?_
  refine r_if_ne hc 13 dX8_behind_8 (by decide) (fun c_1 => ?_) (fun c_1 => ?_)
  · have hf := o_neg c_1 hf
    refine r_iload_n hc 2 dX8_behind_13 rfl ?_
    refine r_if_lt hc 22 dX8_behind_14 (by decide) (fun c_2 => ?_) (fun c_2 => ?_)
    · have hf := o_pos c_2 hf
      refine r_bipush hc (-2 : Int32) dX8_behind_22 rfl ?_
      exact r_iret hK (congrArg (fun z9 => z9.1) (Option.some.inj hf)) (congrArg (fun z9 => (kdo A :: (wH cy (sh A 10) hn ++ wP cy (sh A 40) pd ++ wD cy (sh A 50) z9.2.1 ++ wY cy (sh A 70) z9.2.2))) (Option.some.inj hf)) dX8_behind_24
    · have hf := o_neg c_2 hf
      refine r_iload_n hc 2 dX8_behind_17 rfl ?_
      refine r_iconst hc (3 : Int32) dX8_behind_18 rfl ?_
      refine r_icmp_le hc 25 dX8_behind_19 (by decide) (fun c_3 => ?_) (fun c_3 => ?_)
      · have hf := o_pos c_3 hf
        refine r_aload_n hc 0 dX8_behind_25 rfl ?_
        obtain ⟨q26, hq26, hf⟩ := o_bind hf
        refine r_callVi (ws' := (kdo A :: (wH cy (sh A 10) hn ++ wP cy (sh A 40) pd ++ wD cy (sh A 50) q26.2.1 ++ wY cy (sh A 70) q26.2.2))) (As := []) (rest := []) hc (c_X8_playsOut A hn pd dr pl q26 hq26) kv_X8_playsOut mw_565 0 rfl rfl _ _ _ (Sp_all _ _) rfl rfl (Nat.le_of_ble_eq_true rfl) ⟨by decide, by decide⟩ dX8_behind_26 ?_
        refine r_if_eq hc 47 dX8_behind_29 (by decide) (fun c_4 => ?_) (fun c_4 => ?_)
        · have hf := o_pos c_4 hf
          refine r_bipush hc (-5 : Int32) dX8_behind_47 rfl ?_
          exact r_iret hK (congrArg (fun z9 => z9.1) (Option.some.inj hf)) (congrArg (fun z9 => (kdo A :: (wH cy (sh A 10) hn ++ wP cy (sh A 40) pd ++ wD cy (sh A 50) z9.2.1 ++ wY cy (sh A 70) z9.2.2))) (Option.some.inj hf)) dX8_behind_49
        · have hf := o_neg c_4 hf
          refine r_aload_n hc 0 dX8_behind_32 rfl ?_
          refine r_get (v := .ref ((sh A 50) 0)) hc iw_X8 0 rfl rfl 4 (by decide) mw_299 rfl dX8_behind_33 ?_
          refine r_get (v := .ref ((sh (sh A 50) 5) 0)) hc iw_X0 13 rfl rfl 0 (by decide) mw_171 rfl dX8_behind_36 ?_
          refine r_iload_n hc 1 dX8_behind_39 rfl ?_
          refine r_iload_n hc 2 dX8_behind_40 rfl ?_
          obtain ⟨q41, hq41, hf⟩ := o_bind hf
          refine r_callVBi (ws' := (kdo A :: (wH cy (sh A 10) hn ++ wP cy (sh A 40) pd ++ wD cy (sh A 50) q26.2.1 ++ wY cy (sh A 70) q26.2.2))) (As := [.int x1, .int x2]) (rest := []) hc (c_X1_tellGuest (sh (sh A 50) 5) (D_house q26.2.1) x1 x2 q41 hq41) kv_X1_tellGuest mw_574 0 rfl rfl [[kdo A], wH cy (sh A 10) hn, wP cy (sh A 40) pd, wDo cy (sh A 50) q26.2.1, wH cy (sh (sh A 50) 5) (D_house q26.2.1), wY cy (sh A 70) q26.2.2] [[kdo A], wH cy (sh A 10) hn, wP cy (sh A 40) pd, wDo cy (sh A 50) q26.2.1, wY cy (sh A 70) q26.2.2] [wH cy (sh (sh A 50) 5) (D_house q26.2.1)] [wH cy (sh (sh A 50) 5) (D_house q26.2.1)] [[kdo A], wH cy (sh A 10) hn, wP cy (sh A 40) pd, wDo cy (sh A 50) q26.2.1, wH cy (sh (sh A 50) 5) (D_house q26.2.1), wY cy (sh A 70) q26.2.2] [0, 1, 2, 3, 5, 4] [0, 1, 2, 3, 5, 4] ⟨(by simp only [wD_eq, List.flatten_cons, List.flatten_nil, List.append_nil, List.append_assoc, List.cons_append, List.nil_append]), (by simp only [wD_eq, List.flatten_cons, List.flatten_nil, List.append_nil, List.append_assoc, List.cons_append, List.nil_append]), (by simp only [wD_eq, List.flatten_cons, List.flatten_nil, List.append_nil, List.append_assoc, List.cons_append, List.nil_append]), (by simp only [wD_eq, List.flatten_cons, List.flatten_nil, List.append_nil, List.append_assoc, List.cons_append, List.nil_append]), rfl, (show List.Perm [0, 1, 2, 3, 5, 4] (List.range 6) from by decide), rfl, (show List.Perm [0, 1, 2, 3, 5, 4] (List.range 6) from by decide)⟩ rfl rfl (Nat.le_of_ble_eq_true rfl) ⟨by decide, by decide⟩ dX8_behind_41 ?_
          refine r_goto hc 49 dX8_behind_44 (by decide) ?_
          exact r_iret hK (congrArg (fun z9 => z9.1) (Option.some.inj hf)) (congrArg (fun z9 => (kdo A :: (wH cy (sh A 10) hn ++ wP cy (sh A 40) pd ++ wD cy (sh A 50) z9.2.1 ++ wY cy (sh A 70) z9.2.2))) (Option.some.inj hf)) dX8_behind_49
      · have hf := o_neg c_3 hf
        refine r_bipush hc (-2 : Int32) dX8_behind_22 rfl ?_
        exact r_iret hK (congrArg (fun z9 => z9.1) (Option.some.inj hf)) (congrArg (fun z9 => (kdo A :: (wH cy (sh A 10) hn ++ wP cy (sh A 40) pd ++ wD cy (sh A 50) z9.2.1 ++ wY cy (sh A 70) z9.2.2))) (Option.some.inj hf)) dX8_behind_24
  · have hf := o_pos c_1 hf
    refine r_iconst hc (-1 : Int32) dX8_behind_11 rfl ?_
    exact r_iret hK (congrArg (fun z9 => z9.1) (Option.some.inj hf)) (congrArg (fun z9 => (kdo A :: (wH cy (sh A 10) hn ++ wP cy (sh A 40) pd ++ wD cy (sh A 50) z9.2.1 ++ wY cy (sh A 70) z9.2.2))) (Option.some.inj hf)) dX8_behind_12
def f_X8_draw (hn : HS) (x1 : Int32) (x2 : Int32) : Option (Int32) :=
  ((f_X1_isThere hn x1).bind fun q5 => (if q5 = 0 then (some ((-1 : Int32))) else ((f_X1_isRoom hn x2).bind fun q16 => (if q16 = 0 then (some ((-1 : Int32))) else ((f_X1_pull hn x1 x2).bind fun q30 => (some ((q30 + (1000 : Int32)))))))))
theorem kv_X8_draw : KV RX8 yX8_draw cX8_draw 3 (some .int) 2 := ⟨mw_583, mw_584, mw_55, mw_585, by decide +kernel⟩
set_option maxHeartbeats 8000000 in
set_option maxRecDepth 100000 in
theorem c_X8_draw {l : Launch} {E : va_G} {cy : Nat → ClassId} (A : Nat → Nat) (hn : HS) (x1 : Int32) (x2 : Int32) (q : Int32) (hf : f_X8_draw hn x1 x2 = some q) : Ci l yX8_draw cX8_draw 3 (some .int) 5 148 E cy [.ref (A 0), .int x1, .int x2] (kdo A :: (wH cy (sh A 10) hn)) q (kdo A :: (wH cy (sh A 10) hn)) := by
  refine Ci.of RX8 (by decide) rfl (Nat.le_of_ble_eq_true rfl) ?_
  intro K hK
  have hc := hK.cq
  show V K (kdo A :: (wH cy (sh A 10) hn)) 0 [(0, .ref (A 0)), (1, .int x1), (2, .int x2)] []
  unfold f_X8_draw at hf
  refine r_aload_n hc 0 dX8_draw_0 rfl ?_
  refine r_get (v := .ref ((sh A 10) 0)) hc iw_X8 0 rfl rfl 0 (by decide) mw_295 rfl dX8_draw_1 ?_
  refine r_iload_n hc 1 dX8_draw_4 rfl ?_
  obtain ⟨q5, hq5, hf⟩ := o_bind hf
  refine r_callVi (ws' := (kdo A :: (wH cy (sh A 10) hn))) (As := [.int x1]) (rest := []) hc (c_X1_isThere (sh A 10) hn x1 q5 hq5) kv_X1_isThere mw_404 0 rfl rfl [1, 2, 3, 4, 5, 6, 7, 8, 9, 10] [0] [0, 1, 2, 3, 4, 5, 6, 7, 8, 9, 10] ⟨rfl, rfl, rfl, rfl, rfl, rfl, rfl⟩ rfl rfl (Nat.le_of_ble_eq_true rfl) ⟨by decide, by decide⟩ dX8_draw_5 ?_
  refine r_if_eq hc 22 dX8_draw_8 (by decide) (fun c_1 => ?_) (fun c_1 => ?_)
  · have hf := o_pos c_1 hf
    refine r_iconst hc (-1 : Int32) dX8_draw_22 rfl ?_
    exact r_iret hK (Option.some.inj hf) rfl dX8_draw_23
  · have hf := o_neg c_1 hf
    refine r_aload_n hc 0 dX8_draw_11 rfl ?_
    refine r_get (v := .ref ((sh A 10) 0)) hc iw_X8 0 rfl rfl 0 (by decide) mw_295 rfl dX8_draw_12 ?_
    refine r_iload_n hc 2 dX8_draw_15 rfl ?_
    obtain ⟨q16, hq16, hf⟩ := o_bind hf
    refine r_callVi (ws' := (kdo A :: (wH cy (sh A 10) hn))) (As := [.int x2]) (rest := []) hc (c_X1_isRoom (sh A 10) hn x2 q16 hq16) kv_X1_isRoom mw_337 0 rfl rfl [1, 2, 3, 4, 5, 6, 7, 8, 9, 10] [0] [0, 1, 2, 3, 4, 5, 6, 7, 8, 9, 10] ⟨rfl, rfl, rfl, rfl, rfl, rfl, rfl⟩ rfl rfl (Nat.le_of_ble_eq_true rfl) ⟨by decide, by decide⟩ dX8_draw_16 ?_
    refine r_if_ne hc 24 dX8_draw_19 (by decide) (fun c_2 => ?_) (fun c_2 => ?_)
    · have hf := o_neg c_2 hf
      refine r_aload_n hc 0 dX8_draw_24 rfl ?_
      refine r_get (v := .ref ((sh A 10) 0)) hc iw_X8 0 rfl rfl 0 (by decide) mw_295 rfl dX8_draw_25 ?_
      refine r_iload_n hc 1 dX8_draw_28 rfl ?_
      refine r_iload_n hc 2 dX8_draw_29 rfl ?_
      obtain ⟨q30, hq30, hf⟩ := o_bind hf
      refine r_callVi (ws' := (kdo A :: (wH cy (sh A 10) hn))) (As := [.int x1, .int x2]) (rest := []) hc (c_X1_pull (sh A 10) hn x1 x2 q30 hq30) kv_X1_pull mw_586 0 rfl rfl [1, 2, 3, 4, 5, 6, 7, 8, 9, 10] [0] [0, 1, 2, 3, 4, 5, 6, 7, 8, 9, 10] ⟨rfl, rfl, rfl, rfl, rfl, rfl, rfl⟩ rfl rfl (Nat.le_of_ble_eq_true rfl) ⟨by decide, by decide⟩ dX8_draw_30 ?_
      refine r_sipush hc (1000 : Int32) dX8_draw_33 rfl ?_
      refine r_iadd hc dX8_draw_36 ?_
      exact r_iret hK (Option.some.inj hf) rfl dX8_draw_37
    · have hf := o_pos c_2 hf
      refine r_iconst hc (-1 : Int32) dX8_draw_22 rfl ?_
      exact r_iret hK (Option.some.inj hf) rfl dX8_draw_23
def f_X8_goes (hn : HS) (dr : DS) (x1 : Int32) : Option (Int32 × DS) :=
  ((f_X1_isThere hn x1).bind fun q5 => (if q5 = 0 then (some ((-1 : Int32), dr)) else (chk x1 8 (if ((H_busy hn) (x1).toNatClampNeg) = 0 then ((f_X0_begin dr hn).bind fun q36 => ((f_X0_target q36 x1).bind fun q44 => (some (q44, q36)))) else (some ((-3 : Int32), dr))))))
theorem kv_X8_goes : KV RX8 yX8_goes cX8_goes 2 (some .int) 1 := ⟨mw_593, mw_594, mw_55, mw_595, by decide +kernel⟩
set_option maxHeartbeats 8000000 in
set_option maxRecDepth 100000 in
theorem c_X8_goes {l : Launch} {E : va_G} {cy : Nat → ClassId} (A : Nat → Nat) (hn : HS) (dr : DS) (x1 : Int32) (q : Int32 × DS) (hf : f_X8_goes hn dr x1 = some q) : Ci l yX8_goes cX8_goes 2 (some .int) 5 148 E cy [.ref (A 0), .int x1] (kdo A :: (wH cy (sh A 10) hn ++ wD cy (sh A 50) dr)) q.1 (kdo A :: (wH cy (sh A 10) hn ++ wD cy (sh A 50) q.2)) := by
  refine Ci.of RX8 (by decide) rfl (Nat.le_of_ble_eq_true rfl) ?_
  intro K hK
  have hc := hK.cq
  show V K (kdo A :: (wH cy (sh A 10) hn ++ wD cy (sh A 50) dr)) 0 [(0, .ref (A 0)), (1, .int x1)] []
  unfold f_X8_goes at hf
  refine r_aload_n hc 0 dX8_goes_0 rfl ?_
  refine r_get (v := .ref ((sh A 10) 0)) hc iw_X8 0 rfl rfl 0 (by decide) mw_295 rfl dX8_goes_1 ?_
  refine r_iload_n hc 1 dX8_goes_4 rfl ?_
  obtain ⟨q5, hq5, hf⟩ := o_bind hf
  refine r_callVBi (ws' := (kdo A :: (wH cy (sh A 10) hn ++ wD cy (sh A 50) dr))) (As := [.int x1]) (rest := []) hc (c_X1_isThere (sh A 10) hn x1 q5 hq5) kv_X1_isThere mw_404 0 rfl rfl [[kdo A], wH cy (sh A 10) hn, wDo cy (sh A 50) dr, wH cy (sh (sh A 50) 5) (D_house dr)] [[kdo A], wDo cy (sh A 50) dr, wH cy (sh (sh A 50) 5) (D_house dr)] [wH cy (sh A 10) hn] [wH cy (sh A 10) hn] [[kdo A], wH cy (sh A 10) hn, wDo cy (sh A 50) dr, wH cy (sh (sh A 50) 5) (D_house dr)] [0, 2, 3, 1] [0, 3, 1, 2] ⟨(by simp only [wD_eq, List.flatten_cons, List.flatten_nil, List.append_nil, List.append_assoc, List.cons_append, List.nil_append]), (by simp only [wD_eq, List.flatten_cons, List.flatten_nil, List.append_nil, List.append_assoc, List.cons_append, List.nil_append]), (by simp only [wD_eq, List.flatten_cons, List.flatten_nil, List.append_nil, List.append_assoc, List.cons_append, List.nil_append]), (by simp only [wD_eq, List.flatten_cons, List.flatten_nil, List.append_nil, List.append_assoc, List.cons_append, List.nil_append]), rfl, (show List.Perm [0, 2, 3, 1] (List.range 4) from by decide), rfl, (show List.Perm [0, 3, 1, 2] (List.range 4) from by decide)⟩ rfl rfl (Nat.le_of_ble_eq_true rfl) ⟨by decide, by decide⟩ dX8_goes_5 ?_
  refine r_if_ne hc 13 dX8_goes_8 (by decide) (fun c_1 => ?_) (fun c_1 => ?_)
  · have hf := o_neg c_1 hf
    refine r_aload_n hc 0 dX8_goes_13 rfl ?_
    refine r_get (v := .ref ((sh A 10) 0)) hc iw_X8 0 rfl rfl 0 (by decide) mw_295 rfl dX8_goes_14 ?_
    refine r_get (v := .ref ((sh A 10) 4)) hc iw_X1 1 rfl rfl 6 (by decide) mw_105 rfl dX8_goes_17 ?_
    refine r_iload_n hc 1 dX8_goes_20 rfl ?_
    obtain ⟨i_2, hf⟩ := chk_some hf
    refine r_iald (f := (H_busy hn)) hc 5 rfl i_2 dX8_goes_21 ?_
    refine r_if_eq hc 28 dX8_goes_22 (by decide) (fun c_3 => ?_) (fun c_3 => ?_)
    · have hf := o_pos c_3 hf
      refine r_aload_n hc 0 dX8_goes_28 rfl ?_
      refine r_get (v := .ref ((sh A 50) 0)) hc iw_X8 0 rfl rfl 4 (by decide) mw_299 rfl dX8_goes_29 ?_
      refine r_aload_n hc 0 dX8_goes_32 rfl ?_
      refine r_get (v := .ref ((sh A 10) 0)) hc iw_X8 0 rfl rfl 0 (by decide) mw_295 rfl dX8_goes_33 ?_
      obtain ⟨q36, hq36, hf⟩ := o_bind hf
      refine r_callVBv (ws' := (kdo A :: (wH cy (sh A 10) hn ++ wD cy (sh A 50) q36))) (As := [.ref ((sh A 10) 0)]) (rest := []) hc (c_X0_begin (sh A 50) (sh A 10) dr hn q36 hq36) kv_X0_begin mw_596 0 rfl rfl [[kdo A], wH cy (sh A 10) hn, wDo cy (sh A 50) dr, wH cy (sh (sh A 50) 5) (D_house dr)] [[kdo A]] [wDo cy (sh A 50) dr, wH cy (sh (sh A 50) 5) (D_house dr), wH cy (sh A 10) hn] [wDo cy (sh A 50) q36, wH cy (sh (sh A 50) 5) (D_house q36), wH cy (sh A 10) hn] [[kdo A], wH cy (sh A 10) hn, wDo cy (sh A 50) q36, wH cy (sh (sh A 50) 5) (D_house q36)] [0, 2, 3, 1] [0, 3, 1, 2] ⟨(by simp only [wD_eq, List.flatten_cons, List.flatten_nil, List.append_nil, List.append_assoc, List.cons_append, List.nil_append]), (by simp only [wD_eq, List.flatten_cons, List.flatten_nil, List.append_nil, List.append_assoc, List.cons_append, List.nil_append]), (by simp only [wD_eq, List.flatten_cons, List.flatten_nil, List.append_nil, List.append_assoc, List.cons_append, List.nil_append]), (by simp only [wD_eq, List.flatten_cons, List.flatten_nil, List.append_nil, List.append_assoc, List.cons_append, List.nil_append]), rfl, (show List.Perm [0, 2, 3, 1] (List.range 4) from by decide), rfl, (show List.Perm [0, 3, 1, 2] (List.range 4) from by decide)⟩ rfl rfl (Nat.le_of_ble_eq_true rfl) ⟨by decide, by decide⟩ dX8_goes_36 ?_
      refine r_aload_n hc 0 dX8_goes_39 rfl ?_
      refine r_get (v := .ref ((sh A 50) 0)) hc iw_X8 0 rfl rfl 4 (by decide) mw_299 rfl dX8_goes_40 ?_
      refine r_iload_n hc 1 dX8_goes_43 rfl ?_
      obtain ⟨q44, hq44, hf⟩ := o_bind hf
      refine r_callVBi (ws' := (kdo A :: (wH cy (sh A 10) hn ++ wD cy (sh A 50) q36))) (As := [.int x1]) (rest := []) hc (c_X0_target (sh A 50) q36 x1 q44 hq44) kv_X0_target mw_597 0 rfl rfl [[kdo A], wH cy (sh A 10) hn, wDo cy (sh A 50) q36, wH cy (sh (sh A 50) 5) (D_house q36)] [[kdo A], wH cy (sh A 10) hn] [wDo cy (sh A 50) q36, wH cy (sh (sh A 50) 5) (D_house q36)] [wDo cy (sh A 50) q36, wH cy (sh (sh A 50) 5) (D_house q36)] [[kdo A], wH cy (sh A 10) hn, wDo cy (sh A 50) q36, wH cy (sh (sh A 50) 5) (D_house q36)] [0, 1, 2, 3] [0, 1, 2, 3] ⟨(by simp only [wD_eq, List.flatten_cons, List.flatten_nil, List.append_nil, List.append_assoc, List.cons_append, List.nil_append]), (by simp only [wD_eq, List.flatten_cons, List.flatten_nil, List.append_nil, List.append_assoc, List.cons_append, List.nil_append]), (by simp only [wD_eq, List.flatten_cons, List.flatten_nil, List.append_nil, List.append_assoc, List.cons_append, List.nil_append]), (by simp only [wD_eq, List.flatten_cons, List.flatten_nil, List.append_nil, List.append_assoc, List.cons_append, List.nil_append]), rfl, (show List.Perm [0, 1, 2, 3] (List.range 4) from by decide), rfl, (show List.Perm [0, 1, 2, 3] (List.range 4) from by decide)⟩ rfl rfl (Nat.le_of_ble_eq_true rfl) ⟨by decide, by decide⟩ dX8_goes_44 ?_
      exact r_iret hK (congrArg (fun z9 => z9.1) (Option.some.inj hf)) (congrArg (fun z9 => (kdo A :: (wH cy (sh A 10) hn ++ wD cy (sh A 50) z9.2))) (Option.some.inj hf)) dX8_goes_47
    · have hf := o_neg c_3 hf
      refine r_bipush hc (-3 : Int32) dX8_goes_25 rfl ?_
      exact r_iret hK (congrArg (fun z9 => z9.1) (Option.some.inj hf)) (congrArg (fun z9 => (kdo A :: (wH cy (sh A 10) hn ++ wD cy (sh A 50) z9.2))) (Option.some.inj hf)) dX8_goes_27
  · have hf := o_pos c_1 hf
    refine r_iconst hc (-1 : Int32) dX8_goes_11 rfl ?_
    exact r_iret hK (congrArg (fun z9 => z9.1) (Option.some.inj hf)) (congrArg (fun z9 => (kdo A :: (wH cy (sh A 10) hn ++ wD cy (sh A 50) z9.2))) (Option.some.inj hf)) dX8_goes_12
def f_X8_after (hn : HS) (dr : DS) (x1 : Int32) (x2 : Int32) : Option (Int32 × DS) :=
  ((f_X1_isThere hn x1).bind fun q5 => (if q5 = 0 then (some ((-1 : Int32), dr)) else (if x2 < 0 then (some ((-2 : Int32), dr)) else (if x2 ≤ (99 : Int32) then ((f_X0_begin dr hn).bind fun q34 => ((f_X0_run q34 x2).bind fun q42 => (chk x1 8 (some (((H_place (D_house q42)) (x1).toNatClampNeg), q42))))) else (some ((-2 : Int32), dr))))))
theorem kv_X8_after : KV RX8 yX8_after cX8_after 3 (some .int) 2 := ⟨mw_599, mw_600, mw_55, mw_601, by decide +kernel⟩
set_option maxHeartbeats 8000000 in
set_option maxRecDepth 100000 in
theorem c_X8_after {l : Launch} {E : va_G} {cy : Nat → ClassId} (A : Nat → Nat) (hn : HS) (dr : DS) (x1 : Int32) (x2 : Int32) (q : Int32 × DS) (hf : f_X8_after hn dr x1 x2 = some q) : Ci l yX8_after cX8_after 3 (some .int) 6 176 E cy [.ref (A 0), .int x1, .int x2] (kdo A :: (wH cy (sh A 10) hn ++ wD cy (sh A 50) dr)) q.1 (kdo A :: (wH cy (sh A 10) hn ++ wD cy (sh A 50) q.2)) := by
  refine Ci.of RX8 (by decide) rfl (Nat.le_of_ble_eq_true rfl) ?_
  intro K hK
  have hc := hK.cq
  show V K (kdo A :: (wH cy (sh A 10) hn ++ wD cy (sh A 50) dr)) 0 [(0, .ref (A 0)), (1, .int x1), (2, .int x2)] []
  unfold f_X8_after at hf
  refine r_aload_n hc 0 dX8_after_0 rfl ?_
  refine r_get (v := .ref ((sh A 10) 0)) hc iw_X8 0 rfl rfl 0 (by decide) mw_295 rfl dX8_after_1 ?_
  refine r_iload_n hc 1 dX8_after_4 rfl ?_
  obtain ⟨q5, hq5, hf⟩ := o_bind hf
  refine r_callVBi (ws' := (kdo A :: (wH cy (sh A 10) hn ++ wD cy (sh A 50) dr))) (As := [.int x1]) (rest := []) hc (c_X1_isThere (sh A 10) hn x1 q5 hq5) kv_X1_isThere mw_404 0 rfl rfl [[kdo A], wH cy (sh A 10) hn, wDo cy (sh A 50) dr, wH cy (sh (sh A 50) 5) (D_house dr)] [[kdo A], wDo cy (sh A 50) dr, wH cy (sh (sh A 50) 5) (D_house dr)] [wH cy (sh A 10) hn] [wH cy (sh A 10) hn] [[kdo A], wH cy (sh A 10) hn, wDo cy (sh A 50) dr, wH cy (sh (sh A 50) 5) (D_house dr)] [0, 2, 3, 1] [0, 3, 1, 2] ⟨(by simp only [wD_eq, List.flatten_cons, List.flatten_nil, List.append_nil, List.append_assoc, List.cons_append, List.nil_append]), (by simp only [wD_eq, List.flatten_cons, List.flatten_nil, List.append_nil, List.append_assoc, List.cons_append, List.nil_append]), (by simp only [wD_eq, List.flatten_cons, List.flatten_nil, List.append_nil, List.append_assoc, List.cons_append, List.nil_append]), (by simp only [wD_eq, List.flatten_cons, List.flatten_nil, List.append_nil, List.append_assoc, List.cons_append, List.nil_append]), rfl, (show List.Perm [0, 2, 3, 1] (List.range 4) from by decide), rfl, (show List.Perm [0, 3, 1, 2] (List.range 4) from by decide)⟩ rfl rfl (Nat.le_of_ble_eq_true rfl) ⟨by decide, by decide⟩ dX8_after_5 ?_
  refine r_if_ne hc 13 dX8_after_8 (by decide) (fun c_1 => ?_) (fun c_1 => ?_)
  · have hf := o_neg c_1 hf
    refine r_iload_n hc 2 dX8_after_13 rfl ?_
    refine r_if_lt hc 23 dX8_after_14 (by decide) (fun c_2 => ?_) (fun c_2 => ?_)
    · have hf := o_pos c_2 hf
      refine r_bipush hc (-2 : Int32) dX8_after_23 rfl ?_
      exact r_iret hK (congrArg (fun z9 => z9.1) (Option.some.inj hf)) (congrArg (fun z9 => (kdo A :: (wH cy (sh A 10) hn ++ wD cy (sh A 50) z9.2))) (Option.some.inj hf)) dX8_after_25
    · have hf := o_neg c_2 hf
      refine r_iload_n hc 2 dX8_after_17 rfl ?_
      refine r_bipush hc (99 : Int32) dX8_after_18 rfl ?_
      refine r_icmp_le hc 26 dX8_after_20 (by decide) (fun c_3 => ?_) (fun c_3 => ?_)
      · have hf := o_pos c_3 hf
        refine r_aload_n hc 0 dX8_after_26 rfl ?_
        refine r_get (v := .ref ((sh A 50) 0)) hc iw_X8 0 rfl rfl 4 (by decide) mw_299 rfl dX8_after_27 ?_
        refine r_aload_n hc 0 dX8_after_30 rfl ?_
        refine r_get (v := .ref ((sh A 10) 0)) hc iw_X8 0 rfl rfl 0 (by decide) mw_295 rfl dX8_after_31 ?_
        obtain ⟨q34, hq34, hf⟩ := o_bind hf
        refine r_callVBv (ws' := (kdo A :: (wH cy (sh A 10) hn ++ wD cy (sh A 50) q34))) (As := [.ref ((sh A 10) 0)]) (rest := []) hc (c_X0_begin (sh A 50) (sh A 10) dr hn q34 hq34) kv_X0_begin mw_596 0 rfl rfl [[kdo A], wH cy (sh A 10) hn, wDo cy (sh A 50) dr, wH cy (sh (sh A 50) 5) (D_house dr)] [[kdo A]] [wDo cy (sh A 50) dr, wH cy (sh (sh A 50) 5) (D_house dr), wH cy (sh A 10) hn] [wDo cy (sh A 50) q34, wH cy (sh (sh A 50) 5) (D_house q34), wH cy (sh A 10) hn] [[kdo A], wH cy (sh A 10) hn, wDo cy (sh A 50) q34, wH cy (sh (sh A 50) 5) (D_house q34)] [0, 2, 3, 1] [0, 3, 1, 2] ⟨(by simp only [wD_eq, List.flatten_cons, List.flatten_nil, List.append_nil, List.append_assoc, List.cons_append, List.nil_append]), (by simp only [wD_eq, List.flatten_cons, List.flatten_nil, List.append_nil, List.append_assoc, List.cons_append, List.nil_append]), (by simp only [wD_eq, List.flatten_cons, List.flatten_nil, List.append_nil, List.append_assoc, List.cons_append, List.nil_append]), (by simp only [wD_eq, List.flatten_cons, List.flatten_nil, List.append_nil, List.append_assoc, List.cons_append, List.nil_append]), rfl, (show List.Perm [0, 2, 3, 1] (List.range 4) from by decide), rfl, (show List.Perm [0, 3, 1, 2] (List.range 4) from by decide)⟩ rfl rfl (Nat.le_of_ble_eq_true rfl) ⟨by decide, by decide⟩ dX8_after_34 ?_
        refine r_aload_n hc 0 dX8_after_37 rfl ?_
        refine r_get (v := .ref ((sh A 50) 0)) hc iw_X8 0 rfl rfl 4 (by decide) mw_299 rfl dX8_after_38 ?_
        refine r_iload_n hc 2 dX8_after_41 rfl ?_
        obtain ⟨q42, hq42, hf⟩ := o_bind hf
        refine r_callVBv (ws' := (kdo A :: (wH cy (sh A 10) hn ++ wD cy (sh A 50) q42))) (As := [.int x2]) (rest := []) hc (c_X0_run (sh A 50) q34 x2 q42 hq42) kv_X0_run mw_602 0 rfl rfl [[kdo A], wH cy (sh A 10) hn, wDo cy (sh A 50) q34, wH cy (sh (sh A 50) 5) (D_house q34)] [[kdo A], wH cy (sh A 10) hn] [wDo cy (sh A 50) q34, wH cy (sh (sh A 50) 5) (D_house q34)] [wDo cy (sh A 50) q42, wH cy (sh (sh A 50) 5) (D_house q42)] [[kdo A], wH cy (sh A 10) hn, wDo cy (sh A 50) q42, wH cy (sh (sh A 50) 5) (D_house q42)] [0, 1, 2, 3] [0, 1, 2, 3] ⟨(by simp only [wD_eq, List.flatten_cons, List.flatten_nil, List.append_nil, List.append_assoc, List.cons_append, List.nil_append]), (by simp only [wD_eq, List.flatten_cons, List.flatten_nil, List.append_nil, List.append_assoc, List.cons_append, List.nil_append]), (by simp only [wD_eq, List.flatten_cons, List.flatten_nil, List.append_nil, List.append_assoc, List.cons_append, List.nil_append]), (by simp only [wD_eq, List.flatten_cons, List.flatten_nil, List.append_nil, List.append_assoc, List.cons_append, List.nil_append]), rfl, (show List.Perm [0, 1, 2, 3] (List.range 4) from by decide), rfl, (show List.Perm [0, 1, 2, 3] (List.range 4) from by decide)⟩ rfl rfl (Nat.le_of_ble_eq_true rfl) ⟨by decide, by decide⟩ dX8_after_42 ?_
        refine r_aload_n hc 0 dX8_after_45 rfl ?_
        refine r_get (v := .ref ((sh A 50) 0)) hc iw_X8 0 rfl rfl 4 (by decide) mw_299 rfl dX8_after_46 ?_
        refine r_get (v := .ref ((sh (sh A 50) 5) 0)) hc iw_X0 11 rfl rfl 0 (by decide) mw_171 rfl dX8_after_49 ?_
        refine r_get (v := .ref ((sh (sh A 50) 5) 3)) hc iw_X1 16 rfl rfl 5 (by decide) mw_102 rfl dX8_after_52 ?_
        refine r_iload_n hc 1 dX8_after_55 rfl ?_
        obtain ⟨i_4, hf⟩ := chk_some hf
        refine r_iald (f := (H_place (D_house q42))) hc 19 rfl i_4 dX8_after_56 ?_
        exact r_iret hK (congrArg (fun z9 => z9.1) (Option.some.inj hf)) (congrArg (fun z9 => (kdo A :: (wH cy (sh A 10) hn ++ wD cy (sh A 50) z9.2))) (Option.some.inj hf)) dX8_after_57
      · have hf := o_neg c_3 hf
        refine r_bipush hc (-2 : Int32) dX8_after_23 rfl ?_
        exact r_iret hK (congrArg (fun z9 => z9.1) (Option.some.inj hf)) (congrArg (fun z9 => (kdo A :: (wH cy (sh A 10) hn ++ wD cy (sh A 50) z9.2))) (Option.some.inj hf)) dX8_after_25
  · have hf := o_pos c_1 hf
    refine r_iconst hc (-1 : Int32) dX8_after_11 rfl ?_
    exact r_iret hK (congrArg (fun z9 => z9.1) (Option.some.inj hf)) (congrArg (fun z9 => (kdo A :: (wH cy (sh A 10) hn ++ wD cy (sh A 50) z9.2))) (Option.some.inj hf)) dX8_after_12
def f_X8_crowd (hn : HS) (dr : DS) (x1 : Int32) (x2 : Int32) : Option (Int32 × DS) :=
  ((f_X1_isRoom hn x1).bind fun q5 => (if q5 = 0 then (some ((-1 : Int32), dr)) else (if x2 < 0 then (some ((-2 : Int32), dr)) else (if x2 ≤ (99 : Int32) then ((f_X0_begin dr hn).bind fun q34 => ((f_X0_run q34 x2).bind fun q42 => ((f_X1_bitsIn (D_house q42) x1).bind fun q53 => (some (q53, q42))))) else (some ((-2 : Int32), dr))))))
theorem kv_X8_crowd : KV RX8 yX8_crowd cX8_crowd 3 (some .int) 2 := ⟨mw_616, mw_617, mw_55, mw_618, by decide +kernel⟩
set_option maxHeartbeats 8000000 in
set_option maxRecDepth 100000 in
theorem c_X8_crowd {l : Launch} {E : va_G} {cy : Nat → ClassId} (A : Nat → Nat) (hn : HS) (dr : DS) (x1 : Int32) (x2 : Int32) (q : Int32 × DS) (hf : f_X8_crowd hn dr x1 x2 = some q) : Ci l yX8_crowd cX8_crowd 3 (some .int) 6 176 E cy [.ref (A 0), .int x1, .int x2] (kdo A :: (wH cy (sh A 10) hn ++ wD cy (sh A 50) dr)) q.1 (kdo A :: (wH cy (sh A 10) hn ++ wD cy (sh A 50) q.2)) := by
  refine Ci.of RX8 (by decide) rfl (Nat.le_of_ble_eq_true rfl) ?_
  intro K hK
  have hc := hK.cq
  show V K (kdo A :: (wH cy (sh A 10) hn ++ wD cy (sh A 50) dr)) 0 [(0, .ref (A 0)), (1, .int x1), (2, .int x2)] []
  unfold f_X8_crowd at hf
  refine r_aload_n hc 0 dX8_crowd_0 rfl ?_
  refine r_get (v := .ref ((sh A 10) 0)) hc iw_X8 0 rfl rfl 0 (by decide) mw_295 rfl dX8_crowd_1 ?_
  refine r_iload_n hc 1 dX8_crowd_4 rfl ?_
  obtain ⟨q5, hq5, hf⟩ := o_bind hf
  refine r_callVBi (ws' := (kdo A :: (wH cy (sh A 10) hn ++ wD cy (sh A 50) dr))) (As := [.int x1]) (rest := []) hc (c_X1_isRoom (sh A 10) hn x1 q5 hq5) kv_X1_isRoom mw_337 0 rfl rfl [[kdo A], wH cy (sh A 10) hn, wDo cy (sh A 50) dr, wH cy (sh (sh A 50) 5) (D_house dr)] [[kdo A], wDo cy (sh A 50) dr, wH cy (sh (sh A 50) 5) (D_house dr)] [wH cy (sh A 10) hn] [wH cy (sh A 10) hn] [[kdo A], wH cy (sh A 10) hn, wDo cy (sh A 50) dr, wH cy (sh (sh A 50) 5) (D_house dr)] [0, 2, 3, 1] [0, 3, 1, 2] ⟨(by simp only [wD_eq, List.flatten_cons, List.flatten_nil, List.append_nil, List.append_assoc, List.cons_append, List.nil_append]), (by simp only [wD_eq, List.flatten_cons, List.flatten_nil, List.append_nil, List.append_assoc, List.cons_append, List.nil_append]), (by simp only [wD_eq, List.flatten_cons, List.flatten_nil, List.append_nil, List.append_assoc, List.cons_append, List.nil_append]), (by simp only [wD_eq, List.flatten_cons, List.flatten_nil, List.append_nil, List.append_assoc, List.cons_append, List.nil_append]), rfl, (show List.Perm [0, 2, 3, 1] (List.range 4) from by decide), rfl, (show List.Perm [0, 3, 1, 2] (List.range 4) from by decide)⟩ rfl rfl (Nat.le_of_ble_eq_true rfl) ⟨by decide, by decide⟩ dX8_crowd_5 ?_
  refine r_if_ne hc 13 dX8_crowd_8 (by decide) (fun c_1 => ?_) (fun c_1 => ?_)
  · have hf := o_neg c_1 hf
    refine r_iload_n hc 2 dX8_crowd_13 rfl ?_
    refine r_if_lt hc 23 dX8_crowd_14 (by decide) (fun c_2 => ?_) (fun c_2 => ?_)
    · have hf := o_pos c_2 hf
      refine r_bipush hc (-2 : Int32) dX8_crowd_23 rfl ?_
      exact r_iret hK (congrArg (fun z9 => z9.1) (Option.some.inj hf)) (congrArg (fun z9 => (kdo A :: (wH cy (sh A 10) hn ++ wD cy (sh A 50) z9.2))) (Option.some.inj hf)) dX8_crowd_25
    · have hf := o_neg c_2 hf
      refine r_iload_n hc 2 dX8_crowd_17 rfl ?_
      refine r_bipush hc (99 : Int32) dX8_crowd_18 rfl ?_
      refine r_icmp_le hc 26 dX8_crowd_20 (by decide) (fun c_3 => ?_) (fun c_3 => ?_)
      · have hf := o_pos c_3 hf
        refine r_aload_n hc 0 dX8_crowd_26 rfl ?_
        refine r_get (v := .ref ((sh A 50) 0)) hc iw_X8 0 rfl rfl 4 (by decide) mw_299 rfl dX8_crowd_27 ?_
        refine r_aload_n hc 0 dX8_crowd_30 rfl ?_
        refine r_get (v := .ref ((sh A 10) 0)) hc iw_X8 0 rfl rfl 0 (by decide) mw_295 rfl dX8_crowd_31 ?_
        obtain ⟨q34, hq34, hf⟩ := o_bind hf
        refine r_callVBv (ws' := (kdo A :: (wH cy (sh A 10) hn ++ wD cy (sh A 50) q34))) (As := [.ref ((sh A 10) 0)]) (rest := []) hc (c_X0_begin (sh A 50) (sh A 10) dr hn q34 hq34) kv_X0_begin mw_596 0 rfl rfl [[kdo A], wH cy (sh A 10) hn, wDo cy (sh A 50) dr, wH cy (sh (sh A 50) 5) (D_house dr)] [[kdo A]] [wDo cy (sh A 50) dr, wH cy (sh (sh A 50) 5) (D_house dr), wH cy (sh A 10) hn] [wDo cy (sh A 50) q34, wH cy (sh (sh A 50) 5) (D_house q34), wH cy (sh A 10) hn] [[kdo A], wH cy (sh A 10) hn, wDo cy (sh A 50) q34, wH cy (sh (sh A 50) 5) (D_house q34)] [0, 2, 3, 1] [0, 3, 1, 2] ⟨(by simp only [wD_eq, List.flatten_cons, List.flatten_nil, List.append_nil, List.append_assoc, List.cons_append, List.nil_append]), (by simp only [wD_eq, List.flatten_cons, List.flatten_nil, List.append_nil, List.append_assoc, List.cons_append, List.nil_append]), (by simp only [wD_eq, List.flatten_cons, List.flatten_nil, List.append_nil, List.append_assoc, List.cons_append, List.nil_append]), (by simp only [wD_eq, List.flatten_cons, List.flatten_nil, List.append_nil, List.append_assoc, List.cons_append, List.nil_append]), rfl, (show List.Perm [0, 2, 3, 1] (List.range 4) from by decide), rfl, (show List.Perm [0, 3, 1, 2] (List.range 4) from by decide)⟩ rfl rfl (Nat.le_of_ble_eq_true rfl) ⟨by decide, by decide⟩ dX8_crowd_34 ?_
        refine r_aload_n hc 0 dX8_crowd_37 rfl ?_
        refine r_get (v := .ref ((sh A 50) 0)) hc iw_X8 0 rfl rfl 4 (by decide) mw_299 rfl dX8_crowd_38 ?_
        refine r_iload_n hc 2 dX8_crowd_41 rfl ?_
        obtain ⟨q42, hq42, hf⟩ := o_bind hf
        refine r_callVBv (ws' := (kdo A :: (wH cy (sh A 10) hn ++ wD cy (sh A 50) q42))) (As := [.int x2]) (rest := []) hc (c_X0_run (sh A 50) q34 x2 q42 hq42) kv_X0_run mw_602 0 rfl rfl [[kdo A], wH cy (sh A 10) hn, wDo cy (sh A 50) q34, wH cy (sh (sh A 50) 5) (D_house q34)] [[kdo A], wH cy (sh A 10) hn] [wDo cy (sh A 50) q34, wH cy (sh (sh A 50) 5) (D_house q34)] [wDo cy (sh A 50) q42, wH cy (sh (sh A 50) 5) (D_house q42)] [[kdo A], wH cy (sh A 10) hn, wDo cy (sh A 50) q42, wH cy (sh (sh A 50) 5) (D_house q42)] [0, 1, 2, 3] [0, 1, 2, 3] ⟨(by simp only [wD_eq, List.flatten_cons, List.flatten_nil, List.append_nil, List.append_assoc, List.cons_append, List.nil_append]), (by simp only [wD_eq, List.flatten_cons, List.flatten_nil, List.append_nil, List.append_assoc, List.cons_append, List.nil_append]), (by simp only [wD_eq, List.flatten_cons, List.flatten_nil, List.append_nil, List.append_assoc, List.cons_append, List.nil_append]), (by simp only [wD_eq, List.flatten_cons, List.flatten_nil, List.append_nil, List.append_assoc, List.cons_append, List.nil_append]), rfl, (show List.Perm [0, 1, 2, 3] (List.range 4) from by decide), rfl, (show List.Perm [0, 1, 2, 3] (List.range 4) from by decide)⟩ rfl rfl (Nat.le_of_ble_eq_true rfl) ⟨by decide, by decide⟩ dX8_crowd_42 ?_
        refine r_aload_n hc 0 dX8_crowd_45 rfl ?_
        refine r_get (v := .ref ((sh A 50) 0)) hc iw_X8 0 rfl rfl 4 (by decide) mw_299 rfl dX8_crowd_46 ?_
        refine r_get (v := .ref ((sh (sh A 50) 5) 0)) hc iw_X0 11 rfl rfl 0 (by decide) mw_171 rfl dX8_crowd_49 ?_
        refine r_iload_n hc 1 dX8_crowd_52 rfl ?_
        obtain ⟨q53, hq53, hf⟩ := o_bind hf
        refine r_callVBi (ws' := (kdo A :: (wH cy (sh A 10) hn ++ wD cy (sh A 50) q42))) (As := [.int x1]) (rest := []) hc (c_X1_bitsIn (sh (sh A 50) 5) (D_house q42) x1 q53 hq53) kv_X1_bitsIn mw_619 0 rfl rfl [[kdo A], wH cy (sh A 10) hn, wDo cy (sh A 50) q42, wH cy (sh (sh A 50) 5) (D_house q42)] [[kdo A], wH cy (sh A 10) hn, wDo cy (sh A 50) q42] [wH cy (sh (sh A 50) 5) (D_house q42)] [wH cy (sh (sh A 50) 5) (D_house q42)] [[kdo A], wH cy (sh A 10) hn, wDo cy (sh A 50) q42, wH cy (sh (sh A 50) 5) (D_house q42)] [0, 1, 2, 3] [0, 1, 2, 3] ⟨(by simp only [wD_eq, List.flatten_cons, List.flatten_nil, List.append_nil, List.append_assoc, List.cons_append, List.nil_append]), (by simp only [wD_eq, List.flatten_cons, List.flatten_nil, List.append_nil, List.append_assoc, List.cons_append, List.nil_append]), (by simp only [wD_eq, List.flatten_cons, List.flatten_nil, List.append_nil, List.append_assoc, List.cons_append, List.nil_append]), (by simp only [wD_eq, List.flatten_cons, List.flatten_nil, List.append_nil, List.append_assoc, List.cons_append, List.nil_append]), rfl, (show List.Perm [0, 1, 2, 3] (List.range 4) from by decide), rfl, (show List.Perm [0, 1, 2, 3] (List.range 4) from by decide)⟩ rfl rfl (Nat.le_of_ble_eq_true rfl) ⟨by decide, by decide⟩ dX8_crowd_53 ?_
        exact r_iret hK (congrArg (fun z9 => z9.1) (Option.some.inj hf)) (congrArg (fun z9 => (kdo A :: (wH cy (sh A 10) hn ++ wD cy (sh A 50) z9.2))) (Option.some.inj hf)) dX8_crowd_56
      · have hf := o_neg c_3 hf
        refine r_bipush hc (-2 : Int32) dX8_crowd_23 rfl ?_
        exact r_iret hK (congrArg (fun z9 => z9.1) (Option.some.inj hf)) (congrArg (fun z9 => (kdo A :: (wH cy (sh A 10) hn ++ wD cy (sh A 50) z9.2))) (Option.some.inj hf)) dX8_crowd_25
  · have hf := o_pos c_1 hf
    refine r_iconst hc (-1 : Int32) dX8_crowd_11 rfl ?_
    exact r_iret hK (congrArg (fun z9 => z9.1) (Option.some.inj hf)) (congrArg (fun z9 => (kdo A :: (wH cy (sh A 10) hn ++ wD cy (sh A 50) z9.2))) (Option.some.inj hf)) dX8_crowd_12
