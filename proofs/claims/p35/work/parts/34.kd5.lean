def imgG (A : Nat → Nat) : Nat → Option Nat := va_up (va_up (fun _ => none) 0 (some (A 20))) 1 (some (A 30))
def X8_rests_J43 (hn : HS) (rs : TS) (x1 : Int32) (x2 : Int32) : Option (Int32 × TS) :=
  ((f_J6_bitCount_0f7a4 x1).bind fun q44 => (if q44 ≤ (6 : Int32) then ((f_X4_find rs hn x1).bind fun q64 => (if x2 = (-1 : Int32) then (some ((T_ways q64), q64)) else ((f_X4_roomOf q64 x2).bind fun q87 => (some (q87, q64))))) else (some ((-4 : Int32), rs))))
def f_X8_rests (hn : HS) (rs : TS) (x1 : Int32) (x2 : Int32) : Option (Int32 × TS) :=
  (if x1 < 0 then (some ((-2 : Int32), rs)) else (if (255 : Int32) < x1 then (some ((-2 : Int32), rs)) else (if (x1 &&& ((H_there hn) ^^^ (-1 : Int32))) = 0 then (if x2 = (-1 : Int32) then (X8_rests_J43 hn rs x1 x2) else ((f_X8_isIn x1 x2).bind fun q35 => (if q35 = 0 then (some ((-1 : Int32), rs)) else (X8_rests_J43 hn rs x1 x2)))) else (some ((-2 : Int32), rs)))))
theorem kv_X8_rests : KV RX8 yX8_rests cX8_rests 3 (some .int) 2 := ⟨mw_682, mw_683, mw_55, mw_684, by decide +kernel⟩
set_option maxHeartbeats 8000000 in
set_option maxRecDepth 100000 in
theorem c_X8_rests {l : Launch} {E : va_G} {cy : Nat → ClassId} (A : Nat → Nat) (hn : HS) (rs : TS) (x1 : Int32) (x2 : Int32) (q : Int32 × TS) (hf : f_X8_rests hn rs x1 x2 = some q) : Ci l yX8_rests cX8_rests 3 (some .int) 23 574 E cy [.ref (A 0), .int x1, .int x2] (kdo A :: (wH cy (sh A 10) hn ++ wT cy (sh A 80) rs)) q.1 (kdo A :: (wH cy (sh A 10) hn ++ wT cy (sh A 80) q.2)) := by
  refine Ci.of RX8 (by decide) rfl (Nat.le_of_ble_eq_true rfl) ?_
  intro K hK
  have hc := hK.cq
  have J43 : ∀ (rs : TS) (x1 : Int32) (x2 : Int32), X8_rests_J43  hn rs x1 x2 = some q → V K (kdo A :: (wH cy (sh A 10) hn ++ wT cy (sh A 80) rs)) 43 [(0, .ref (A 0)), (1, .int x1), (2, .int x2)] [] := by
    intro rs x1 x2 hf
    unfold X8_rests_J43 at hf
    refine r_iload_n hc 1 dX8_rests_43 rfl ?_
    obtain ⟨q44, hq44, hf⟩ := o_bind hf
    refine r_callSi (ws' := (kdo A :: (wH cy (sh A 10) hn ++ wT cy (sh A 80) rs))) (As := [.int x1]) (rest := []) hc (c_J6_bitCount_0f7a4  x1 q44 hq44) ks_J6_bitCount_0f7a4 mw_399 _ _ _ (Sp_none _) rfl rfl (Nat.le_of_ble_eq_true rfl) ⟨by decide, by decide⟩ dX8_rests_44 ?_
    refine r_bipush hc (6 : Int32) dX8_rests_47 rfl ?_
    refine r_icmp_le hc 55 dX8_rests_49 (by decide) (fun c_6 => ?_) (fun c_6 => ?_)
    · have hf := o_pos c_6 hf
      refine r_aload_n hc 0 dX8_rests_55 rfl ?_
      refine r_get (v := .ref ((sh A 80) 0)) hc iw_X8 0 rfl rfl 6 (by decide) mw_301 rfl dX8_rests_56 ?_
      refine r_aload_n hc 0 dX8_rests_59 rfl ?_
      refine r_get (v := .ref ((sh A 10) 0)) hc iw_X8 0 rfl rfl 0 (by decide) mw_295 rfl dX8_rests_60 ?_
      refine r_iload_n hc 1 dX8_rests_63 rfl ?_
      obtain ⟨q64, hq64, hf⟩ := o_bind hf
      refine r_callVBv (ws' := (kdo A :: (wH cy (sh A 10) hn ++ wT cy (sh A 80) q64))) (As := [.ref ((sh A 10) 0), .int x1]) (rest := []) hc (c_X4_find (sh A 80) (sh A 10) rs hn x1 q64 hq64) kv_X4_find mw_688 0 rfl rfl [[kdo A], wH cy (sh A 10) hn, wT cy (sh A 80) rs] [[kdo A]] [wT cy (sh A 80) rs, wH cy (sh A 10) hn] [wT cy (sh A 80) q64, wH cy (sh A 10) hn] [[kdo A], wH cy (sh A 10) hn, wT cy (sh A 80) q64] [0, 2, 1] [0, 2, 1] ⟨(by simp only [wD_eq, List.flatten_cons, List.flatten_nil, List.append_nil, List.append_assoc, List.cons_append, List.nil_append]), (by simp only [wD_eq, List.flatten_cons, List.flatten_nil, List.append_nil, List.append_assoc, List.cons_append, List.nil_append]), (by simp only [wD_eq, List.flatten_cons, List.flatten_nil, List.append_nil, List.append_assoc, List.cons_append, List.nil_append]), (by simp only [wD_eq, List.flatten_cons, List.flatten_nil, List.append_nil, List.append_assoc, List.cons_append, List.nil_append]), rfl, (show List.Perm [0, 2, 1] (List.range 3) from by decide), rfl, (show List.Perm [0, 2, 1] (List.range 3) from by decide)⟩ rfl rfl (Nat.le_of_ble_eq_true rfl) ⟨by decide, by decide⟩ dX8_rests_64 ?_
      refine r_iload_n hc 2 dX8_rests_67 rfl ?_
      refine r_iconst hc (-1 : Int32) dX8_rests_68 rfl ?_
      refine r_icmp_ne hc 82 dX8_rests_69 (by decide) (fun c_7 => ?_) (fun c_7 => ?_)
      · have hf := o_neg c_7 hf
        refine r_aload_n hc 0 dX8_rests_82 rfl ?_
        refine r_get (v := .ref ((sh A 80) 0)) hc iw_X8 0 rfl rfl 6 (by decide) mw_301 rfl dX8_rests_83 ?_
        refine r_iload_n hc 2 dX8_rests_86 rfl ?_
        obtain ⟨q87, hq87, hf⟩ := o_bind hf
        refine r_callVBi (ws' := (kdo A :: (wH cy (sh A 10) hn ++ wT cy (sh A 80) q64))) (As := [.int x2]) (rest := []) hc (c_X4_roomOf (sh A 80) q64 x2 q87 hq87) kv_X4_roomOf mw_724 0 rfl rfl [[kdo A], wH cy (sh A 10) hn, wT cy (sh A 80) q64] [[kdo A], wH cy (sh A 10) hn] [wT cy (sh A 80) q64] [wT cy (sh A 80) q64] [[kdo A], wH cy (sh A 10) hn, wT cy (sh A 80) q64] [0, 1, 2] [0, 1, 2] ⟨(by simp only [wD_eq, List.flatten_cons, List.flatten_nil, List.append_nil, List.append_assoc, List.cons_append, List.nil_append]), (by simp only [wD_eq, List.flatten_cons, List.flatten_nil, List.append_nil, List.append_assoc, List.cons_append, List.nil_append]), (by simp only [wD_eq, List.flatten_cons, List.flatten_nil, List.append_nil, List.append_assoc, List.cons_append, List.nil_append]), (by simp only [wD_eq, List.flatten_cons, List.flatten_nil, List.append_nil, List.append_assoc, List.cons_append, List.nil_append]), rfl, (show List.Perm [0, 1, 2] (List.range 3) from by decide), rfl, (show List.Perm [0, 1, 2] (List.range 3) from by decide)⟩ rfl rfl (Nat.le_of_ble_eq_true rfl) ⟨by decide, by decide⟩ dX8_rests_87 ?_
        exact r_iret hK (congrArg (fun z9 => z9.1) (Option.some.inj hf)) (congrArg (fun z9 => (kdo A :: (wH cy (sh A 10) hn ++ wT cy (sh A 80) z9.2))) (Option.some.inj hf)) dX8_rests_90
      · have hf := o_pos c_7 hf
        refine r_aload_n hc 0 dX8_rests_72 rfl ?_
        refine r_get (v := .ref ((sh A 80) 0)) hc iw_X8 0 rfl rfl 6 (by decide) mw_301 rfl dX8_rests_73 ?_
        refine r_get (v := .int (T_ways q64)) hc iw_X4 11 rfl rfl 0 (by decide) mw_209 rfl dX8_rests_76 ?_
        refine r_goto hc 90 dX8_rests_79 (by decide) ?_
        exact r_iret hK (congrArg (fun z9 => z9.1) (Option.some.inj hf)) (congrArg (fun z9 => (kdo A :: (wH cy (sh A 10) hn ++ wT cy (sh A 80) z9.2))) (Option.some.inj hf)) dX8_rests_90
    · have hf := o_neg c_6 hf
      refine r_bipush hc (-4 : Int32) dX8_rests_52 rfl ?_
      exact r_iret hK (congrArg (fun z9 => z9.1) (Option.some.inj hf)) (congrArg (fun z9 => (kdo A :: (wH cy (sh A 10) hn ++ wT cy (sh A 80) z9.2))) (Option.some.inj hf)) dX8_rests_54
  show V K (kdo A :: (wH cy (sh A 10) hn ++ wT cy (sh A 80) rs)) 0 [(0, .ref (A 0)), (1, .int x1), (2, .int x2)] []
  unfold f_X8_rests at hf
  refine r_iload_n hc 1 dX8_rests_0 rfl ?_
  refine r_if_lt hc 25 dX8_rests_1 (by decide) (fun c_1 => ?_) (fun c_1 => ?_)
  · have hf := o_pos c_1 hf
    refine r_bipush hc (-2 : Int32) dX8_rests_25 rfl ?_
    exact r_iret hK (congrArg (fun z9 => z9.1) (Option.some.inj hf)) (congrArg (fun z9 => (kdo A :: (wH cy (sh A 10) hn ++ wT cy (sh A 80) z9.2))) (Option.some.inj hf)) dX8_rests_27
  · have hf := o_neg c_1 hf
    refine r_iload_n hc 1 dX8_rests_4 rfl ?_
    refine r_sipush hc (255 : Int32) dX8_rests_5 rfl ?_
    refine r_icmp_gt hc 25 dX8_rests_8 (by decide) (fun c_2 => ?_) (fun c_2 => ?_)
    · have hf := o_pos c_2 hf
      refine r_bipush hc (-2 : Int32) dX8_rests_25 rfl ?_
      exact r_iret hK (congrArg (fun z9 => z9.1) (Option.some.inj hf)) (congrArg (fun z9 => (kdo A :: (wH cy (sh A 10) hn ++ wT cy (sh A 80) z9.2))) (Option.some.inj hf)) dX8_rests_27
    · have hf := o_neg c_2 hf
      refine r_iload_n hc 1 dX8_rests_11 rfl ?_
      refine r_aload_n hc 0 dX8_rests_12 rfl ?_
      refine r_get (v := .ref ((sh A 10) 0)) hc iw_X8 0 rfl rfl 0 (by decide) mw_295 rfl dX8_rests_13 ?_
      refine r_get (v := .int (H_there hn)) hc iw_X1 1 rfl rfl 1 (by decide) mw_90 rfl dX8_rests_16 ?_
      refine r_iconst hc (-1 : Int32) dX8_rests_19 rfl ?_
      refine r_ixor hc dX8_rests_20 ?_
      refine r_iand hc dX8_rests_21 ?_
      refine r_if_eq hc 28 dX8_rests_22 (by decide) (fun c_3 => ?_) (fun c_3 => ?_)
      · have hf := o_pos c_3 hf
        refine r_iload_n hc 2 dX8_rests_28 rfl ?_
        refine r_iconst hc (-1 : Int32) dX8_rests_29 rfl ?_
        refine r_icmp_eq hc 43 dX8_rests_30 (by decide) (fun c_4 => ?_) (fun c_4 => ?_)
        · have hf := o_pos c_4 hf
          exact V.sub [0, 1, 2] rfl (J43 rs x1 x2 hf)
        · have hf := o_neg c_4 hf
          refine r_iload_n hc 1 dX8_rests_33 rfl ?_
          refine r_iload_n hc 2 dX8_rests_34 rfl ?_
          obtain ⟨q35, hq35, hf⟩ := o_bind hf
          refine r_callSi (ws' := (kdo A :: (wH cy (sh A 10) hn ++ wT cy (sh A 80) rs))) (As := [.int x1, .int x2]) (rest := []) hc (c_X8_isIn  x1 x2 q35 hq35) ks_X8_isIn mw_685 _ _ _ (Sp_none _) rfl rfl (Nat.le_of_ble_eq_true rfl) ⟨by decide, by decide⟩ dX8_rests_35 ?_
          refine r_if_ne hc 43 dX8_rests_38 (by decide) (fun c_5 => ?_) (fun c_5 => ?_)
          · have hf := o_neg c_5 hf
            exact V.sub [0, 1, 2] rfl (J43 rs x1 x2 hf)
          · have hf := o_pos c_5 hf
            refine r_iconst hc (-1 : Int32) dX8_rests_41 rfl ?_
            exact r_iret hK (congrArg (fun z9 => z9.1) (Option.some.inj hf)) (congrArg (fun z9 => (kdo A :: (wH cy (sh A 10) hn ++ wT cy (sh A 80) z9.2))) (Option.some.inj hf)) dX8_rests_42
      · have hf := o_neg c_3 hf
        refine r_bipush hc (-2 : Int32) dX8_rests_25 rfl ?_
        exact r_iret hK (congrArg (fun z9 => z9.1) (Option.some.inj hf)) (congrArg (fun z9 => (kdo A :: (wH cy (sh A 10) hn ++ wT cy (sh A 80) z9.2))) (Option.some.inj hf)) dX8_rests_27
def f_X8_drunk (hn : HS) (sg : SS) (x1 : Int32) (x2 : Int32) (x3 : Int32) (x4 : Int32) (x5 : Int32) : Option (Int64 × SS) :=
  ((f_X1_isThere hn x1).bind fun q5 => (if q5 = 0 then (some ((-1000000000000000001 : Int64), sg)) else ((f_X1_isRoom hn x2).bind fun q16 => (if q16 = 0 then (some ((-1000000000000000001 : Int64), sg)) else (if x3 < 0 then (some ((-1000000000000000002 : Int64), sg)) else (if (10 : Int32) < x3 then (some ((-1000000000000000002 : Int64), sg)) else (if x4 < 0 then (some ((-1000000000000000002 : Int64), sg)) else (if (6 : Int32) < x4 then (some ((-1000000000000000002 : Int64), sg)) else (if x5 < 0 then (some ((-1000000000000000002 : Int64), sg)) else (if x5 ≤ (1 : Int32) then ((f_X6_walk sg hn x1 x3 x4).bind fun q75 => (if x5 = 0 then ((f_X6_upper q75 x2).bind fun q88 => (some (q88, q75))) else ((f_X6_lower q75 x2).bind fun q99 => (some (q99, q75))))) else (some ((-1000000000000000002 : Int64), sg))))))))))))
theorem kv_X8_drunk : KV RX8 yX8_drunk cX8_drunk 6 (some .long) 5 := ⟨mw_786, mw_787, mw_55, mw_788, by decide +kernel⟩
set_option maxHeartbeats 8000000 in
set_option maxRecDepth 100000 in
theorem c_X8_drunk {l : Launch} {E : va_G} {cy : Nat → ClassId} (A : Nat → Nat) (hn : HS) (sg : SS) (x1 : Int32) (x2 : Int32) (x3 : Int32) (x4 : Int32) (x5 : Int32) (q : Int64 × SS) (hf : f_X8_drunk hn sg x1 x2 x3 x4 x5 = some q) : Cl l yX8_drunk cX8_drunk 6 (some .long) 4 133 E cy [.ref (A 0), .int x1, .int x2, .int x3, .int x4, .int x5] (kdo A :: (wH cy (sh A 10) hn ++ wS cy (sh A 100) sg)) q.1 (kdo A :: (wH cy (sh A 10) hn ++ wS cy (sh A 100) q.2)) := by
  refine Cl.of RX8 (by decide) rfl (Nat.le_of_ble_eq_true rfl) ?_
  intro K hK
  have hc := hK.cq
  show V K (kdo A :: (wH cy (sh A 10) hn ++ wS cy (sh A 100) sg)) 0 [(0, .ref (A 0)), (1, .int x1), (2, .int x2), (3, .int x3), (4, .int x4), (5, .int x5)] []
  unfold f_X8_drunk at hf
  refine r_aload_n hc 0 dX8_drunk_0 rfl ?_
  refine r_get (v := .ref ((sh A 10) 0)) hc iw_X8 0 rfl rfl 0 (by decide) mw_295 rfl dX8_drunk_1 ?_
  refine r_iload_n hc 1 dX8_drunk_4 rfl ?_
  obtain ⟨q5, hq5, hf⟩ := o_bind hf
  refine r_callVi (ws' := (kdo A :: (wH cy (sh A 10) hn ++ wS cy (sh A 100) sg))) (As := [.int x1]) (rest := []) hc (c_X1_isThere (sh A 10) hn x1 q5 hq5) kv_X1_isThere mw_404 0 rfl rfl [1, 2, 3, 4, 5, 6, 7, 8, 9, 10] [0, 11, 12, 13] [0, 4, 5, 6, 7, 8, 9, 10, 11, 12, 13, 1, 2, 3] ⟨rfl, rfl, rfl, rfl, rfl, rfl, rfl⟩ rfl rfl (Nat.le_of_ble_eq_true rfl) ⟨by decide, by decide⟩ dX8_drunk_5 ?_
  refine r_if_eq hc 22 dX8_drunk_8 (by decide) (fun c_1 => ?_) (fun c_1 => ?_)
  · have hf := o_pos c_1 hf
    refine r_ldc2 (v := (-1000000000000000001 : Int64)) hc mw_789 dX8_drunk_22 ?_
    exact r_lret hK (congrArg (fun z9 => z9.1) (Option.some.inj hf)) (congrArg (fun z9 => (kdo A :: (wH cy (sh A 10) hn ++ wS cy (sh A 100) z9.2))) (Option.some.inj hf)) dX8_drunk_25
  · have hf := o_neg c_1 hf
    refine r_aload_n hc 0 dX8_drunk_11 rfl ?_
    refine r_get (v := .ref ((sh A 10) 0)) hc iw_X8 0 rfl rfl 0 (by decide) mw_295 rfl dX8_drunk_12 ?_
    refine r_iload_n hc 2 dX8_drunk_15 rfl ?_
    obtain ⟨q16, hq16, hf⟩ := o_bind hf
    refine r_callVi (ws' := (kdo A :: (wH cy (sh A 10) hn ++ wS cy (sh A 100) sg))) (As := [.int x2]) (rest := []) hc (c_X1_isRoom (sh A 10) hn x2 q16 hq16) kv_X1_isRoom mw_337 0 rfl rfl [1, 2, 3, 4, 5, 6, 7, 8, 9, 10] [0, 11, 12, 13] [0, 4, 5, 6, 7, 8, 9, 10, 11, 12, 13, 1, 2, 3] ⟨rfl, rfl, rfl, rfl, rfl, rfl, rfl⟩ rfl rfl (Nat.le_of_ble_eq_true rfl) ⟨by decide, by decide⟩ dX8_drunk_16 ?_
    refine r_if_ne hc 26 dX8_drunk_19 (by decide) (fun c_2 => ?_) (fun c_2 => ?_)
    · have hf := o_neg c_2 hf
      refine r_iload_n hc 3 dX8_drunk_26 rfl ?_
      refine r_if_lt hc 59 dX8_drunk_27 (by decide) (fun c_3 => ?_) (fun c_3 => ?_)
      · have hf := o_pos c_3 hf
        refine r_ldc2 (v := (-1000000000000000002 : Int64)) hc mw_790 dX8_drunk_59 ?_
        exact r_lret hK (congrArg (fun z9 => z9.1) (Option.some.inj hf)) (congrArg (fun z9 => (kdo A :: (wH cy (sh A 10) hn ++ wS cy (sh A 100) z9.2))) (Option.some.inj hf)) dX8_drunk_62
      · have hf := o_neg c_3 hf
        refine r_iload_n hc 3 dX8_drunk_30 rfl ?_
        refine r_bipush hc (10 : Int32) dX8_drunk_31 rfl ?_
        refine r_icmp_gt hc 59 dX8_drunk_33 (by decide) (fun c_4 => ?_) (fun c_4 => ?_)
        · have hf := o_pos c_4 hf
          refine r_ldc2 (v := (-1000000000000000002 : Int64)) hc mw_790 dX8_drunk_59 ?_
          exact r_lret hK (congrArg (fun z9 => z9.1) (Option.some.inj hf)) (congrArg (fun z9 => (kdo A :: (wH cy (sh A 10) hn ++ wS cy (sh A 100) z9.2))) (Option.some.inj hf)) dX8_drunk_62
        · have hf := o_neg c_4 hf
          refine r_iload hc 4 dX8_drunk_36 rfl ?_
          refine r_if_lt hc 59 dX8_drunk_38 (by decide) (fun c_5 => ?_) (fun c_5 => ?_)
          · have hf := o_pos c_5 hf
            refine r_ldc2 (v := (-1000000000000000002 : Int64)) hc mw_790 dX8_drunk_59 ?_
            exact r_lret hK (congrArg (fun z9 => z9.1) (Option.some.inj hf)) (congrArg (fun z9 => (kdo A :: (wH cy (sh A 10) hn ++ wS cy (sh A 100) z9.2))) (Option.some.inj hf)) dX8_drunk_62
          · have hf := o_neg c_5 hf
            refine r_iload hc 4 dX8_drunk_41 rfl ?_
            refine r_bipush hc (6 : Int32) dX8_drunk_43 rfl ?_
            refine r_icmp_gt hc 59 dX8_drunk_45 (by decide) (fun c_6 => ?_) (fun c_6 => ?_)
            · have hf := o_pos c_6 hf
              refine r_ldc2 (v := (-1000000000000000002 : Int64)) hc mw_790 dX8_drunk_59 ?_
              exact r_lret hK (congrArg (fun z9 => z9.1) (Option.some.inj hf)) (congrArg (fun z9 => (kdo A :: (wH cy (sh A 10) hn ++ wS cy (sh A 100) z9.2))) (Option.some.inj hf)) dX8_drunk_62
            · have hf := o_neg c_6 hf
              refine r_iload hc 5 dX8_drunk_48 rfl ?_
              refine r_if_lt hc 59 dX8_drunk_50 (by decide) (fun c_7 => ?_) (fun c_7 => ?_)
              · have hf := o_pos c_7 hf
                refine r_ldc2 (v := (-1000000000000000002 : Int64)) hc mw_790 dX8_drunk_59 ?_
                exact r_lret hK (congrArg (fun z9 => z9.1) (Option.some.inj hf)) (congrArg (fun z9 => (kdo A :: (wH cy (sh A 10) hn ++ wS cy (sh A 100) z9.2))) (Option.some.inj hf)) dX8_drunk_62
              · have hf := o_neg c_7 hf
                refine r_iload hc 5 dX8_drunk_53 rfl ?_
                refine r_iconst hc (1 : Int32) dX8_drunk_55 rfl ?_
                refine r_icmp_le hc 63 dX8_drunk_56 (by decide) (fun c_8 => ?_) (fun c_8 => ?_)
                · have hf := o_pos c_8 hf
                  refine r_aload_n hc 0 dX8_drunk_63 rfl ?_
                  refine r_get (v := .ref ((sh A 100) 0)) hc iw_X8 0 rfl rfl 8 (by decide) mw_303 rfl dX8_drunk_64 ?_
                  refine r_aload_n hc 0 dX8_drunk_67 rfl ?_
                  refine r_get (v := .ref ((sh A 10) 0)) hc iw_X8 0 rfl rfl 0 (by decide) mw_295 rfl dX8_drunk_68 ?_
                  refine r_iload_n hc 1 dX8_drunk_71 rfl ?_
                  refine r_iload_n hc 3 dX8_drunk_72 rfl ?_
                  refine r_iload hc 4 dX8_drunk_73 rfl ?_
                  obtain ⟨q75, hq75, hf⟩ := o_bind hf
                  refine r_callVv (ws' := (kdo A :: (wH cy (sh A 10) hn ++ wS cy (sh A 100) q75))) (As := [.ref ((sh A 10) 0), .int x1, .int x3, .int x4]) (rest := []) hc (c_X6_walk (sh A 100) (sh A 10) sg hn x1 x3 x4 q75 hq75) kv_X6_walk mw_791 0 rfl rfl [11, 12, 13, 1, 2, 3, 4, 5, 6, 7, 8, 9, 10] [0] [0, 4, 5, 6, 7, 8, 9, 10, 11, 12, 13, 1, 2, 3] ⟨rfl, rfl, rfl, rfl, rfl, rfl, rfl⟩ rfl rfl (Nat.le_of_ble_eq_true rfl) ⟨by decide, by decide⟩ dX8_drunk_75 ?_
                  refine r_iload hc 5 dX8_drunk_78 rfl ?_
                  refine r_if_ne hc 94 dX8_drunk_80 (by decide) (fun c_9 => ?_) (fun c_9 => ?_)
                  · have hf := o_neg c_9 hf
                    refine r_aload_n hc 0 dX8_drunk_94 rfl ?_
                    refine r_get (v := .ref ((sh A 100) 0)) hc iw_X8 0 rfl rfl 8 (by decide) mw_303 rfl dX8_drunk_95 ?_
                    refine r_iload_n hc 2 dX8_drunk_98 rfl ?_
                    obtain ⟨q99, hq99, hf⟩ := o_bind hf
                    refine r_callVl (ws' := (kdo A :: (wH cy (sh A 10) hn ++ wS cy (sh A 100) q75))) (As := [.int x2]) (rest := []) hc (c_X6_lower (sh A 100) q75 x2 q99 hq99) kv_X6_lower mw_814 0 rfl rfl [11, 12, 13] [0, 1, 2, 3, 4, 5, 6, 7, 8, 9, 10] [0, 1, 2, 3, 4, 5, 6, 7, 8, 9, 10, 11, 12, 13] ⟨rfl, rfl, rfl, rfl, rfl, rfl, rfl⟩ rfl rfl (Nat.le_of_ble_eq_true rfl) ⟨by decide, by decide⟩ dX8_drunk_99 ?_
                    exact r_lret hK (congrArg (fun z9 => z9.1) (Option.some.inj hf)) (congrArg (fun z9 => (kdo A :: (wH cy (sh A 10) hn ++ wS cy (sh A 100) z9.2))) (Option.some.inj hf)) dX8_drunk_102
                  · have hf := o_pos c_9 hf
                    refine r_aload_n hc 0 dX8_drunk_83 rfl ?_
                    refine r_get (v := .ref ((sh A 100) 0)) hc iw_X8 0 rfl rfl 8 (by decide) mw_303 rfl dX8_drunk_84 ?_
                    refine r_iload_n hc 2 dX8_drunk_87 rfl ?_
                    obtain ⟨q88, hq88, hf⟩ := o_bind hf
                    refine r_callVl (ws' := (kdo A :: (wH cy (sh A 10) hn ++ wS cy (sh A 100) q75))) (As := [.int x2]) (rest := []) hc (c_X6_upper (sh A 100) q75 x2 q88 hq88) kv_X6_upper mw_806 0 rfl rfl [11, 12, 13] [0, 1, 2, 3, 4, 5, 6, 7, 8, 9, 10] [0, 1, 2, 3, 4, 5, 6, 7, 8, 9, 10, 11, 12, 13] ⟨rfl, rfl, rfl, rfl, rfl, rfl, rfl⟩ rfl rfl (Nat.le_of_ble_eq_true rfl) ⟨by decide, by decide⟩ dX8_drunk_88 ?_
                    refine r_goto hc 102 dX8_drunk_91 (by decide) ?_
                    exact r_lret hK (congrArg (fun z9 => z9.1) (Option.some.inj hf)) (congrArg (fun z9 => (kdo A :: (wH cy (sh A 10) hn ++ wS cy (sh A 100) z9.2))) (Option.some.inj hf)) dX8_drunk_102
                · have hf := o_neg c_8 hf
                  refine r_ldc2 (v := (-1000000000000000002 : Int64)) hc mw_790 dX8_drunk_59 ?_
                  exact r_lret hK (congrArg (fun z9 => z9.1) (Option.some.inj hf)) (congrArg (fun z9 => (kdo A :: (wH cy (sh A 10) hn ++ wS cy (sh A 100) z9.2))) (Option.some.inj hf)) dX8_drunk_62
    · have hf := o_pos c_2 hf
      refine r_ldc2 (v := (-1000000000000000001 : Int64)) hc mw_789 dX8_drunk_22 ?_
      exact r_lret hK (congrArg (fun z9 => z9.1) (Option.some.inj hf)) (congrArg (fun z9 => (kdo A :: (wH cy (sh A 10) hn ++ wS cy (sh A 100) z9.2))) (Option.some.inj hf)) dX8_drunk_25
def f_X8_image (hn : HS) (kp : (Nat → Int32)) (i0 : HS) (i1 : HS) (x1 : Int32) : Option (Int32 × (Nat → Int32) × HS × HS) :=
  (if x1 < 0 then (some ((-2 : Int32), kp, i0, i1)) else (if x1 < (2 : Int32) then (chk x1 2 (if x1 = 0 then ((f_X1_copy i0 hn).bind fun q22 => (chk x1 2 (ltA (upd kp (x1).toNatClampNeg (vp_nar .boolean (1 : Int32))) fun f31 => (some ((1 : Int32), f31, q22, i1))))) else ((f_X1_copy i1 hn).bind fun q22 => (chk x1 2 (ltA (upd kp (x1).toNatClampNeg (vp_nar .boolean (1 : Int32))) fun f31 => (some ((1 : Int32), f31, i0, q22))))))) else (some ((-2 : Int32), kp, i0, i1))))
theorem kv_X8_image : KV RX8 yX8_image cX8_image 2 (some .int) 1 := ⟨mw_835, mw_836, mw_55, mw_837, by decide +kernel⟩
set_option maxHeartbeats 8000000 in
set_option maxRecDepth 100000 in
theorem c_X8_image {l : Launch} {E : va_G} {cy : Nat → ClassId} (A : Nat → Nat) (hn : HS) (kp : (Nat → Int32)) (i0 : HS) (i1 : HS) (x1 : Int32) (q : Int32 × (Nat → Int32) × HS × HS) (hf : f_X8_image hn kp i0 i1 x1 = some q) : Ci l yX8_image cX8_image 2 (some .int) 2 81 E cy [.ref (A 0), .int x1] (kdo A :: (wH cy (sh A 10) hn ++ [(A 2, .inl (cy 2, 2, .inl kp))] ++ [(A 1, .inl (cy 3, 2, .inr (.inr (.inr (.inr (imgG A))))))] ++ wH cy (sh A 20) i0 ++ wH cy (sh A 30) i1)) q.1 (kdo A :: (wH cy (sh A 10) hn ++ [(A 2, .inl (cy 2, 2, .inl q.2.1))] ++ [(A 1, .inl (cy 3, 2, .inr (.inr (.inr (.inr (imgG A))))))] ++ wH cy (sh A 20) q.2.2.1 ++ wH cy (sh A 30) q.2.2.2)) := by
  refine Ci.of RX8 (by decide) rfl (Nat.le_of_ble_eq_true rfl) ?_
  intro K hK
  have hc := hK.cq
  show V K (kdo A :: (wH cy (sh A 10) hn ++ [(A 2, .inl (cy 2, 2, .inl kp))] ++ [(A 1, .inl (cy 3, 2, .inr (.inr (.inr (.inr (imgG A))))))] ++ wH cy (sh A 20) i0 ++ wH cy (sh A 30) i1)) 0 [(0, .ref (A 0)), (1, .int x1)] []
  unfold f_X8_image at hf
  refine r_iload_n hc 1 dX8_image_0 rfl ?_
  refine r_if_lt hc 9 dX8_image_1 (by decide) (fun c_1 => ?_) (fun c_1 => ?_)
  · have hf := o_pos c_1 hf
    refine r_bipush hc (-2 : Int32) dX8_image_9 rfl ?_
    exact r_iret hK (congrArg (fun z9 => z9.1) (Option.some.inj hf)) (congrArg (fun z9 => (kdo A :: (wH cy (sh A 10) hn ++ [(A 2, .inl (cy 2, 2, .inl z9.2.1))] ++ [(A 1, .inl (cy 3, 2, .inr (.inr (.inr (.inr (imgG A))))))] ++ wH cy (sh A 20) z9.2.2.1 ++ wH cy (sh A 30) z9.2.2.2))) (Option.some.inj hf)) dX8_image_11
  · have hf := o_neg c_1 hf
    refine r_iload_n hc 1 dX8_image_4 rfl ?_
    refine r_iconst hc (2 : Int32) dX8_image_5 rfl ?_
    refine r_icmp_lt hc 12 dX8_image_6 (by decide) (fun c_2 => ?_) (fun c_2 => ?_)
    · have hf := o_pos c_2 hf
      refine r_aload_n hc 0 dX8_image_12 rfl ?_
      refine r_get (v := .ref (A 1)) hc iw_X8 0 rfl rfl 1 (by decide) mw_296 rfl dX8_image_13 ?_
      refine r_iload_n hc 1 dX8_image_16 rfl ?_
      obtain ⟨i_3, hf⟩ := chk_some hf
      refine r_rald (f := imgG A) hc 12 rfl i_3 dX8_image_17 ?_
      by_cases c_3 : x1 = 0
      · have hf := o_pos c_3 hf
        refine V.eqs (st' := .ref (sh A 20 0) :: []) (by rw [c_3]; rfl) ?_
        refine r_aload_n hc 0 dX8_image_18 rfl ?_
        refine r_get (v := .ref ((sh A 10) 0)) hc iw_X8 0 rfl rfl 0 (by decide) mw_295 rfl dX8_image_19 ?_
        obtain ⟨q22, hq22, hf⟩ := o_bind hf
        refine r_callVBv (ws' := (kdo A :: (wH cy (sh A 10) hn ++ [(A 2, .inl (cy 2, 2, .inl kp))] ++ [(A 1, .inl (cy 3, 2, .inr (.inr (.inr (.inr (imgG A))))))] ++ wH cy (sh A 20) q22 ++ wH cy (sh A 30) i1))) (As := [.ref ((sh A 10) 0)]) (rest := []) hc (c_X1_copy (sh A 20) (sh A 10) i0 hn q22 hq22) kv_X1_copy mw_569 0 rfl rfl [[kdo A], wH cy (sh A 10) hn, [(A 2, .inl (cy 2, 2, .inl kp))], [(A 1, .inl (cy 3, 2, .inr (.inr (.inr (.inr (imgG A))))))], wH cy (sh A 20) i0, wH cy (sh A 30) i1] [[kdo A], [(A 2, .inl (cy 2, 2, .inl kp))], [(A 1, .inl (cy 3, 2, .inr (.inr (.inr (.inr (imgG A))))))], wH cy (sh A 30) i1] [wH cy (sh A 20) i0, wH cy (sh A 10) hn] [wH cy (sh A 20) q22, wH cy (sh A 10) hn] [[kdo A], wH cy (sh A 10) hn, [(A 2, .inl (cy 2, 2, .inl kp))], [(A 1, .inl (cy 3, 2, .inr (.inr (.inr (.inr (imgG A))))))], wH cy (sh A 20) q22, wH cy (sh A 30) i1] [0, 2, 3, 5, 4, 1] [0, 5, 1, 2, 4, 3] ⟨(by simp only [wD_eq, List.flatten_cons, List.flatten_nil, List.append_nil, List.append_assoc, List.cons_append, List.nil_append]), (by simp only [wD_eq, List.flatten_cons, List.flatten_nil, List.append_nil, List.append_assoc, List.cons_append, List.nil_append]), (by simp only [wD_eq, List.flatten_cons, List.flatten_nil, List.append_nil, List.append_assoc, List.cons_append, List.nil_append]), (by simp only [wD_eq, List.flatten_cons, List.flatten_nil, List.append_nil, List.append_assoc, List.cons_append, List.nil_append]), rfl, (show List.Perm [0, 2, 3, 5, 4, 1] (List.range 6) from by decide), rfl, (show List.Perm [0, 5, 1, 2, 4, 3] (List.range 6) from by decide)⟩ rfl rfl (Nat.le_of_ble_eq_true rfl) ⟨by decide, by decide⟩ dX8_image_22 ?_
        refine r_aload_n hc 0 dX8_image_25 rfl ?_
        refine r_get (v := .ref (A 2)) hc iw_X8 0 rfl rfl 2 (by decide) mw_297 rfl dX8_image_26 ?_
        refine r_iload_n hc 1 dX8_image_29 rfl ?_
        refine r_iconst hc (1 : Int32) dX8_image_30 rfl ?_
        obtain ⟨i_4, hf⟩ := chk_some hf
        obtain ⟨f31, ef31, hf⟩ := lt_some hf
        refine r_zast (f := kp) hc 11 rfl i_4 dX8_image_31 f31 ef31 (kdo A :: (wH cy (sh A 10) hn ++ [(A 2, .inl (cy 2, 2, .inl f31))] ++ [(A 1, .inl (cy 3, 2, .inr (.inr (.inr (.inr (imgG A))))))] ++ wH cy (sh A 20) q22 ++ wH cy (sh A 30) i1)) rfl ?_
        refine r_iconst hc (1 : Int32) dX8_image_32 rfl ?_
        exact r_iret hK (congrArg (fun z9 => z9.1) (Option.some.inj hf)) (congrArg (fun z9 => (kdo A :: (wH cy (sh A 10) hn ++ [(A 2, .inl (cy 2, 2, .inl z9.2.1))] ++ [(A 1, .inl (cy 3, 2, .inr (.inr (.inr (.inr (imgG A))))))] ++ wH cy (sh A 20) z9.2.2.1 ++ wH cy (sh A 30) z9.2.2.2))) (Option.some.inj hf)) dX8_image_33
      · have hf := o_neg c_3 hf
        refine V.eqs (st' := .ref (sh A 30 0) :: []) (by rw [img_1 i_3 c_3]; rfl) ?_
        refine r_aload_n hc 0 dX8_image_18 rfl ?_
        refine r_get (v := .ref ((sh A 10) 0)) hc iw_X8 0 rfl rfl 0 (by decide) mw_295 rfl dX8_image_19 ?_
        obtain ⟨q22, hq22, hf⟩ := o_bind hf
        refine r_callVBv (ws' := (kdo A :: (wH cy (sh A 10) hn ++ [(A 2, .inl (cy 2, 2, .inl kp))] ++ [(A 1, .inl (cy 3, 2, .inr (.inr (.inr (.inr (imgG A))))))] ++ wH cy (sh A 20) i0 ++ wH cy (sh A 30) q22))) (As := [.ref ((sh A 10) 0)]) (rest := []) hc (c_X1_copy (sh A 30) (sh A 10) i1 hn q22 hq22) kv_X1_copy mw_569 0 rfl rfl [[kdo A], wH cy (sh A 10) hn, [(A 2, .inl (cy 2, 2, .inl kp))], [(A 1, .inl (cy 3, 2, .inr (.inr (.inr (.inr (imgG A))))))], wH cy (sh A 20) i0, wH cy (sh A 30) i1] [[kdo A], [(A 2, .inl (cy 2, 2, .inl kp))], [(A 1, .inl (cy 3, 2, .inr (.inr (.inr (.inr (imgG A))))))], wH cy (sh A 20) i0] [wH cy (sh A 30) i1, wH cy (sh A 10) hn] [wH cy (sh A 30) q22, wH cy (sh A 10) hn] [[kdo A], wH cy (sh A 10) hn, [(A 2, .inl (cy 2, 2, .inl kp))], [(A 1, .inl (cy 3, 2, .inr (.inr (.inr (.inr (imgG A))))))], wH cy (sh A 20) i0, wH cy (sh A 30) q22] [0, 2, 3, 4, 5, 1] [0, 5, 1, 2, 3, 4] ⟨(by simp only [wD_eq, List.flatten_cons, List.flatten_nil, List.append_nil, List.append_assoc, List.cons_append, List.nil_append]), (by simp only [wD_eq, List.flatten_cons, List.flatten_nil, List.append_nil, List.append_assoc, List.cons_append, List.nil_append]), (by simp only [wD_eq, List.flatten_cons, List.flatten_nil, List.append_nil, List.append_assoc, List.cons_append, List.nil_append]), (by simp only [wD_eq, List.flatten_cons, List.flatten_nil, List.append_nil, List.append_assoc, List.cons_append, List.nil_append]), rfl, (show List.Perm [0, 2, 3, 4, 5, 1] (List.range 6) from by decide), rfl, (show List.Perm [0, 5, 1, 2, 3, 4] (List.range 6) from by decide)⟩ rfl rfl (Nat.le_of_ble_eq_true rfl) ⟨by decide, by decide⟩ dX8_image_22 ?_
        refine r_aload_n hc 0 dX8_image_25 rfl ?_
        refine r_get (v := .ref (A 2)) hc iw_X8 0 rfl rfl 2 (by decide) mw_297 rfl dX8_image_26 ?_
        refine r_iload_n hc 1 dX8_image_29 rfl ?_
        refine r_iconst hc (1 : Int32) dX8_image_30 rfl ?_
        obtain ⟨i_5, hf⟩ := chk_some hf
        obtain ⟨f31, ef31, hf⟩ := lt_some hf
        refine r_zast (f := kp) hc 11 rfl i_5 dX8_image_31 f31 ef31 (kdo A :: (wH cy (sh A 10) hn ++ [(A 2, .inl (cy 2, 2, .inl f31))] ++ [(A 1, .inl (cy 3, 2, .inr (.inr (.inr (.inr (imgG A))))))] ++ wH cy (sh A 20) i0 ++ wH cy (sh A 30) q22)) rfl ?_
        refine r_iconst hc (1 : Int32) dX8_image_32 rfl ?_
        exact r_iret hK (congrArg (fun z9 => z9.1) (Option.some.inj hf)) (congrArg (fun z9 => (kdo A :: (wH cy (sh A 10) hn ++ [(A 2, .inl (cy 2, 2, .inl z9.2.1))] ++ [(A 1, .inl (cy 3, 2, .inr (.inr (.inr (.inr (imgG A))))))] ++ wH cy (sh A 20) z9.2.2.1 ++ wH cy (sh A 30) z9.2.2.2))) (Option.some.inj hf)) dX8_image_33
    · have hf := o_neg c_2 hf
      refine r_bipush hc (-2 : Int32) dX8_image_9 rfl ?_
      exact r_iret hK (congrArg (fun z9 => z9.1) (Option.some.inj hf)) (congrArg (fun z9 => (kdo A :: (wH cy (sh A 10) hn ++ [(A 2, .inl (cy 2, 2, .inl z9.2.1))] ++ [(A 1, .inl (cy 3, 2, .inr (.inr (.inr (.inr (imgG A))))))] ++ wH cy (sh A 20) z9.2.2.1 ++ wH cy (sh A 30) z9.2.2.2))) (Option.some.inj hf)) dX8_image_11
def f_X8_restore (hn : HS) (kp : (Nat → Int32)) (i0 : HS) (i1 : HS) (x1 : Int32) : Option (Int32 × HS) :=
  (if x1 < 0 then (some ((-2 : Int32), hn)) else (if x1 < (2 : Int32) then (chk x1 2 (if (kp (x1).toNatClampNeg) = 0 then (some ((-3 : Int32), hn)) else (chk x1 2 (if x1 = 0 then ((f_X1_copy hn i0).bind fun q34 => (some ((1 : Int32), q34))) else ((f_X1_copy hn i1).bind fun q34 => (some ((1 : Int32), q34))))))) else (some ((-2 : Int32), hn))))
theorem kv_X8_restore : KV RX8 yX8_restore cX8_restore 2 (some .int) 1 := ⟨mw_839, mw_840, mw_55, mw_841, by decide +kernel⟩
set_option maxHeartbeats 8000000 in
set_option maxRecDepth 100000 in
theorem c_X8_restore {l : Launch} {E : va_G} {cy : Nat → ClassId} (A : Nat → Nat) (hn : HS) (kp : (Nat → Int32)) (i0 : HS) (i1 : HS) (x1 : Int32) (q : Int32 × HS) (hf : f_X8_restore hn kp i0 i1 x1 = some q) : Ci l yX8_restore cX8_restore 2 (some .int) 2 81 E cy [.ref (A 0), .int x1] (kdo A :: (wH cy (sh A 10) hn ++ [(A 2, .inl (cy 2, 2, .inl kp))] ++ [(A 1, .inl (cy 3, 2, .inr (.inr (.inr (.inr (imgG A))))))] ++ wH cy (sh A 20) i0 ++ wH cy (sh A 30) i1)) q.1 (kdo A :: (wH cy (sh A 10) q.2 ++ [(A 2, .inl (cy 2, 2, .inl kp))] ++ [(A 1, .inl (cy 3, 2, .inr (.inr (.inr (.inr (imgG A))))))] ++ wH cy (sh A 20) i0 ++ wH cy (sh A 30) i1)) := by
  refine Ci.of RX8 (by decide) rfl (Nat.le_of_ble_eq_true rfl) ?_
  intro K hK
  have hc := hK.cq
  show V K (kdo A :: (wH cy (sh A 10) hn ++ [(A 2, .inl (cy 2, 2, .inl kp))] ++ [(A 1, .inl (cy 3, 2, .inr (.inr (.inr (.inr (imgG A))))))] ++ wH cy (sh A 20) i0 ++ wH cy (sh A 30) i1)) 0 [(0, .ref (A 0)), (1, .int x1)] []
  unfold f_X8_restore at hf
  refine r_iload_n hc 1 dX8_restore_0 rfl ?_
  refine r_if_lt hc 9 dX8_restore_1 (by decide) (fun c_1 => ?_) (fun c_1 => ?_)
  · have hf := o_pos c_1 hf
    refine r_bipush hc (-2 : Int32) dX8_restore_9 rfl ?_
    exact r_iret hK (congrArg (fun z9 => z9.1) (Option.some.inj hf)) (congrArg (fun z9 => (kdo A :: (wH cy (sh A 10) z9.2 ++ [(A 2, .inl (cy 2, 2, .inl kp))] ++ [(A 1, .inl (cy 3, 2, .inr (.inr (.inr (.inr (imgG A))))))] ++ wH cy (sh A 20) i0 ++ wH cy (sh A 30) i1))) (Option.some.inj hf)) dX8_restore_11
  · have hf := o_neg c_1 hf
    refine r_iload_n hc 1 dX8_restore_4 rfl ?_
    refine r_iconst hc (2 : Int32) dX8_restore_5 rfl ?_
    refine r_icmp_lt hc 12 dX8_restore_6 (by decide) (fun c_2 => ?_) (fun c_2 => ?_)
    · have hf := o_pos c_2 hf
      refine r_aload_n hc 0 dX8_restore_12 rfl ?_
      refine r_get (v := .ref (A 2)) hc iw_X8 0 rfl rfl 2 (by decide) mw_297 rfl dX8_restore_13 ?_
      refine r_iload_n hc 1 dX8_restore_16 rfl ?_
      obtain ⟨i_3, hf⟩ := chk_some hf
      refine r_zald (f := kp) hc 11 rfl i_3 dX8_restore_17 ?_
      refine r_if_ne hc 24 dX8_restore_18 (by decide) (fun c_4 => ?_) (fun c_4 => ?_)
      · have hf := o_neg c_4 hf
        refine r_aload_n hc 0 dX8_restore_24 rfl ?_
        refine r_get (v := .ref ((sh A 10) 0)) hc iw_X8 0 rfl rfl 0 (by decide) mw_295 rfl dX8_restore_25 ?_
        refine r_aload_n hc 0 dX8_restore_28 rfl ?_
        refine r_get (v := .ref (A 1)) hc iw_X8 0 rfl rfl 1 (by decide) mw_296 rfl dX8_restore_29 ?_
        refine r_iload_n hc 1 dX8_restore_32 rfl ?_
        obtain ⟨i_5, hf⟩ := chk_some hf
        refine r_rald (f := imgG A) hc 12 rfl i_5 dX8_restore_33 ?_
        by_cases c_5 : x1 = 0
        · have hf := o_pos c_5 hf
          refine V.eqs (st' := .ref (sh A 20 0) :: [.ref ((sh A 10) 0)]) (by rw [c_5]; rfl) ?_
          obtain ⟨q34, hq34, hf⟩ := o_bind hf
          refine r_callVBv (ws' := (kdo A :: (wH cy (sh A 10) q34 ++ [(A 2, .inl (cy 2, 2, .inl kp))] ++ [(A 1, .inl (cy 3, 2, .inr (.inr (.inr (.inr (imgG A))))))] ++ wH cy (sh A 20) i0 ++ wH cy (sh A 30) i1))) (As := [.ref ((sh A 20) 0)]) (rest := []) hc (c_X1_copy (sh A 10) (sh A 20) hn i0 q34 hq34) kv_X1_copy mw_569 0 rfl rfl [[kdo A], wH cy (sh A 10) hn, [(A 2, .inl (cy 2, 2, .inl kp))], [(A 1, .inl (cy 3, 2, .inr (.inr (.inr (.inr (imgG A))))))], wH cy (sh A 20) i0, wH cy (sh A 30) i1] [[kdo A], [(A 2, .inl (cy 2, 2, .inl kp))], [(A 1, .inl (cy 3, 2, .inr (.inr (.inr (.inr (imgG A))))))], wH cy (sh A 30) i1] [wH cy (sh A 10) hn, wH cy (sh A 20) i0] [wH cy (sh A 10) q34, wH cy (sh A 20) i0] [[kdo A], wH cy (sh A 10) q34, [(A 2, .inl (cy 2, 2, .inl kp))], [(A 1, .inl (cy 3, 2, .inr (.inr (.inr (.inr (imgG A))))))], wH cy (sh A 20) i0, wH cy (sh A 30) i1] [0, 2, 3, 5, 1, 4] [0, 4, 1, 2, 5, 3] ⟨(by simp only [wD_eq, List.flatten_cons, List.flatten_nil, List.append_nil, List.append_assoc, List.cons_append, List.nil_append]), (by simp only [wD_eq, List.flatten_cons, List.flatten_nil, List.append_nil, List.append_assoc, List.cons_append, List.nil_append]), (by simp only [wD_eq, List.flatten_cons, List.flatten_nil, List.append_nil, List.append_assoc, List.cons_append, List.nil_append]), (by simp only [wD_eq, List.flatten_cons, List.flatten_nil, List.append_nil, List.append_assoc, List.cons_append, List.nil_append]), rfl, (show List.Perm [0, 2, 3, 5, 1, 4] (List.range 6) from by decide), rfl, (show List.Perm [0, 4, 1, 2, 5, 3] (List.range 6) from by decide)⟩ rfl rfl (Nat.le_of_ble_eq_true rfl) ⟨by decide, by decide⟩ dX8_restore_34 ?_
          refine r_iconst hc (1 : Int32) dX8_restore_37 rfl ?_
          exact r_iret hK (congrArg (fun z9 => z9.1) (Option.some.inj hf)) (congrArg (fun z9 => (kdo A :: (wH cy (sh A 10) z9.2 ++ [(A 2, .inl (cy 2, 2, .inl kp))] ++ [(A 1, .inl (cy 3, 2, .inr (.inr (.inr (.inr (imgG A))))))] ++ wH cy (sh A 20) i0 ++ wH cy (sh A 30) i1))) (Option.some.inj hf)) dX8_restore_38
        · have hf := o_neg c_5 hf
          refine V.eqs (st' := .ref (sh A 30 0) :: [.ref ((sh A 10) 0)]) (by rw [img_1 i_5 c_5]; rfl) ?_
          obtain ⟨q34, hq34, hf⟩ := o_bind hf
          refine r_callVBv (ws' := (kdo A :: (wH cy (sh A 10) q34 ++ [(A 2, .inl (cy 2, 2, .inl kp))] ++ [(A 1, .inl (cy 3, 2, .inr (.inr (.inr (.inr (imgG A))))))] ++ wH cy (sh A 20) i0 ++ wH cy (sh A 30) i1))) (As := [.ref ((sh A 30) 0)]) (rest := []) hc (c_X1_copy (sh A 10) (sh A 30) hn i1 q34 hq34) kv_X1_copy mw_569 0 rfl rfl [[kdo A], wH cy (sh A 10) hn, [(A 2, .inl (cy 2, 2, .inl kp))], [(A 1, .inl (cy 3, 2, .inr (.inr (.inr (.inr (imgG A))))))], wH cy (sh A 20) i0, wH cy (sh A 30) i1] [[kdo A], [(A 2, .inl (cy 2, 2, .inl kp))], [(A 1, .inl (cy 3, 2, .inr (.inr (.inr (.inr (imgG A))))))], wH cy (sh A 20) i0] [wH cy (sh A 10) hn, wH cy (sh A 30) i1] [wH cy (sh A 10) q34, wH cy (sh A 30) i1] [[kdo A], wH cy (sh A 10) q34, [(A 2, .inl (cy 2, 2, .inl kp))], [(A 1, .inl (cy 3, 2, .inr (.inr (.inr (.inr (imgG A))))))], wH cy (sh A 20) i0, wH cy (sh A 30) i1] [0, 2, 3, 4, 1, 5] [0, 4, 1, 2, 3, 5] ⟨(by simp only [wD_eq, List.flatten_cons, List.flatten_nil, List.append_nil, List.append_assoc, List.cons_append, List.nil_append]), (by simp only [wD_eq, List.flatten_cons, List.flatten_nil, List.append_nil, List.append_assoc, List.cons_append, List.nil_append]), (by simp only [wD_eq, List.flatten_cons, List.flatten_nil, List.append_nil, List.append_assoc, List.cons_append, List.nil_append]), (by simp only [wD_eq, List.flatten_cons, List.flatten_nil, List.append_nil, List.append_assoc, List.cons_append, List.nil_append]), rfl, (show List.Perm [0, 2, 3, 4, 1, 5] (List.range 6) from by decide), rfl, (show List.Perm [0, 4, 1, 2, 3, 5] (List.range 6) from by decide)⟩ rfl rfl (Nat.le_of_ble_eq_true rfl) ⟨by decide, by decide⟩ dX8_restore_34 ?_
          refine r_iconst hc (1 : Int32) dX8_restore_37 rfl ?_
          exact r_iret hK (congrArg (fun z9 => z9.1) (Option.some.inj hf)) (congrArg (fun z9 => (kdo A :: (wH cy (sh A 10) z9.2 ++ [(A 2, .inl (cy 2, 2, .inl kp))] ++ [(A 1, .inl (cy 3, 2, .inr (.inr (.inr (.inr (imgG A))))))] ++ wH cy (sh A 20) i0 ++ wH cy (sh A 30) i1))) (Option.some.inj hf)) dX8_restore_38
      · have hf := o_pos c_4 hf
        refine r_bipush hc (-3 : Int32) dX8_restore_21 rfl ?_
        exact r_iret hK (congrArg (fun z9 => z9.1) (Option.some.inj hf)) (congrArg (fun z9 => (kdo A :: (wH cy (sh A 10) z9.2 ++ [(A 2, .inl (cy 2, 2, .inl kp))] ++ [(A 1, .inl (cy 3, 2, .inr (.inr (.inr (.inr (imgG A))))))] ++ wH cy (sh A 20) i0 ++ wH cy (sh A 30) i1))) (Option.some.inj hf)) dX8_restore_23
    · have hf := o_neg c_2 hf
      refine r_bipush hc (-2 : Int32) dX8_restore_9 rfl ?_
      exact r_iret hK (congrArg (fun z9 => z9.1) (Option.some.inj hf)) (congrArg (fun z9 => (kdo A :: (wH cy (sh A 10) z9.2 ++ [(A 2, .inl (cy 2, 2, .inl kp))] ++ [(A 1, .inl (cy 3, 2, .inr (.inr (.inr (.inr (imgG A))))))] ++ wH cy (sh A 20) i0 ++ wH cy (sh A 30) i1))) (Option.some.inj hf)) dX8_restore_11
