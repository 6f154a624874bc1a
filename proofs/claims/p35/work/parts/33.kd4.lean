def X8_leadsTo_J89 (k47 : HS → DS → Int32 → Int32 → Int32 → Int32 → Int32 → Option (Int32 × DS)) (hn : HS) (dr : DS) (x1 : Int32) (x2 : Int32) (x3 : Int32) (x4 : Int32) (x6 : Int32) : Option (Int32 × DS) :=
  (k47 hn dr x1 x2 x3 x4 (x6 + (1 : Int32)))
def X8_leadsTo_B47 (k47 : HS → DS → Int32 → Int32 → Int32 → Int32 → Int32 → Option (Int32 × DS)) (hn : HS) (dr : DS) (x1 : Int32) (x2 : Int32) (x3 : Int32) (x4 : Int32) (x6 : Int32) : Option (Int32 × DS) :=
  (if (8 : Int32) ≤ x6 then ((f_X0_ready dr).bind fun q99 => ((f_X0_run q99 x4).bind fun q108 => ((f_X1_count (D_house q108) x2).bind fun q119 => (if q119 < x3 then (some ((0 : Int32), q108)) else (some ((1 : Int32), q108)))))) else ((f_X8_isIn x1 x6).bind fun q57 => (if q57 = 0 then (X8_leadsTo_J89 k47 hn dr x1 x2 x3 x4 x6) else (chk x6 8 (ltA (upd (H_place (D_house dr)) (x6).toNatClampNeg x2) fun f76 => ((f_X1_sit (H_set_place (D_house dr) f76) x6).bind fun q86 => (X8_leadsTo_J89 k47 hn (D_set_house dr q86) x1 x2 x3 x4 x6)))))))
def f_X8_leadsTo (hn : HS) (dr : DS) (x1 : Int32) (x2 : Int32) (x3 : Int32) (x4 : Int32) : Option (Int32 × DS) :=
  ((f_X1_bitsIn hn x2).bind fun q5 => ((f_J6_bitCount_0f7a4 (q5 ||| x1)).bind fun q10 => ((f_X1_sizeOf hn x2).bind fun q22 => (if q10 ≤ q22 then ((f_X1_copy (D_house dr) hn).bind fun q41 => (it X8_leadsTo_B47 (fun _ _ _ _ _ _ _ => none) FU hn (D_set_house dr q41) x1 x2 x3 x4 (0 : Int32))) else (some ((0 : Int32), dr))))))
theorem kv_X8_leadsTo : KV RX8 yX8_leadsTo cX8_leadsTo 7 (some .boolean) 4 := ⟨mw_738, mw_16, mw_55, mw_739, by decide +kernel⟩
set_option maxHeartbeats 8000000 in
set_option maxRecDepth 100000 in
theorem c_X8_leadsTo {l : Launch} {E : va_G} {cy : Nat → ClassId} (A : Nat → Nat) (hn : HS) (dr : DS) (x1 : Int32) (x2 : Int32) (x3 : Int32) (x4 : Int32) (q : Int32 × DS) (hf : f_X8_leadsTo hn dr x1 x2 x3 x4 = some q) : Ci l yX8_leadsTo cX8_leadsTo 7 (some .boolean) 6 176 E cy [.ref (A 0), .int x1, .int x2, .int x3, .int x4] (kdo A :: (wH cy (sh A 10) hn ++ wD cy (sh A 50) dr)) q.1 (kdo A :: (wH cy (sh A 10) hn ++ wD cy (sh A 50) q.2)) := by
  refine Ci.of RX8 (by decide) rfl (Nat.le_of_ble_eq_true rfl) ?_
  intro K hK
  have hc := hK.cq
  have L47 : ∀ (n47 : Nat) (dr : DS) (x1 : Int32) (x2 : Int32) (x3 : Int32) (x4 : Int32) (x6 : Int32), it X8_leadsTo_B47 (fun _ _ _ _ _ _ _ => none) n47 hn dr x1 x2 x3 x4 x6 = some q → V K (kdo A :: (wH cy (sh A 10) hn ++ wD cy (sh A 50) dr)) 47 [(0, .ref (A 0)), (1, .int x1), (2, .int x2), (3, .int x3), (4, .int x4), (6, .int x6)] [] := by
    intro n47
    induction n47 with
    | zero => intro dr x1 x2 x3 x4 x6 hf; exact (o_none hf).elim
    | succ n47 ih47 =>
      have J89 : ∀ (dr : DS) (x1 : Int32) (x2 : Int32) (x3 : Int32) (x4 : Int32) (x6 : Int32), X8_leadsTo_J89 (it X8_leadsTo_B47 (fun _ _ _ _ _ _ _ => none) n47) hn dr x1 x2 x3 x4 x6 = some q → V K (kdo A :: (wH cy (sh A 10) hn ++ wD cy (sh A 50) dr)) 89 [(0, .ref (A 0)), (1, .int x1), (2, .int x2), (3, .int x3), (4, .int x4), (6, .int x6)] [] := by
        intro dr x1 x2 x3 x4 x6 hf
        unfold X8_leadsTo_J89 at hf
        refine r_iinc hc 5 [(6, .int (x6 + (1 : Int32))), (0, .ref (A 0)), (1, .int x1), (2, .int x2), (3, .int x3), (4, .int x4)] (x6 + (1 : Int32)) dX8_leadsTo_89 rfl rfl (by decide) rfl ?_
        refine r_goto hc 47 dX8_leadsTo_92 (by decide) ?_
        exact V.sub [1, 2, 3, 4, 5, 0] rfl (ih47 dr x1 x2 x3 x4 (x6 + (1 : Int32)) hf)
      intro dr x1 x2 x3 x4 x6 hf
      replace hf : X8_leadsTo_B47 (it X8_leadsTo_B47 (fun _ _ _ _ _ _ _ => none) n47) hn dr x1 x2 x3 x4 x6 = some q := hf
      unfold X8_leadsTo_B47 at hf
      refine r_iload hc 5 dX8_leadsTo_47 rfl ?_
      refine r_bipush hc (8 : Int32) dX8_leadsTo_49 rfl ?_
      refine r_icmp_ge hc 95 dX8_leadsTo_51 (by decide) (fun c_2 => ?_) (fun c_2 => ?_)
      · have hf := o_pos c_2 hf
        refine r_aload_n hc 0 dX8_leadsTo_95 rfl ?_
        refine r_get (v := .ref ((sh A 50) 0)) hc iw_X8 0 rfl rfl 4 (by decide) mw_299 rfl dX8_leadsTo_96 ?_
        obtain ⟨q99, hq99, hf⟩ := o_bind hf
        refine r_callVBv (ws' := (kdo A :: (wH cy (sh A 10) hn ++ wD cy (sh A 50) q99))) (As := []) (rest := []) hc (c_X0_ready (sh A 50) dr q99 hq99) kv_X0_ready mw_664 0 rfl rfl [[kdo A], wH cy (sh A 10) hn, wDo cy (sh A 50) dr, wH cy (sh (sh A 50) 5) (D_house dr)] [[kdo A], wH cy (sh A 10) hn] [wDo cy (sh A 50) dr, wH cy (sh (sh A 50) 5) (D_house dr)] [wDo cy (sh A 50) q99, wH cy (sh (sh A 50) 5) (D_house q99)] [[kdo A], wH cy (sh A 10) hn, wDo cy (sh A 50) q99, wH cy (sh (sh A 50) 5) (D_house q99)] [0, 1, 2, 3] [0, 1, 2, 3] ⟨(by simp only [wD_eq, List.flatten_cons, List.flatten_nil, List.append_nil, List.append_assoc, List.cons_append, List.nil_append]), (by simp only [wD_eq, List.flatten_cons, List.flatten_nil, List.append_nil, List.append_assoc, List.cons_append, List.nil_append]), (by simp only [wD_eq, List.flatten_cons, List.flatten_nil, List.append_nil, List.append_assoc, List.cons_append, List.nil_append]), (by simp only [wD_eq, List.flatten_cons, List.flatten_nil, List.append_nil, List.append_assoc, List.cons_append, List.nil_append]), rfl, (show List.Perm [0, 1, 2, 3] (List.range 4) from by decide), rfl, (show List.Perm [0, 1, 2, 3] (List.range 4) from by decide)⟩ rfl rfl (Nat.le_of_ble_eq_true rfl) ⟨by decide, by decide⟩ dX8_leadsTo_99 ?_
        refine r_aload_n hc 0 dX8_leadsTo_102 rfl ?_
        refine r_get (v := .ref ((sh A 50) 0)) hc iw_X8 0 rfl rfl 4 (by decide) mw_299 rfl dX8_leadsTo_103 ?_
        refine r_iload hc 4 dX8_leadsTo_106 rfl ?_
        obtain ⟨q108, hq108, hf⟩ := o_bind hf
        refine r_callVBv (ws' := (kdo A :: (wH cy (sh A 10) hn ++ wD cy (sh A 50) q108))) (As := [.int x4]) (rest := []) hc (c_X0_run (sh A 50) q99 x4 q108 hq108) kv_X0_run mw_602 0 rfl rfl [[kdo A], wH cy (sh A 10) hn, wDo cy (sh A 50) q99, wH cy (sh (sh A 50) 5) (D_house q99)] [[kdo A], wH cy (sh A 10) hn] [wDo cy (sh A 50) q99, wH cy (sh (sh A 50) 5) (D_house q99)] [wDo cy (sh A 50) q108, wH cy (sh (sh A 50) 5) (D_house q108)] [[kdo A], wH cy (sh A 10) hn, wDo cy (sh A 50) q108, wH cy (sh (sh A 50) 5) (D_house q108)] [0, 1, 2, 3] [0, 1, 2, 3] ⟨(by simp only [wD_eq, List.flatten_cons, List.flatten_nil, List.append_nil, List.append_assoc, List.cons_append, List.nil_append]), (by simp only [wD_eq, List.flatten_cons, List.flatten_nil, List.append_nil, List.append_assoc, List.cons_append, List.nil_append]), (by simp only [wD_eq, List.flatten_cons, List.flatten_nil, List.append_nil, List.append_assoc, List.cons_append, List.nil_append]), (by simp only [wD_eq, List.flatten_cons, List.flatten_nil, List.append_nil, List.append_assoc, List.cons_append, List.nil_append]), rfl, (show List.Perm [0, 1, 2, 3] (List.range 4) from by decide), rfl, (show List.Perm [0, 1, 2, 3] (List.range 4) from by decide)⟩ rfl rfl (Nat.le_of_ble_eq_true rfl) ⟨by decide, by decide⟩ dX8_leadsTo_108 ?_
        refine r_aload_n hc 0 dX8_leadsTo_111 rfl ?_
        refine r_get (v := .ref ((sh A 50) 0)) hc iw_X8 0 rfl rfl 4 (by decide) mw_299 rfl dX8_leadsTo_112 ?_
        refine r_get (v := .ref ((sh (sh A 50) 5) 0)) hc iw_X0 11 rfl rfl 0 (by decide) mw_171 rfl dX8_leadsTo_115 ?_
        refine r_iload_n hc 2 dX8_leadsTo_118 rfl ?_
        obtain ⟨q119, hq119, hf⟩ := o_bind hf
        refine r_callVBi (ws' := (kdo A :: (wH cy (sh A 10) hn ++ wD cy (sh A 50) q108))) (As := [.int x2]) (rest := []) hc (c_X1_count (sh (sh A 50) 5) (D_house q108) x2 q119 hq119) kv_X1_count mw_341 0 rfl rfl [[kdo A], wH cy (sh A 10) hn, wDo cy (sh A 50) q108, wH cy (sh (sh A 50) 5) (D_house q108)] [[kdo A], wH cy (sh A 10) hn, wDo cy (sh A 50) q108] [wH cy (sh (sh A 50) 5) (D_house q108)] [wH cy (sh (sh A 50) 5) (D_house q108)] [[kdo A], wH cy (sh A 10) hn, wDo cy (sh A 50) q108, wH cy (sh (sh A 50) 5) (D_house q108)] [0, 1, 2, 3] [0, 1, 2, 3] ⟨(by simp only [wD_eq, List.flatten_cons, List.flatten_nil, List.append_nil, List.append_assoc, List.cons_append, List.nil_append]), (by simp only [wD_eq, List.flatten_cons, List.flatten_nil, List.append_nil, List.append_assoc, List.cons_append, List.nil_append]), (by simp only [wD_eq, List.flatten_cons, List.flatten_nil, List.append_nil, List.append_assoc, List.cons_append, List.nil_append]), (by simp only [wD_eq, List.flatten_cons, List.flatten_nil, List.append_nil, List.append_assoc, List.cons_append, List.nil_append]), rfl, (show List.Perm [0, 1, 2, 3] (List.range 4) from by decide), rfl, (show List.Perm [0, 1, 2, 3] (List.range 4) from by decide)⟩ rfl rfl (Nat.le_of_ble_eq_true rfl) ⟨by decide, by decide⟩ dX8_leadsTo_119 ?_
        refine r_iload_n hc 3 dX8_leadsTo_122 rfl ?_
        refine r_icmp_lt hc 130 dX8_leadsTo_123 (by decide) (fun c_3 => ?_) (fun c_3 => ?_)
        · have hf := o_pos c_3 hf
          refine r_iconst hc (0 : Int32) dX8_leadsTo_130 rfl ?_
          exact r_zret hK rfl (congrArg (fun z9 => z9.1) (Option.some.inj hf)) (congrArg (fun z9 => (kdo A :: (wH cy (sh A 10) hn ++ wD cy (sh A 50) z9.2))) (Option.some.inj hf)) dX8_leadsTo_131
        · have hf := o_neg c_3 hf
          refine r_iconst hc (1 : Int32) dX8_leadsTo_126 rfl ?_
          refine r_goto hc 131 dX8_leadsTo_127 (by decide) ?_
          exact r_zret hK rfl (congrArg (fun z9 => z9.1) (Option.some.inj hf)) (congrArg (fun z9 => (kdo A :: (wH cy (sh A 10) hn ++ wD cy (sh A 50) z9.2))) (Option.some.inj hf)) dX8_leadsTo_131
      · have hf := o_neg c_2 hf
        refine r_iload_n hc 1 dX8_leadsTo_54 rfl ?_
        refine r_iload hc 5 dX8_leadsTo_55 rfl ?_
        obtain ⟨q57, hq57, hf⟩ := o_bind hf
        refine r_callSi (ws' := (kdo A :: (wH cy (sh A 10) hn ++ wD cy (sh A 50) dr))) (As := [.int x1, .int x6]) (rest := []) hc (c_X8_isIn  x1 x6 q57 hq57) ks_X8_isIn mw_685 _ _ _ (Sp_none _) rfl rfl (Nat.le_of_ble_eq_true rfl) ⟨by decide, by decide⟩ dX8_leadsTo_57 ?_
        refine r_if_eq hc 89 dX8_leadsTo_60 (by decide) (fun c_4 => ?_) (fun c_4 => ?_)
        · have hf := o_pos c_4 hf
          exact V.sub [0, 1, 2, 3, 4, 5] rfl (J89 dr x1 x2 x3 x4 x6 hf)
        · have hf := o_neg c_4 hf
          refine r_aload_n hc 0 dX8_leadsTo_63 rfl ?_
          refine r_get (v := .ref ((sh A 50) 0)) hc iw_X8 0 rfl rfl 4 (by decide) mw_299 rfl dX8_leadsTo_64 ?_
          refine r_get (v := .ref ((sh (sh A 50) 5) 0)) hc iw_X0 11 rfl rfl 0 (by decide) mw_171 rfl dX8_leadsTo_67 ?_
          refine r_get (v := .ref ((sh (sh A 50) 5) 3)) hc iw_X1 16 rfl rfl 5 (by decide) mw_102 rfl dX8_leadsTo_70 ?_
          refine r_iload hc 5 dX8_leadsTo_73 rfl ?_
          refine r_iload_n hc 2 dX8_leadsTo_75 rfl ?_
          obtain ⟨i_5, hf⟩ := chk_some hf
          obtain ⟨f76, ef76, hf⟩ := lt_some hf
          refine r_iast (f := (H_place (D_house dr))) hc 19 rfl i_5 dX8_leadsTo_76 f76 ef76 (kdo A :: (wH cy (sh A 10) hn ++ wD cy (sh A 50) (D_set_house dr (H_set_place (D_house dr) f76)))) rfl ?_
          refine r_aload_n hc 0 dX8_leadsTo_77 rfl ?_
          refine r_get (v := .ref ((sh A 50) 0)) hc iw_X8 0 rfl rfl 4 (by decide) mw_299 rfl dX8_leadsTo_78 ?_
          refine r_get (v := .ref ((sh (sh A 50) 5) 0)) hc iw_X0 11 rfl rfl 0 (by decide) mw_171 rfl dX8_leadsTo_81 ?_
          refine r_iload hc 5 dX8_leadsTo_84 rfl ?_
          obtain ⟨q86, hq86, hf⟩ := o_bind hf
          refine r_callVBv (ws' := (kdo A :: (wH cy (sh A 10) hn ++ wD cy (sh A 50) (D_set_house dr q86)))) (As := [.int x6]) (rest := []) hc (c_X1_sit (sh (sh A 50) 5) (H_set_place (D_house dr) f76) x6 q86 hq86) kv_X1_sit mw_740 0 rfl rfl [[kdo A], wH cy (sh A 10) hn, wDo cy (sh A 50) (D_set_house dr (H_set_place (D_house dr) f76)), wH cy (sh (sh A 50) 5) (D_house (D_set_house dr (H_set_place (D_house dr) f76)))] [[kdo A], wH cy (sh A 10) hn, wDo cy (sh A 50) (D_set_house dr (H_set_place (D_house dr) f76))] [wH cy (sh (sh A 50) 5) (H_set_place (D_house dr) f76)] [wH cy (sh (sh A 50) 5) q86] [[kdo A], wH cy (sh A 10) hn, wDo cy (sh A 50) (D_set_house dr q86), wH cy (sh (sh A 50) 5) (D_house (D_set_house dr q86))] [0, 1, 2, 3] [0, 1, 2, 3] ⟨(by simp only [wD_eq, List.flatten_cons, List.flatten_nil, List.append_nil, List.append_assoc, List.cons_append, List.nil_append]), (by simp only [wD_eq, List.flatten_cons, List.flatten_nil, List.append_nil, List.append_assoc, List.cons_append, List.nil_append]), (by simp only [wD_eq, List.flatten_cons, List.flatten_nil, List.append_nil, List.append_assoc, List.cons_append, List.nil_append]), (by simp only [wD_eq, List.flatten_cons, List.flatten_nil, List.append_nil, List.append_assoc, List.cons_append, List.nil_append]), rfl, (show List.Perm [0, 1, 2, 3] (List.range 4) from by decide), rfl, (show List.Perm [0, 1, 2, 3] (List.range 4) from by decide)⟩ rfl rfl (Nat.le_of_ble_eq_true rfl) ⟨by decide, by decide⟩ dX8_leadsTo_86 ?_
          exact V.sub [0, 1, 2, 3, 4, 5] rfl (J89 (D_set_house dr q86) x1 x2 x3 x4 x6 hf)
  show V K (kdo A :: (wH cy (sh A 10) hn ++ wD cy (sh A 50) dr)) 0 [(0, .ref (A 0)), (1, .int x1), (2, .int x2), (3, .int x3), (4, .int x4)] []
  unfold f_X8_leadsTo at hf
  refine r_aload_n hc 0 dX8_leadsTo_0 rfl ?_
  refine r_get (v := .ref ((sh A 10) 0)) hc iw_X8 0 rfl rfl 0 (by decide) mw_295 rfl dX8_leadsTo_1 ?_
  refine r_iload_n hc 2 dX8_leadsTo_4 rfl ?_
  obtain ⟨q5, hq5, hf⟩ := o_bind hf
  refine r_callVBi (ws' := (kdo A :: (wH cy (sh A 10) hn ++ wD cy (sh A 50) dr))) (As := [.int x2]) (rest := []) hc (c_X1_bitsIn (sh A 10) hn x2 q5 hq5) kv_X1_bitsIn mw_619 0 rfl rfl [[kdo A], wH cy (sh A 10) hn, wDo cy (sh A 50) dr, wH cy (sh (sh A 50) 5) (D_house dr)] [[kdo A], wDo cy (sh A 50) dr, wH cy (sh (sh A 50) 5) (D_house dr)] [wH cy (sh A 10) hn] [wH cy (sh A 10) hn] [[kdo A], wH cy (sh A 10) hn, wDo cy (sh A 50) dr, wH cy (sh (sh A 50) 5) (D_house dr)] [0, 2, 3, 1] [0, 3, 1, 2] ⟨(by simp only [wD_eq, List.flatten_cons, List.flatten_nil, List.append_nil, List.append_assoc, List.cons_append, List.nil_append]), (by simp only [wD_eq, List.flatten_cons, List.flatten_nil, List.append_nil, List.append_assoc, List.cons_append, List.nil_append]), (by simp only [wD_eq, List.flatten_cons, List.flatten_nil, List.append_nil, List.append_assoc, List.cons_append, List.nil_append]), (by simp only [wD_eq, List.flatten_cons, List.flatten_nil, List.append_nil, List.append_assoc, List.cons_append, List.nil_append]), rfl, (show List.Perm [0, 2, 3, 1] (List.range 4) from by decide), rfl, (show List.Perm [0, 3, 1, 2] (List.range 4) from by decide)⟩ rfl rfl (Nat.le_of_ble_eq_true rfl) ⟨by decide, by decide⟩ dX8_leadsTo_5 ?_
  refine r_iload_n hc 1 dX8_leadsTo_8 rfl ?_
  refine r_ior hc dX8_leadsTo_9 ?_
  obtain ⟨q10, hq10, hf⟩ := o_bind hf
  refine r_callSi (ws' := (kdo A :: (wH cy (sh A 10) hn ++ wD cy (sh A 50) dr))) (As := [.int (q5 ||| x1)]) (rest := []) hc (c_J6_bitCount_0f7a4  (q5 ||| x1) q10 hq10) ks_J6_bitCount_0f7a4 mw_399 _ _ _ (Sp_none _) rfl rfl (Nat.le_of_ble_eq_true rfl) ⟨by decide, by decide⟩ dX8_leadsTo_10 ?_
  refine r_istore hc [(5, .int q10), (0, .ref (A 0)), (1, .int x1), (2, .int x2), (3, .int x3), (4, .int x4)] dX8_leadsTo_13 (by decide) rfl ?_
  refine r_iload hc 0 dX8_leadsTo_15 rfl ?_
  refine r_aload_n hc 1 dX8_leadsTo_17 rfl ?_
  refine r_get (v := .ref ((sh A 10) 0)) hc iw_X8 0 rfl rfl 0 (by decide) mw_295 rfl dX8_leadsTo_18 ?_
  refine r_iload_n hc 3 dX8_leadsTo_21 rfl ?_
  obtain ⟨q22, hq22, hf⟩ := o_bind hf
  refine r_callVBi (ws' := (kdo A :: (wH cy (sh A 10) hn ++ wD cy (sh A 50) dr))) (As := [.int x2]) (rest := [.int q10]) hc (c_X1_sizeOf (sh A 10) hn x2 q22 hq22) kv_X1_sizeOf mw_383 0 rfl rfl [[kdo A], wH cy (sh A 10) hn, wDo cy (sh A 50) dr, wH cy (sh (sh A 50) 5) (D_house dr)] [[kdo A], wDo cy (sh A 50) dr, wH cy (sh (sh A 50) 5) (D_house dr)] [wH cy (sh A 10) hn] [wH cy (sh A 10) hn] [[kdo A], wH cy (sh A 10) hn, wDo cy (sh A 50) dr, wH cy (sh (sh A 50) 5) (D_house dr)] [0, 2, 3, 1] [0, 3, 1, 2] ⟨(by simp only [wD_eq, List.flatten_cons, List.flatten_nil, List.append_nil, List.append_assoc, List.cons_append, List.nil_append]), (by simp only [wD_eq, List.flatten_cons, List.flatten_nil, List.append_nil, List.append_assoc, List.cons_append, List.nil_append]), (by simp only [wD_eq, List.flatten_cons, List.flatten_nil, List.append_nil, List.append_assoc, List.cons_append, List.nil_append]), (by simp only [wD_eq, List.flatten_cons, List.flatten_nil, List.append_nil, List.append_assoc, List.cons_append, List.nil_append]), rfl, (show List.Perm [0, 2, 3, 1] (List.range 4) from by decide), rfl, (show List.Perm [0, 3, 1, 2] (List.range 4) from by decide)⟩ rfl rfl (Nat.le_of_ble_eq_true rfl) ⟨by decide, by decide⟩ dX8_leadsTo_22 ?_
  refine r_icmp_le hc 30 dX8_leadsTo_25 (by decide) (fun c_1 => ?_) (fun c_1 => ?_)
  · have hf := o_pos c_1 hf
    refine r_aload_n hc 1 dX8_leadsTo_30 rfl ?_
    refine r_get (v := .ref ((sh A 50) 0)) hc iw_X8 0 rfl rfl 4 (by decide) mw_299 rfl dX8_leadsTo_31 ?_
    refine r_get (v := .ref ((sh (sh A 50) 5) 0)) hc iw_X0 11 rfl rfl 0 (by decide) mw_171 rfl dX8_leadsTo_34 ?_
    refine r_aload_n hc 1 dX8_leadsTo_37 rfl ?_
    refine r_get (v := .ref ((sh A 10) 0)) hc iw_X8 0 rfl rfl 0 (by decide) mw_295 rfl dX8_leadsTo_38 ?_
    obtain ⟨q41, hq41, hf⟩ := o_bind hf
    refine r_callVBv (ws' := (kdo A :: (wH cy (sh A 10) hn ++ wD cy (sh A 50) (D_set_house dr q41)))) (As := [.ref ((sh A 10) 0)]) (rest := []) hc (c_X1_copy (sh (sh A 50) 5) (sh A 10) (D_house dr) hn q41 hq41) kv_X1_copy mw_569 0 rfl rfl [[kdo A], wH cy (sh A 10) hn, wDo cy (sh A 50) dr, wH cy (sh (sh A 50) 5) (D_house dr)] [[kdo A], wDo cy (sh A 50) dr] [wH cy (sh (sh A 50) 5) (D_house dr), wH cy (sh A 10) hn] [wH cy (sh (sh A 50) 5) q41, wH cy (sh A 10) hn] [[kdo A], wH cy (sh A 10) hn, wDo cy (sh A 50) (D_set_house dr q41), wH cy (sh (sh A 50) 5) (D_house (D_set_house dr q41))] [0, 2, 3, 1] [0, 3, 1, 2] ⟨(by simp only [wD_eq, List.flatten_cons, List.flatten_nil, List.append_nil, List.append_assoc, List.cons_append, List.nil_append]), (by simp only [wD_eq, List.flatten_cons, List.flatten_nil, List.append_nil, List.append_assoc, List.cons_append, List.nil_append]), (by simp only [wD_eq, List.flatten_cons, List.flatten_nil, List.append_nil, List.append_assoc, List.cons_append, List.nil_append]), (by simp only [wD_eq, List.flatten_cons, List.flatten_nil, List.append_nil, List.append_assoc, List.cons_append, List.nil_append]), rfl, (show List.Perm [0, 2, 3, 1] (List.range 4) from by decide), rfl, (show List.Perm [0, 3, 1, 2] (List.range 4) from by decide)⟩ rfl rfl (Nat.le_of_ble_eq_true rfl) ⟨by decide, by decide⟩ dX8_leadsTo_41 ?_
    refine r_iconst hc (0 : Int32) dX8_leadsTo_44 rfl ?_
    refine r_istore hc [(6, .int (0 : Int32)), (5, .int q10), (0, .ref (A 0)), (1, .int x1), (2, .int x2), (3, .int x3), (4, .int x4)] dX8_leadsTo_45 (by decide) rfl ?_
    exact V.sub [2, 3, 4, 5, 6, 0] rfl (L47 FU (D_set_house dr q41) x1 x2 x3 x4 (0 : Int32) hf)
  · have hf := o_neg c_1 hf
    refine r_iconst hc (0 : Int32) dX8_leadsTo_28 rfl ?_
    exact r_zret hK rfl (congrArg (fun z9 => z9.1) (Option.some.inj hf)) (congrArg (fun z9 => (kdo A :: (wH cy (sh A 10) hn ++ wD cy (sh A 50) z9.2))) (Option.some.inj hf)) dX8_leadsTo_29
def X8_led_J125 (k60 : HS → DS → Int32 → Int32 → Int32 → Int32 → Int32 → Int32 → Option (Int32 × DS)) (k73 : HS → DS → Int32 → Int32 → Int32 → Int32 → Int32 → Int32 → Int32 → Option (Int32 × DS)) (hn : HS) (dr : DS) (x1 : Int32) (x2 : Int32) (x3 : Int32) (x4 : Int32) (x5 : Int32) (x6 : Int32) (x7 : Int32) : Option (Int32 × DS) :=
  (k73 hn dr x1 x2 x3 x4 x5 x6 (x7 + (1 : Int32)))
def X8_led_B73 (k60 : HS → DS → Int32 → Int32 → Int32 → Int32 → Int32 → Int32 → Option (Int32 × DS)) (k73 : HS → DS → Int32 → Int32 → Int32 → Int32 → Int32 → Int32 → Int32 → Option (Int32 × DS)) (hn : HS) (dr : DS) (x1 : Int32) (x2 : Int32) (x3 : Int32) (x4 : Int32) (x5 : Int32) (x6 : Int32) (x7 : Int32) : Option (Int32 × DS) :=
  (if x5 < x7 then (k60 hn dr x1 x2 x3 x4 x5 (x6 + (1 : Int32))) else ((f_J6_bitCount_0f7a4 x7).bind fun q82 => (if q82 = x6 then (if (x7 &&& (x5 ^^^ (-1 : Int32))) = 0 then ((f_X8_leadsTo hn dr x7 x1 x2 x3).bind fun q106 => (if q106.1 = 0 then (X8_led_J125 k60 k73 hn q106.2 x1 x2 x3 x4 x5 x6 x7) else (if x4 = 0 then (some (x6, q106.2)) else (some (x7, q106.2))))) else (X8_led_J125 k60 k73 hn dr x1 x2 x3 x4 x5 x6 x7)) else (X8_led_J125 k60 k73 hn dr x1 x2 x3 x4 x5 x6 x7))))
def X8_led_B60 (k60 : HS → DS → Int32 → Int32 → Int32 → Int32 → Int32 → Int32 → Option (Int32 × DS)) (hn : HS) (dr : DS) (x1 : Int32) (x2 : Int32) (x3 : Int32) (x4 : Int32) (x5 : Int32) (x6 : Int32) : Option (Int32 × DS) :=
  ((f_J6_bitCount_0f7a4 x5).bind fun q64 => (if q64 < x6 then (some ((-6 : Int32), dr)) else (it (X8_led_B73 k60) (fun _ _ _ _ _ _ _ _ _ => none) FU hn dr x1 x2 x3 x4 x5 x6 (0 : Int32))))
def f_X8_led (hn : HS) (dr : DS) (x1 : Int32) (x2 : Int32) (x3 : Int32) (x4 : Int32) : Option (Int32 × DS) :=
  ((f_X1_isRoom hn x1).bind fun q5 => (if q5 = 0 then (some ((-1 : Int32), dr)) else (if x2 < (1 : Int32) then (some ((-2 : Int32), dr)) else (if (8 : Int32) < x2 then (some ((-2 : Int32), dr)) else (if x3 < 0 then (some ((-2 : Int32), dr)) else (if (20 : Int32) < x3 then (some ((-2 : Int32), dr)) else (if x4 < 0 then (some ((-2 : Int32), dr)) else (if x4 ≤ (1 : Int32) then ((f_X1_idle hn).bind fun q52 => (it X8_led_B60 (fun _ _ _ _ _ _ _ _ => none) FU hn dr x1 x2 x3 x4 q52 (0 : Int32))) else (some ((-2 : Int32), dr))))))))))
theorem kv_X8_led : KV RX8 yX8_led cX8_led 8 (some .int) 4 := ⟨mw_729, mw_730, mw_55, mw_731, by decide +kernel⟩
set_option maxHeartbeats 8000000 in
set_option maxRecDepth 100000 in
theorem c_X8_led {l : Launch} {E : va_G} {cy : Nat → ClassId} (A : Nat → Nat) (hn : HS) (dr : DS) (x1 : Int32) (x2 : Int32) (x3 : Int32) (x4 : Int32) (q : Int32 × DS) (hf : f_X8_led hn dr x1 x2 x3 x4 = some q) : Ci l yX8_led cX8_led 8 (some .int) 7 202 E cy [.ref (A 0), .int x1, .int x2, .int x3, .int x4] (kdo A :: (wH cy (sh A 10) hn ++ wD cy (sh A 50) dr)) q.1 (kdo A :: (wH cy (sh A 10) hn ++ wD cy (sh A 50) q.2)) := by
  refine Ci.of RX8 (by decide) rfl (Nat.le_of_ble_eq_true rfl) ?_
  intro K hK
  have hc := hK.cq
  have L60 : ∀ (n60 : Nat) (dr : DS) (x1 : Int32) (x2 : Int32) (x3 : Int32) (x4 : Int32) (x5 : Int32) (x6 : Int32), it X8_led_B60 (fun _ _ _ _ _ _ _ _ => none) n60 hn dr x1 x2 x3 x4 x5 x6 = some q → V K (kdo A :: (wH cy (sh A 10) hn ++ wD cy (sh A 50) dr)) 60 [(0, .ref (A 0)), (1, .int x1), (2, .int x2), (3, .int x3), (4, .int x4), (5, .int x5), (6, .int x6)] [] := by
    intro n60
    induction n60 with
    | zero => intro dr x1 x2 x3 x4 x5 x6 hf; exact (o_none hf).elim
    | succ n60 ih60 =>
      have L73 : ∀ (n73 : Nat) (dr : DS) (x1 : Int32) (x2 : Int32) (x3 : Int32) (x4 : Int32) (x5 : Int32) (x6 : Int32) (x7 : Int32), it (X8_led_B73 (it X8_led_B60 (fun _ _ _ _ _ _ _ _ => none) n60)) (fun _ _ _ _ _ _ _ _ _ => none) n73 hn dr x1 x2 x3 x4 x5 x6 x7 = some q → V K (kdo A :: (wH cy (sh A 10) hn ++ wD cy (sh A 50) dr)) 73 [(0, .ref (A 0)), (1, .int x1), (2, .int x2), (3, .int x3), (4, .int x4), (5, .int x5), (6, .int x6), (7, .int x7)] [] := by
        intro n73
        induction n73 with
        | zero => intro dr x1 x2 x3 x4 x5 x6 x7 hf; exact (o_none hf).elim
        | succ n73 ih73 =>
          have J125 : ∀ (dr : DS) (x1 : Int32) (x2 : Int32) (x3 : Int32) (x4 : Int32) (x5 : Int32) (x6 : Int32) (x7 : Int32), X8_led_J125 (it X8_led_B60 (fun _ _ _ _ _ _ _ _ => none) n60) (it (X8_led_B73 (it X8_led_B60 (fun _ _ _ _ _ _ _ _ => none) n60)) (fun _ _ _ _ _ _ _ _ _ => none) n73) hn dr x1 x2 x3 x4 x5 x6 x7 = some q → V K (kdo A :: (wH cy (sh A 10) hn ++ wD cy (sh A 50) dr)) 125 [(0, .ref (A 0)), (1, .int x1), (2, .int x2), (3, .int x3), (4, .int x4), (5, .int x5), (6, .int x6), (7, .int x7)] [] := by
            intro dr x1 x2 x3 x4 x5 x6 x7 hf
            unfold X8_led_J125 at hf
            refine r_iinc hc 7 [(7, .int (x7 + (1 : Int32))), (0, .ref (A 0)), (1, .int x1), (2, .int x2), (3, .int x3), (4, .int x4), (5, .int x5), (6, .int x6)] (x7 + (1 : Int32)) dX8_led_125 rfl rfl (by decide) rfl ?_
            refine r_goto hc 73 dX8_led_128 (by decide) ?_
            exact V.sub [1, 2, 3, 4, 5, 6, 7, 0] rfl (ih73 dr x1 x2 x3 x4 x5 x6 (x7 + (1 : Int32)) hf)
          intro dr x1 x2 x3 x4 x5 x6 x7 hf
          replace hf : X8_led_B73 (it X8_led_B60 (fun _ _ _ _ _ _ _ _ => none) n60) (it (X8_led_B73 (it X8_led_B60 (fun _ _ _ _ _ _ _ _ => none) n60)) (fun _ _ _ _ _ _ _ _ _ => none) n73) hn dr x1 x2 x3 x4 x5 x6 x7 = some q := hf
          unfold X8_led_B73 at hf
          refine r_iload hc 7 dX8_led_73 rfl ?_
          refine r_iload hc 5 dX8_led_75 rfl ?_
          refine r_icmp_gt hc 131 dX8_led_77 (by decide) (fun c_9 => ?_) (fun c_9 => ?_)
          · have hf := o_pos c_9 hf
            refine r_iinc hc 6 [(6, .int (x6 + (1 : Int32))), (0, .ref (A 0)), (1, .int x1), (2, .int x2), (3, .int x3), (4, .int x4), (5, .int x5), (7, .int x7)] (x6 + (1 : Int32)) dX8_led_131 rfl rfl (by decide) rfl ?_
            refine r_goto hc 60 dX8_led_134 (by decide) ?_
            exact V.sub [1, 2, 3, 4, 5, 6, 0] rfl (ih60 dr x1 x2 x3 x4 x5 (x6 + (1 : Int32)) hf)
          · have hf := o_neg c_9 hf
            refine r_iload hc 7 dX8_led_80 rfl ?_
            obtain ⟨q82, hq82, hf⟩ := o_bind hf
            refine r_callSi (ws' := (kdo A :: (wH cy (sh A 10) hn ++ wD cy (sh A 50) dr))) (As := [.int x7]) (rest := []) hc (c_J6_bitCount_0f7a4  x7 q82 hq82) ks_J6_bitCount_0f7a4 mw_399 _ _ _ (Sp_none _) rfl rfl (Nat.le_of_ble_eq_true rfl) ⟨by decide, by decide⟩ dX8_led_82 ?_
            refine r_iload hc 6 dX8_led_85 rfl ?_
            refine r_icmp_ne hc 125 dX8_led_87 (by decide) (fun c_10 => ?_) (fun c_10 => ?_)
            · have hf := o_neg c_10 hf
              exact V.sub [0, 1, 2, 3, 4, 5, 6, 7] rfl (J125 dr x1 x2 x3 x4 x5 x6 x7 hf)
            · have hf := o_pos c_10 hf
              refine r_iload hc 7 dX8_led_90 rfl ?_
              refine r_iload hc 5 dX8_led_92 rfl ?_
              refine r_iconst hc (-1 : Int32) dX8_led_94 rfl ?_
              refine r_ixor hc dX8_led_95 ?_
              refine r_iand hc dX8_led_96 ?_
              refine r_if_ne hc 125 dX8_led_97 (by decide) (fun c_11 => ?_) (fun c_11 => ?_)
              · have hf := o_neg c_11 hf
                exact V.sub [0, 1, 2, 3, 4, 5, 6, 7] rfl (J125 dr x1 x2 x3 x4 x5 x6 x7 hf)
              · have hf := o_pos c_11 hf
                refine r_aload_n hc 0 dX8_led_100 rfl ?_
                refine r_iload hc 7 dX8_led_101 rfl ?_
                refine r_iload_n hc 1 dX8_led_103 rfl ?_
                refine r_iload_n hc 2 dX8_led_104 rfl ?_
                refine r_iload_n hc 3 dX8_led_105 rfl ?_
                obtain ⟨q106, hq106, hf⟩ := o_bind hf
                refine r_callVi (ws' := (kdo A :: (wH cy (sh A 10) hn ++ wD cy (sh A 50) q106.2))) (As := [.int x7, .int x1, .int x2, .int x3]) (rest := []) hc (c_X8_leadsTo A hn dr x7 x1 x2 x3 q106 hq106) kv_X8_leadsTo mw_736 0 rfl rfl _ _ _ (Sp_all _ _) rfl rfl (Nat.le_of_ble_eq_true rfl) ⟨by decide, by decide⟩ dX8_led_106 ?_
                refine r_if_eq hc 125 dX8_led_109 (by decide) (fun c_12 => ?_) (fun c_12 => ?_)
                · have hf := o_pos c_12 hf
                  exact V.sub [0, 1, 2, 3, 4, 5, 6, 7] rfl (J125 q106.2 x1 x2 x3 x4 x5 x6 x7 hf)
                · have hf := o_neg c_12 hf
                  refine r_iload hc 4 dX8_led_112 rfl ?_
                  refine r_if_ne hc 122 dX8_led_114 (by decide) (fun c_13 => ?_) (fun c_13 => ?_)
                  · have hf := o_neg c_13 hf
                    refine r_iload hc 7 dX8_led_122 rfl ?_
                    exact r_iret hK (congrArg (fun z9 => z9.1) (Option.some.inj hf)) (congrArg (fun z9 => (kdo A :: (wH cy (sh A 10) hn ++ wD cy (sh A 50) z9.2))) (Option.some.inj hf)) dX8_led_124
                  · have hf := o_pos c_13 hf
                    refine r_iload hc 6 dX8_led_117 rfl ?_
                    refine r_goto hc 124 dX8_led_119 (by decide) ?_
                    exact r_iret hK (congrArg (fun z9 => z9.1) (Option.some.inj hf)) (congrArg (fun z9 => (kdo A :: (wH cy (sh A 10) hn ++ wD cy (sh A 50) z9.2))) (Option.some.inj hf)) dX8_led_124
      intro dr x1 x2 x3 x4 x5 x6 hf
      replace hf : X8_led_B60 (it X8_led_B60 (fun _ _ _ _ _ _ _ _ => none) n60) hn dr x1 x2 x3 x4 x5 x6 = some q := hf
      unfold X8_led_B60 at hf
      refine r_iload hc 6 dX8_led_60 rfl ?_
      refine r_iload hc 5 dX8_led_62 rfl ?_
      obtain ⟨q64, hq64, hf⟩ := o_bind hf
      refine r_callSi (ws' := (kdo A :: (wH cy (sh A 10) hn ++ wD cy (sh A 50) dr))) (As := [.int x5]) (rest := [.int x6]) hc (c_J6_bitCount_0f7a4  x5 q64 hq64) ks_J6_bitCount_0f7a4 mw_399 _ _ _ (Sp_none _) rfl rfl (Nat.le_of_ble_eq_true rfl) ⟨by decide, by decide⟩ dX8_led_64 ?_
      refine r_icmp_gt hc 137 dX8_led_67 (by decide) (fun c_8 => ?_) (fun c_8 => ?_)
      · have hf := o_pos c_8 hf
        refine r_bipush hc (-6 : Int32) dX8_led_137 rfl ?_
        exact r_iret hK (congrArg (fun z9 => z9.1) (Option.some.inj hf)) (congrArg (fun z9 => (kdo A :: (wH cy (sh A 10) hn ++ wD cy (sh A 50) z9.2))) (Option.some.inj hf)) dX8_led_139
      · have hf := o_neg c_8 hf
        refine r_iconst hc (0 : Int32) dX8_led_70 rfl ?_
        refine r_istore hc [(7, .int (0 : Int32)), (0, .ref (A 0)), (1, .int x1), (2, .int x2), (3, .int x3), (4, .int x4), (5, .int x5), (6, .int x6)] dX8_led_71 (by decide) rfl ?_
        exact V.sub [1, 2, 3, 4, 5, 6, 7, 0] rfl (L73 FU dr x1 x2 x3 x4 x5 x6 (0 : Int32) hf)
  show V K (kdo A :: (wH cy (sh A 10) hn ++ wD cy (sh A 50) dr)) 0 [(0, .ref (A 0)), (1, .int x1), (2, .int x2), (3, .int x3), (4, .int x4)] []
  unfold f_X8_led at hf
  refine r_aload_n hc 0 dX8_led_0 rfl ?_
  refine r_get (v := .ref ((sh A 10) 0)) hc iw_X8 0 rfl rfl 0 (by decide) mw_295 rfl dX8_led_1 ?_
  refine r_iload_n hc 1 dX8_led_4 rfl ?_
  obtain ⟨q5, hq5, hf⟩ := o_bind hf
  refine r_callVBi (ws' := (kdo A :: (wH cy (sh A 10) hn ++ wD cy (sh A 50) dr))) (As := [.int x1]) (rest := []) hc (c_X1_isRoom (sh A 10) hn x1 q5 hq5) kv_X1_isRoom mw_337 0 rfl rfl [[kdo A], wH cy (sh A 10) hn, wDo cy (sh A 50) dr, wH cy (sh (sh A 50) 5) (D_house dr)] [[kdo A], wDo cy (sh A 50) dr, wH cy (sh (sh A 50) 5) (D_house dr)] [wH cy (sh A 10) hn] [wH cy (sh A 10) hn] [[kdo A], wH cy (sh A 10) hn, wDo cy (sh A 50) dr, wH cy (sh (sh A 50) 5) (D_house dr)] [0, 2, 3, 1] [0, 3, 1, 2] ⟨(by simp only [wD_eq, List.flatten_cons, List.flatten_nil, List.append_nil, List.append_assoc, List.cons_append, List.nil_append]), (by simp only [wD_eq, List.flatten_cons, List.flatten_nil, List.append_nil, List.append_assoc, List.cons_append, List.nil_append]), (by simp only [wD_eq, List.flatten_cons, List.flatten_nil, List.append_nil, List.append_assoc, List.cons_append, List.nil_append]), (by simp only [wD_eq, List.flatten_cons, List.flatten_nil, List.append_nil, List.append_assoc, List.cons_append, List.nil_append]), rfl, (show List.Perm [0, 2, 3, 1] (List.range 4) from by decide), rfl, (show List.Perm [0, 3, 1, 2] (List.range 4) from by decide)⟩ rfl rfl (Nat.le_of_ble_eq_true rfl) ⟨by decide, by decide⟩ dX8_led_5 ?_
  refine r_if_ne hc 13 dX8_led_8 (by decide) (fun c_1 => ?_) (fun c_1 => ?_)
  · have hf := o_neg c_1 hf
    refine r_iload_n hc 2 dX8_led_13 rfl ?_
    refine r_iconst hc (1 : Int32) dX8_led_14 rfl ?_
    refine r_icmp_lt hc 45 dX8_led_15 (by decide) (fun c_2 => ?_) (fun c_2 => ?_)
    · have hf := o_pos c_2 hf
      refine r_bipush hc (-2 : Int32) dX8_led_45 rfl ?_
      exact r_iret hK (congrArg (fun z9 => z9.1) (Option.some.inj hf)) (congrArg (fun z9 => (kdo A :: (wH cy (sh A 10) hn ++ wD cy (sh A 50) z9.2))) (Option.some.inj hf)) dX8_led_47
    · have hf := o_neg c_2 hf
      refine r_iload_n hc 2 dX8_led_18 rfl ?_
      refine r_bipush hc (8 : Int32) dX8_led_19 rfl ?_
      refine r_icmp_gt hc 45 dX8_led_21 (by decide) (fun c_3 => ?_) (fun c_3 => ?_)
      · have hf := o_pos c_3 hf
        refine r_bipush hc (-2 : Int32) dX8_led_45 rfl ?_
        exact r_iret hK (congrArg (fun z9 => z9.1) (Option.some.inj hf)) (congrArg (fun z9 => (kdo A :: (wH cy (sh A 10) hn ++ wD cy (sh A 50) z9.2))) (Option.some.inj hf)) dX8_led_47
      · have hf := o_neg c_3 hf
        refine r_iload_n hc 3 dX8_led_24 rfl ?_
        refine r_if_lt hc 45 dX8_led_25 (by decide) (fun c_4 => ?_) (fun c_4 => ?_)
        · have hf := o_pos c_4 hf
          refine r_bipush hc (-2 : Int32) dX8_led_45 rfl ?_
          exact r_iret hK (congrArg (fun z9 => z9.1) (Option.some.inj hf)) (congrArg (fun z9 => (kdo A :: (wH cy (sh A 10) hn ++ wD cy (sh A 50) z9.2))) (Option.some.inj hf)) dX8_led_47
        · have hf := o_neg c_4 hf
          refine r_iload_n hc 3 dX8_led_28 rfl ?_
          refine r_bipush hc (20 : Int32) dX8_led_29 rfl ?_
          refine r_icmp_gt hc 45 dX8_led_31 (by decide) (fun c_5 => ?_) (fun c_5 => ?_)
          · have hf := o_pos c_5 hf
            refine r_bipush hc (-2 : Int32) dX8_led_45 rfl ?_
            exact r_iret hK (congrArg (fun z9 => z9.1) (Option.some.inj hf)) (congrArg (fun z9 => (kdo A :: (wH cy (sh A 10) hn ++ wD cy (sh A 50) z9.2))) (Option.some.inj hf)) dX8_led_47
          · have hf := o_neg c_5 hf
            refine r_iload hc 4 dX8_led_34 rfl ?_
            refine r_if_lt hc 45 dX8_led_36 (by decide) (fun c_6 => ?_) (fun c_6 => ?_)
            · have hf := o_pos c_6 hf
              refine r_bipush hc (-2 : Int32) dX8_led_45 rfl ?_
              exact r_iret hK (congrArg (fun z9 => z9.1) (Option.some.inj hf)) (congrArg (fun z9 => (kdo A :: (wH cy (sh A 10) hn ++ wD cy (sh A 50) z9.2))) (Option.some.inj hf)) dX8_led_47
            · have hf := o_neg c_6 hf
              refine r_iload hc 4 dX8_led_39 rfl ?_
              refine r_iconst hc (1 : Int32) dX8_led_41 rfl ?_
              refine r_icmp_le hc 48 dX8_led_42 (by decide) (fun c_7 => ?_) (fun c_7 => ?_)
              · have hf := o_pos c_7 hf
                refine r_aload_n hc 0 dX8_led_48 rfl ?_
                refine r_get (v := .ref ((sh A 10) 0)) hc iw_X8 0 rfl rfl 0 (by decide) mw_295 rfl dX8_led_49 ?_
                obtain ⟨q52, hq52, hf⟩ := o_bind hf
                refine r_callVBi (ws' := (kdo A :: (wH cy (sh A 10) hn ++ wD cy (sh A 50) dr))) (As := []) (rest := []) hc (c_X1_idle (sh A 10) hn q52 hq52) kv_X1_idle mw_732 0 rfl rfl [[kdo A], wH cy (sh A 10) hn, wDo cy (sh A 50) dr, wH cy (sh (sh A 50) 5) (D_house dr)] [[kdo A], wDo cy (sh A 50) dr, wH cy (sh (sh A 50) 5) (D_house dr)] [wH cy (sh A 10) hn] [wH cy (sh A 10) hn] [[kdo A], wH cy (sh A 10) hn, wDo cy (sh A 50) dr, wH cy (sh (sh A 50) 5) (D_house dr)] [0, 2, 3, 1] [0, 3, 1, 2] ⟨(by simp only [wD_eq, List.flatten_cons, List.flatten_nil, List.append_nil, List.append_assoc, List.cons_append, List.nil_append]), (by simp only [wD_eq, List.flatten_cons, List.flatten_nil, List.append_nil, List.append_assoc, List.cons_append, List.nil_append]), (by simp only [wD_eq, List.flatten_cons, List.flatten_nil, List.append_nil, List.append_assoc, List.cons_append, List.nil_append]), (by simp only [wD_eq, List.flatten_cons, List.flatten_nil, List.append_nil, List.append_assoc, List.cons_append, List.nil_append]), rfl, (show List.Perm [0, 2, 3, 1] (List.range 4) from by decide), rfl, (show List.Perm [0, 3, 1, 2] (List.range 4) from by decide)⟩ rfl rfl (Nat.le_of_ble_eq_true rfl) ⟨by decide, by decide⟩ dX8_led_52 ?_
                refine r_istore hc [(5, .int q52), (0, .ref (A 0)), (1, .int x1), (2, .int x2), (3, .int x3), (4, .int x4)] dX8_led_55 (by decide) rfl ?_
                refine r_iconst hc (0 : Int32) dX8_led_57 rfl ?_
                refine r_istore hc [(6, .int (0 : Int32)), (5, .int q52), (0, .ref (A 0)), (1, .int x1), (2, .int x2), (3, .int x3), (4, .int x4)] dX8_led_58 (by decide) rfl ?_
                exact V.sub [2, 3, 4, 5, 6, 1, 0] rfl (L60 FU dr x1 x2 x3 x4 q52 (0 : Int32) hf)
              · have hf := o_neg c_7 hf
                refine r_bipush hc (-2 : Int32) dX8_led_45 rfl ?_
                exact r_iret hK (congrArg (fun z9 => z9.1) (Option.some.inj hf)) (congrArg (fun z9 => (kdo A :: (wH cy (sh A 10) hn ++ wD cy (sh A 50) z9.2))) (Option.some.inj hf)) dX8_led_47
  · have hf := o_pos c_1 hf
    refine r_iconst hc (-1 : Int32) dX8_led_11 rfl ?_
    exact r_iret hK (congrArg (fun z9 => z9.1) (Option.some.inj hf)) (congrArg (fun z9 => (kdo A :: (wH cy (sh A 10) hn ++ wD cy (sh A 50) z9.2))) (Option.some.inj hf)) dX8_led_12
def f_X8_excuses (hn : HS) (ro : OS) (x1 : Int32) (x2 : Int32) (x3 : Int32) : Option (Int32 × OS) :=
  ((f_X1_isThere hn x1).bind fun q5 => (if q5 = 0 then (some ((-1 : Int32), ro)) else ((f_X1_isRoom hn x2).bind fun q16 => (if q16 = 0 then (some ((-1 : Int32), ro)) else ((f_X5_measure ro hn x2).bind fun q33 => (chk x1 8 (if x3 = (-1 : Int32) then ((f_X5_excusesFrom q33 ((H_place hn) (x1).toNatClampNeg)).bind fun q58 => (some (q58, q33))) else ((f_X5_step q33 hn ((H_place hn) (x1).toNatClampNeg) x3).bind fun q75 => (some (q75, q33))))))))))
theorem kv_X8_excuses : KV RX8 yX8_excuses cX8_excuses 5 (some .int) 3 := ⟨mw_742, mw_743, mw_55, mw_744, by decide +kernel⟩
set_option maxHeartbeats 8000000 in
set_option maxRecDepth 100000 in
theorem c_X8_excuses {l : Launch} {E : va_G} {cy : Nat → ClassId} (A : Nat → Nat) (hn : HS) (ro : OS) (x1 : Int32) (x2 : Int32) (x3 : Int32) (q : Int32 × OS) (hf : f_X8_excuses hn ro x1 x2 x3 = some q) : Ci l yX8_excuses cX8_excuses 5 (some .int) 5 149 E cy [.ref (A 0), .int x1, .int x2, .int x3] (kdo A :: (wH cy (sh A 10) hn ++ wO cy (sh A 90) ro)) q.1 (kdo A :: (wH cy (sh A 10) hn ++ wO cy (sh A 90) q.2)) := by
  refine Ci.of RX8 (by decide) rfl (Nat.le_of_ble_eq_true rfl) ?_
  intro K hK
  have hc := hK.cq
  show V K (kdo A :: (wH cy (sh A 10) hn ++ wO cy (sh A 90) ro)) 0 [(0, .ref (A 0)), (1, .int x1), (2, .int x2), (3, .int x3)] []
  unfold f_X8_excuses at hf
  refine r_aload_n hc 0 dX8_excuses_0 rfl ?_
  refine r_get (v := .ref ((sh A 10) 0)) hc iw_X8 0 rfl rfl 0 (by decide) mw_295 rfl dX8_excuses_1 ?_
  refine r_iload_n hc 1 dX8_excuses_4 rfl ?_
  obtain ⟨q5, hq5, hf⟩ := o_bind hf
  refine r_callVi (ws' := (kdo A :: (wH cy (sh A 10) hn ++ wO cy (sh A 90) ro))) (As := [.int x1]) (rest := []) hc (c_X1_isThere (sh A 10) hn x1 q5 hq5) kv_X1_isThere mw_404 0 rfl rfl [1, 2, 3, 4, 5, 6, 7, 8, 9, 10] [0, 11, 12, 13] [0, 4, 5, 6, 7, 8, 9, 10, 11, 12, 13, 1, 2, 3] ⟨rfl, rfl, rfl, rfl, rfl, rfl, rfl⟩ rfl rfl (Nat.le_of_ble_eq_true rfl) ⟨by decide, by decide⟩ dX8_excuses_5 ?_
  refine r_if_eq hc 22 dX8_excuses_8 (by decide) (fun c_1 => ?_) (fun c_1 => ?_)
  · have hf := o_pos c_1 hf
    refine r_iconst hc (-1 : Int32) dX8_excuses_22 rfl ?_
    exact r_iret hK (congrArg (fun z9 => z9.1) (Option.some.inj hf)) (congrArg (fun z9 => (kdo A :: (wH cy (sh A 10) hn ++ wO cy (sh A 90) z9.2))) (Option.some.inj hf)) dX8_excuses_23
  · have hf := o_neg c_1 hf
    refine r_aload_n hc 0 dX8_excuses_11 rfl ?_
    refine r_get (v := .ref ((sh A 10) 0)) hc iw_X8 0 rfl rfl 0 (by decide) mw_295 rfl dX8_excuses_12 ?_
    refine r_iload_n hc 2 dX8_excuses_15 rfl ?_
    obtain ⟨q16, hq16, hf⟩ := o_bind hf
    refine r_callVi (ws' := (kdo A :: (wH cy (sh A 10) hn ++ wO cy (sh A 90) ro))) (As := [.int x2]) (rest := []) hc (c_X1_isRoom (sh A 10) hn x2 q16 hq16) kv_X1_isRoom mw_337 0 rfl rfl [1, 2, 3, 4, 5, 6, 7, 8, 9, 10] [0, 11, 12, 13] [0, 4, 5, 6, 7, 8, 9, 10, 11, 12, 13, 1, 2, 3] ⟨rfl, rfl, rfl, rfl, rfl, rfl, rfl⟩ rfl rfl (Nat.le_of_ble_eq_true rfl) ⟨by decide, by decide⟩ dX8_excuses_16 ?_
    refine r_if_ne hc 24 dX8_excuses_19 (by decide) (fun c_2 => ?_) (fun c_2 => ?_)
    · have hf := o_neg c_2 hf
      refine r_aload_n hc 0 dX8_excuses_24 rfl ?_
      refine r_get (v := .ref ((sh A 90) 0)) hc iw_X8 0 rfl rfl 7 (by decide) mw_302 rfl dX8_excuses_25 ?_
      refine r_aload_n hc 0 dX8_excuses_28 rfl ?_
      refine r_get (v := .ref ((sh A 10) 0)) hc iw_X8 0 rfl rfl 0 (by decide) mw_295 rfl dX8_excuses_29 ?_
      refine r_iload_n hc 2 dX8_excuses_32 rfl ?_
      obtain ⟨q33, hq33, hf⟩ := o_bind hf
      refine r_callVv (ws' := (kdo A :: (wH cy (sh A 10) hn ++ wO cy (sh A 90) q33))) (As := [.ref ((sh A 10) 0), .int x2]) (rest := []) hc (c_X5_measure (sh A 90) (sh A 10) ro hn x2 q33 hq33) kv_X5_measure mw_745 0 rfl rfl [11, 12, 13, 1, 2, 3, 4, 5, 6, 7, 8, 9, 10] [0] [0, 4, 5, 6, 7, 8, 9, 10, 11, 12, 13, 1, 2, 3] ⟨rfl, rfl, rfl, rfl, rfl, rfl, rfl⟩ rfl rfl (Nat.le_of_ble_eq_true rfl) ⟨by decide, by decide⟩ dX8_excuses_33 ?_
      refine r_aload_n hc 0 dX8_excuses_36 rfl ?_
      refine r_get (v := .ref ((sh A 10) 0)) hc iw_X8 0 rfl rfl 0 (by decide) mw_295 rfl dX8_excuses_37 ?_
      refine r_get (v := .ref ((sh A 10) 3)) hc iw_X1 1 rfl rfl 5 (by decide) mw_102 rfl dX8_excuses_40 ?_
      refine r_iload_n hc 1 dX8_excuses_43 rfl ?_
      obtain ⟨i_3, hf⟩ := chk_some hf
      refine r_iald (f := (H_place hn)) hc 4 rfl i_3 dX8_excuses_44 ?_
      refine r_istore hc [(4, .int ((H_place hn) (x1).toNatClampNeg)), (0, .ref (A 0)), (1, .int x1), (2, .int x2), (3, .int x3)] dX8_excuses_45 (by decide) rfl ?_
      refine r_iload_n hc 4 dX8_excuses_47 rfl ?_
      refine r_iconst hc (-1 : Int32) dX8_excuses_48 rfl ?_
      refine r_icmp_ne hc 64 dX8_excuses_49 (by decide) (fun c_4 => ?_) (fun c_4 => ?_)
      · have hf := o_neg c_4 hf
        refine r_aload_n hc 1 dX8_excuses_64 rfl ?_
        refine r_get (v := .ref ((sh A 90) 0)) hc iw_X8 0 rfl rfl 7 (by decide) mw_302 rfl dX8_excuses_65 ?_
        refine r_aload_n hc 1 dX8_excuses_68 rfl ?_
        refine r_get (v := .ref ((sh A 10) 0)) hc iw_X8 0 rfl rfl 0 (by decide) mw_295 rfl dX8_excuses_69 ?_
        refine r_iload hc 0 dX8_excuses_72 rfl ?_
        refine r_iload_n hc 4 dX8_excuses_74 rfl ?_
        obtain ⟨q75, hq75, hf⟩ := o_bind hf
        refine r_callVi (ws' := (kdo A :: (wH cy (sh A 10) hn ++ wO cy (sh A 90) q33))) (As := [.ref ((sh A 10) 0), .int ((H_place hn) (x1).toNatClampNeg), .int x3]) (rest := []) hc (c_X5_step (sh A 90) (sh A 10) q33 hn ((H_place hn) (x1).toNatClampNeg) x3 q75 hq75) kv_X5_step mw_761 0 rfl rfl [11, 12, 13, 1, 2, 3, 4, 5, 6, 7, 8, 9, 10] [0] [0, 4, 5, 6, 7, 8, 9, 10, 11, 12, 13, 1, 2, 3] ⟨rfl, rfl, rfl, rfl, rfl, rfl, rfl⟩ rfl rfl (Nat.le_of_ble_eq_true rfl) ⟨by decide, by decide⟩ dX8_excuses_75 ?_
        exact r_iret hK (congrArg (fun z9 => z9.1) (Option.some.inj hf)) (congrArg (fun z9 => (kdo A :: (wH cy (sh A 10) hn ++ wO cy (sh A 90) z9.2))) (Option.some.inj hf)) dX8_excuses_78
      · have hf := o_pos c_4 hf
        refine r_aload_n hc 1 dX8_excuses_52 rfl ?_
        refine r_get (v := .ref ((sh A 90) 0)) hc iw_X8 0 rfl rfl 7 (by decide) mw_302 rfl dX8_excuses_53 ?_
        refine r_iload hc 0 dX8_excuses_56 rfl ?_
        obtain ⟨q58, hq58, hf⟩ := o_bind hf
        refine r_callVi (ws' := (kdo A :: (wH cy (sh A 10) hn ++ wO cy (sh A 90) q33))) (As := [.int ((H_place hn) (x1).toNatClampNeg)]) (rest := []) hc (c_X5_excusesFrom (sh A 90) q33 ((H_place hn) (x1).toNatClampNeg) q58 hq58) kv_X5_excusesFrom mw_757 0 rfl rfl [11, 12, 13] [0, 1, 2, 3, 4, 5, 6, 7, 8, 9, 10] [0, 1, 2, 3, 4, 5, 6, 7, 8, 9, 10, 11, 12, 13] ⟨rfl, rfl, rfl, rfl, rfl, rfl, rfl⟩ rfl rfl (Nat.le_of_ble_eq_true rfl) ⟨by decide, by decide⟩ dX8_excuses_58 ?_
        refine r_goto hc 78 dX8_excuses_61 (by decide) ?_
        exact r_iret hK (congrArg (fun z9 => z9.1) (Option.some.inj hf)) (congrArg (fun z9 => (kdo A :: (wH cy (sh A 10) hn ++ wO cy (sh A 90) z9.2))) (Option.some.inj hf)) dX8_excuses_78
    · have hf := o_pos c_2 hf
      refine r_iconst hc (-1 : Int32) dX8_excuses_22 rfl ?_
      exact r_iret hK (congrArg (fun z9 => z9.1) (Option.some.inj hf)) (congrArg (fun z9 => (kdo A :: (wH cy (sh A 10) hn ++ wO cy (sh A 90) z9.2))) (Option.some.inj hf)) dX8_excuses_23
theorem wH_s_sightGuest {cy : Nat → ClassId} {A : Nat → Nat} {t : HS} {f : Nat → Int32} : (wH cy A t).set 8 (A 8, .inl (cy 0, 6, .inl f)) = wH cy A (H_set_sightGuest t f) := by
  obtain ⟨t1, t2, t3, t4, t5, t6, t7, t8, t9, t10, t11, t12⟩ := t
  show ([(A 0, .inr (1, [.int t1, .int t2, .int t3, .ref (A 1), .ref (A 2), .ref (A 3), .ref (A 4), .ref (A 5), .ref (A 6), .ref (A 7), .ref (A 8), .ref (A 9)])), (A 1, .inl (cy 0, 36, .inl t4)), (A 2, .inl (cy 0, 36, .inl t5)), (A 3, .inl (cy 0, 8, .inl t6)), (A 4, .inl (cy 0, 8, .inl t7)), (A 5, .inl (cy 0, 8, .inl t8)), (A 6, .inl (cy 0, 8, .inl t9)), (A 7, .inl (cy 0, 40, .inl t10)), (A 8, .inl (cy 0, 6, .inl f)), (A 9, .inl (cy 0, 6, .inl t12))] : va_W) = [(A 0, .inr (1, [.int t1, .int t2, .int t3, .ref (A 1), .ref (A 2), .ref (A 3), .ref (A 4), .ref (A 5), .ref (A 6), .ref (A 7), .ref (A 8), .ref (A 9)])), (A 1, .inl (cy 0, 36, .inl t4)), (A 2, .inl (cy 0, 36, .inl t5)), (A 3, .inl (cy 0, 8, .inl t6)), (A 4, .inl (cy 0, 8, .inl t7)), (A 5, .inl (cy 0, 8, .inl t8)), (A 6, .inl (cy 0, 8, .inl t9)), (A 7, .inl (cy 0, 40, .inl t10)), (A 8, .inl (cy 0, 6, .inl f)), (A 9, .inl (cy 0, 6, .inl t12))]
  rfl
theorem wH_s_sightRoom {cy : Nat → ClassId} {A : Nat → Nat} {t : HS} {f : Nat → Int32} : (wH cy A t).set 9 (A 9, .inl (cy 0, 6, .inl f)) = wH cy A (H_set_sightRoom t f) := by
  obtain ⟨t1, t2, t3, t4, t5, t6, t7, t8, t9, t10, t11, t12⟩ := t
  show ([(A 0, .inr (1, [.int t1, .int t2, .int t3, .ref (A 1), .ref (A 2), .ref (A 3), .ref (A 4), .ref (A 5), .ref (A 6), .ref (A 7), .ref (A 8), .ref (A 9)])), (A 1, .inl (cy 0, 36, .inl t4)), (A 2, .inl (cy 0, 36, .inl t5)), (A 3, .inl (cy 0, 8, .inl t6)), (A 4, .inl (cy 0, 8, .inl t7)), (A 5, .inl (cy 0, 8, .inl t8)), (A 6, .inl (cy 0, 8, .inl t9)), (A 7, .inl (cy 0, 40, .inl t10)), (A 8, .inl (cy 0, 6, .inl t11)), (A 9, .inl (cy 0, 6, .inl f))] : va_W) = [(A 0, .inr (1, [.int t1, .int t2, .int t3, .ref (A 1), .ref (A 2), .ref (A 3), .ref (A 4), .ref (A 5), .ref (A 6), .ref (A 7), .ref (A 8), .ref (A 9)])), (A 1, .inl (cy 0, 36, .inl t4)), (A 2, .inl (cy 0, 36, .inl t5)), (A 3, .inl (cy 0, 8, .inl t6)), (A 4, .inl (cy 0, 8, .inl t7)), (A 5, .inl (cy 0, 8, .inl t8)), (A 6, .inl (cy 0, 8, .inl t9)), (A 7, .inl (cy 0, 40, .inl t10)), (A 8, .inl (cy 0, 6, .inl t11)), (A 9, .inl (cy 0, 6, .inl f))]
  rfl
theorem wH_s_sights {cy : Nat → ClassId} {A : Nat → Nat} {t : HS} {v : Int32} : (wH cy A t).set 0 (A 0, .inr (1, List.set [.int (H_rooms t), .int (H_there t), .int (H_sights t), .ref (A 1), .ref (A 2), .ref (A 3), .ref (A 4), .ref (A 5), .ref (A 6), .ref (A 7), .ref (A 8), .ref (A 9)] 2 (.int v))) = wH cy A (H_set_sights t v) := by
  obtain ⟨t1, t2, t3, t4, t5, t6, t7, t8, t9, t10, t11, t12⟩ := t
  show ([(A 0, .inr (1, [.int t1, .int t2, .int v, .ref (A 1), .ref (A 2), .ref (A 3), .ref (A 4), .ref (A 5), .ref (A 6), .ref (A 7), .ref (A 8), .ref (A 9)])), (A 1, .inl (cy 0, 36, .inl t4)), (A 2, .inl (cy 0, 36, .inl t5)), (A 3, .inl (cy 0, 8, .inl t6)), (A 4, .inl (cy 0, 8, .inl t7)), (A 5, .inl (cy 0, 8, .inl t8)), (A 6, .inl (cy 0, 8, .inl t9)), (A 7, .inl (cy 0, 40, .inl t10)), (A 8, .inl (cy 0, 6, .inl t11)), (A 9, .inl (cy 0, 6, .inl t12))] : va_W) = [(A 0, .inr (1, [.int t1, .int t2, .int v, .ref (A 1), .ref (A 2), .ref (A 3), .ref (A 4), .ref (A 5), .ref (A 6), .ref (A 7), .ref (A 8), .ref (A 9)])), (A 1, .inl (cy 0, 36, .inl t4)), (A 2, .inl (cy 0, 36, .inl t5)), (A 3, .inl (cy 0, 8, .inl t6)), (A 4, .inl (cy 0, 8, .inl t7)), (A 5, .inl (cy 0, 8, .inl t8)), (A 6, .inl (cy 0, 8, .inl t9)), (A 7, .inl (cy 0, 40, .inl t10)), (A 8, .inl (cy 0, 6, .inl t11)), (A 9, .inl (cy 0, 6, .inl t12))]
  rfl
def f_X8_seen (hn : HS) (x1 : Int32) (x2 : Int32) : Option (Int32 × HS) :=
  (if x1 < 0 then (some ((-1 : Int32), hn)) else (if (8 : Int32) ≤ x1 then (some ((-1 : Int32), hn)) else ((f_X1_isRoom hn x2).bind fun q15 => (if q15 = 0 then (some ((-1 : Int32), hn)) else (if (H_sights hn) < (6 : Int32) then (chk (H_sights hn) 6 (ltA (upd (H_sightGuest hn) ((H_sights hn)).toNatClampNeg x1) fun f53 => (chk (H_sights hn) 6 (ltA (upd (H_sightRoom hn) ((H_sights hn)).toNatClampNeg x2) fun f69 => (some (((H_sights hn) + (1 : Int32)), (H_set_sights (H_set_sightRoom (H_set_sightGuest hn f53) f69) ((H_sights hn) + (1 : Int32))))))))) else (some ((-4 : Int32), hn)))))))
theorem kv_X8_seen : KV RX8 yX8_seen cX8_seen 3 (some .int) 2 := ⟨mw_770, mw_771, mw_55, mw_772, by decide +kernel⟩
set_option maxHeartbeats 8000000 in
set_option maxRecDepth 100000 in
theorem c_X8_seen {l : Launch} {E : va_G} {cy : Nat → ClassId} (A : Nat → Nat) (hn : HS) (x1 : Int32) (x2 : Int32) (q : Int32 × HS) (hf : f_X8_seen hn x1 x2 = some q) : Ci l yX8_seen cX8_seen 3 (some .int) 2 81 E cy [.ref (A 0), .int x1, .int x2] (kdo A :: (wH cy (sh A 10) hn)) q.1 (kdo A :: (wH cy (sh A 10) q.2)) := by
  refine Ci.of RX8 (by decide) rfl (Nat.le_of_ble_eq_true rfl) ?_
  intro K hK
  have hc := hK.cq
  show V K (kdo A :: (wH cy (sh A 10) hn)) 0 [(0, .ref (A 0)), (1, .int x1), (2, .int x2)] []
  unfold f_X8_seen at hf
  refine r_iload_n hc 1 dX8_seen_0 rfl ?_
  refine r_if_lt hc 21 dX8_seen_1 (by decide) (fun c_1 => ?_) (fun c_1 => ?_)
  · have hf := o_pos c_1 hf
    refine r_iconst hc (-1 : Int32) dX8_seen_21 rfl ?_
    exact r_iret hK (congrArg (fun z9 => z9.1) (Option.some.inj hf)) (congrArg (fun z9 => (kdo A :: (wH cy (sh A 10) z9.2))) (Option.some.inj hf)) dX8_seen_22
  · have hf := o_neg c_1 hf
    refine r_iload_n hc 1 dX8_seen_4 rfl ?_
    refine r_bipush hc (8 : Int32) dX8_seen_5 rfl ?_
    refine r_icmp_ge hc 21 dX8_seen_7 (by decide) (fun c_2 => ?_) (fun c_2 => ?_)
    · have hf := o_pos c_2 hf
      refine r_iconst hc (-1 : Int32) dX8_seen_21 rfl ?_
      exact r_iret hK (congrArg (fun z9 => z9.1) (Option.some.inj hf)) (congrArg (fun z9 => (kdo A :: (wH cy (sh A 10) z9.2))) (Option.some.inj hf)) dX8_seen_22
    · have hf := o_neg c_2 hf
      refine r_aload_n hc 0 dX8_seen_10 rfl ?_
      refine r_get (v := .ref ((sh A 10) 0)) hc iw_X8 0 rfl rfl 0 (by decide) mw_295 rfl dX8_seen_11 ?_
      refine r_iload_n hc 2 dX8_seen_14 rfl ?_
      obtain ⟨q15, hq15, hf⟩ := o_bind hf
      refine r_callVi (ws' := (kdo A :: (wH cy (sh A 10) hn))) (As := [.int x2]) (rest := []) hc (c_X1_isRoom (sh A 10) hn x2 q15 hq15) kv_X1_isRoom mw_337 0 rfl rfl [1, 2, 3, 4, 5, 6, 7, 8, 9, 10] [0] [0, 1, 2, 3, 4, 5, 6, 7, 8, 9, 10] ⟨rfl, rfl, rfl, rfl, rfl, rfl, rfl⟩ rfl rfl (Nat.le_of_ble_eq_true rfl) ⟨by decide, by decide⟩ dX8_seen_15 ?_
      refine r_if_ne hc 23 dX8_seen_18 (by decide) (fun c_3 => ?_) (fun c_3 => ?_)
      · have hf := o_neg c_3 hf
        refine r_aload_n hc 0 dX8_seen_23 rfl ?_
        refine r_get (v := .ref ((sh A 10) 0)) hc iw_X8 0 rfl rfl 0 (by decide) mw_295 rfl dX8_seen_24 ?_
        refine r_get (v := .int (H_sights hn)) hc iw_X1 1 rfl rfl 2 (by decide) mw_92 rfl dX8_seen_27 ?_
        refine r_bipush hc (6 : Int32) dX8_seen_30 rfl ?_
        refine r_icmp_lt hc 38 dX8_seen_32 (by decide) (fun c_4 => ?_) (fun c_4 => ?_)
        · have hf := o_pos c_4 hf
          refine r_aload_n hc 0 dX8_seen_38 rfl ?_
          refine r_get (v := .ref ((sh A 10) 0)) hc iw_X8 0 rfl rfl 0 (by decide) mw_295 rfl dX8_seen_39 ?_
          refine r_get (v := .ref ((sh A 10) 8)) hc iw_X1 1 rfl rfl 10 (by decide) mw_114 rfl dX8_seen_42 ?_
          refine r_aload_n hc 0 dX8_seen_45 rfl ?_
          refine r_get (v := .ref ((sh A 10) 0)) hc iw_X8 0 rfl rfl 0 (by decide) mw_295 rfl dX8_seen_46 ?_
          refine r_get (v := .int (H_sights hn)) hc iw_X1 1 rfl rfl 2 (by decide) mw_92 rfl dX8_seen_49 ?_
          refine r_iload_n hc 1 dX8_seen_52 rfl ?_
          obtain ⟨i_5, hf⟩ := chk_some hf
          obtain ⟨f53, ef53, hf⟩ := lt_some hf
          refine r_iast (f := (H_sightGuest hn)) hc 9 rfl i_5 dX8_seen_53 f53 ef53 (kdo A :: (wH cy (sh A 10) (H_set_sightGuest hn f53))) (congrArg (List.cons (kdo A)) wH_s_sightGuest) ?_
          refine r_aload_n hc 0 dX8_seen_54 rfl ?_
          refine r_get (v := .ref ((sh A 10) 0)) hc iw_X8 0 rfl rfl 0 (by decide) mw_295 rfl dX8_seen_55 ?_
          refine r_get (v := .ref ((sh A 10) 9)) hc iw_X1 1 rfl rfl 11 (by decide) mw_116 rfl dX8_seen_58 ?_
          refine r_aload_n hc 0 dX8_seen_61 rfl ?_
          refine r_get (v := .ref ((sh A 10) 0)) hc iw_X8 0 rfl rfl 0 (by decide) mw_295 rfl dX8_seen_62 ?_
          refine r_get (v := .int (H_sights hn)) hc iw_X1 1 rfl rfl 2 (by decide) mw_92 rfl dX8_seen_65 ?_
          refine r_iload_n hc 2 dX8_seen_68 rfl ?_
          obtain ⟨i_6, hf⟩ := chk_some hf
          obtain ⟨f69, ef69, hf⟩ := lt_some hf
          refine r_iast (f := (H_sightRoom hn)) hc 10 rfl i_6 dX8_seen_69 f69 ef69 (kdo A :: (wH cy (sh A 10) (H_set_sightRoom (H_set_sightGuest hn f53) f69))) (congrArg (List.cons (kdo A)) wH_s_sightRoom) ?_
          refine r_aload_n hc 0 dX8_seen_70 rfl ?_
          refine r_get (v := .ref ((sh A 10) 0)) hc iw_X8 0 rfl rfl 0 (by decide) mw_295 rfl dX8_seen_71 ?_
          refine r_dup hc dX8_seen_74 rfl ?_
          refine r_get (v := .int (H_sights hn)) hc iw_X1 1 rfl rfl 2 (by decide) mw_92 rfl dX8_seen_75 ?_
          refine r_iconst hc (1 : Int32) dX8_seen_78 rfl ?_
          refine r_iadd hc dX8_seen_79 ?_
          refine r_put hc iw_X1 tyX1 tyX1_ok nmX1 1 rfl rfl 2 (by decide) mw_92 rfl rfl rfl (Nat.le_of_ble_eq_true rfl) dX8_seen_80 (kdo A :: (wH cy (sh A 10) (H_set_sights (H_set_sightRoom (H_set_sightGuest hn f53) f69) ((H_sights hn) + (1 : Int32))))) (congrArg (List.cons (kdo A)) wH_s_sights) ?_
          refine r_aload_n hc 0 dX8_seen_83 rfl ?_
          refine r_get (v := .ref ((sh A 10) 0)) hc iw_X8 0 rfl rfl 0 (by decide) mw_295 rfl dX8_seen_84 ?_
          refine r_get (v := .int ((H_sights hn) + (1 : Int32))) hc iw_X1 1 rfl rfl 2 (by decide) mw_92 rfl dX8_seen_87 ?_
          exact r_iret hK (congrArg (fun z9 => z9.1) (Option.some.inj hf)) (congrArg (fun z9 => (kdo A :: (wH cy (sh A 10) z9.2))) (Option.some.inj hf)) dX8_seen_90
        · have hf := o_neg c_4 hf
          refine r_bipush hc (-4 : Int32) dX8_seen_35 rfl ?_
          exact r_iret hK (congrArg (fun z9 => z9.1) (Option.some.inj hf)) (congrArg (fun z9 => (kdo A :: (wH cy (sh A 10) z9.2))) (Option.some.inj hf)) dX8_seen_37
      · have hf := o_pos c_3 hf
        refine r_iconst hc (-1 : Int32) dX8_seen_21 rfl ?_
        exact r_iret hK (congrArg (fun z9 => z9.1) (Option.some.inj hf)) (congrArg (fun z9 => (kdo A :: (wH cy (sh A 10) z9.2))) (Option.some.inj hf)) dX8_seen_22
def f_X8_forget (hn : HS) : Option (Int32 × HS) :=
  (some ((H_sights hn), (H_set_sights hn (0 : Int32))))
theorem kv_X8_forget : KV RX8 yX8_forget cX8_forget 2 (some .int) 0 := ⟨mw_774, mw_775, mw_55, mw_776, by decide +kernel⟩
set_option maxHeartbeats 8000000 in
set_option maxRecDepth 100000 in
theorem c_X8_forget {l : Launch} {E : va_G} {cy : Nat → ClassId} (A : Nat → Nat) (hn : HS) (q : Int32 × HS) (hf : f_X8_forget hn = some q) : Ci l yX8_forget cX8_forget 2 (some .int) 1 60 E cy [.ref (A 0)] (kdo A :: (wH cy (sh A 10) hn)) q.1 (kdo A :: (wH cy (sh A 10) q.2)) := by
  refine Ci.of RX8 (by decide) rfl (Nat.le_of_ble_eq_true rfl) ?_
  intro K hK
  have hc := hK.cq
  show V K (kdo A :: (wH cy (sh A 10) hn)) 0 [(0, .ref (A 0))] []
  unfold f_X8_forget at hf
  refine r_aload_n hc 0 dX8_forget_0 rfl ?_
  refine r_get (v := .ref ((sh A 10) 0)) hc iw_X8 0 rfl rfl 0 (by decide) mw_295 rfl dX8_forget_1 ?_
  refine r_get (v := .int (H_sights hn)) hc iw_X1 1 rfl rfl 2 (by decide) mw_92 rfl dX8_forget_4 ?_
  refine r_istore_n hc [(1, .int (H_sights hn)), (0, .ref (A 0))] dX8_forget_7 (by decide) rfl ?_
  refine r_aload_n hc 1 dX8_forget_8 rfl ?_
  refine r_get (v := .ref ((sh A 10) 0)) hc iw_X8 0 rfl rfl 0 (by decide) mw_295 rfl dX8_forget_9 ?_
  refine r_iconst hc (0 : Int32) dX8_forget_12 rfl ?_
  refine r_put hc iw_X1 tyX1 tyX1_ok nmX1 1 rfl rfl 2 (by decide) mw_92 rfl rfl rfl (Nat.le_of_ble_eq_true rfl) dX8_forget_13 (kdo A :: (wH cy (sh A 10) (H_set_sights hn (0 : Int32)))) (congrArg (List.cons (kdo A)) wH_s_sights) ?_
  refine r_iload_n hc 0 dX8_forget_16 rfl ?_
  exact r_iret hK (congrArg (fun z9 => z9.1) (Option.some.inj hf)) (congrArg (fun z9 => (kdo A :: (wH cy (sh A 10) z9.2))) (Option.some.inj hf)) dX8_forget_17
def X8_tastes_J101 (k41 : HS → DS → Int32 → Int32 → Int32 → Int32 → Option (Int32 × DS)) (hn : HS) (dr : DS) (x1 : Int32) (x2 : Int32) (x3 : Int32) (x4 : Int32) : Option (Int32 × DS) :=
  (k41 hn dr x1 x2 x3 (x4 + (1 : Int32)))
def X8_tastes_B41 (k41 : HS → DS → Int32 → Int32 → Int32 → Int32 → Option (Int32 × DS)) (hn : HS) (dr : DS) (x1 : Int32) (x2 : Int32) (x3 : Int32) (x4 : Int32) : Option (Int32 × DS) :=
  (if (6 : Int32) < x4 then (some (x3, dr)) else (chk ((x1 * (5 : Int32)) + x2) 40 (ltA (upd (H_likes (D_house dr)) (((x1 * (5 : Int32)) + x2)).toNatClampNeg (x4 - (3 : Int32))) fun f67 => ((f_X0_ready (D_set_house dr (H_set_likes (D_house dr) f67))).bind fun q72 => ((f_X0_target q72 x1).bind fun q85 => ((f_X1_sightsHold hn x1 q85).bind fun q88 => (if q88 = 0 then (X8_tastes_J101 k41 hn q72 x1 x2 x3 x4) else (X8_tastes_J101 k41 hn q72 x1 x2 (x3 ||| ((1 : Int32) <<< (x4 &&& 31))) x4))))))))
def f_X8_tastes (hn : HS) (dr : DS) (x1 : Int32) (x2 : Int32) : Option (Int32 × DS) :=
  ((f_X1_isThere hn x1).bind fun q5 => (if q5 = 0 then (some ((-1 : Int32), dr)) else (if x2 < 0 then (some ((-2 : Int32), dr)) else (if x2 < (5 : Int32) then ((f_X0_begin dr hn).bind fun q33 => (it X8_tastes_B41 (fun _ _ _ _ _ _ => none) FU hn q33 x1 x2 (0 : Int32) (0 : Int32))) else (some ((-2 : Int32), dr))))))
theorem kv_X8_tastes : KV RX8 yX8_tastes cX8_tastes 5 (some .int) 2 := ⟨mw_778, mw_779, mw_55, mw_780, by decide +kernel⟩
set_option maxHeartbeats 8000000 in
set_option maxRecDepth 100000 in
theorem c_X8_tastes {l : Launch} {E : va_G} {cy : Nat → ClassId} (A : Nat → Nat) (hn : HS) (dr : DS) (x1 : Int32) (x2 : Int32) (q : Int32 × DS) (hf : f_X8_tastes hn dr x1 x2 = some q) : Ci l yX8_tastes cX8_tastes 5 (some .int) 5 148 E cy [.ref (A 0), .int x1, .int x2] (kdo A :: (wH cy (sh A 10) hn ++ wD cy (sh A 50) dr)) q.1 (kdo A :: (wH cy (sh A 10) hn ++ wD cy (sh A 50) q.2)) := by
  refine Ci.of RX8 (by decide) rfl (Nat.le_of_ble_eq_true rfl) ?_
  intro K hK
  have hc := hK.cq
  have L41 : ∀ (n41 : Nat) (dr : DS) (x1 : Int32) (x2 : Int32) (x3 : Int32) (x4 : Int32), it X8_tastes_B41 (fun _ _ _ _ _ _ => none) n41 hn dr x1 x2 x3 x4 = some q → V K (kdo A :: (wH cy (sh A 10) hn ++ wD cy (sh A 50) dr)) 41 [(0, .ref (A 0)), (1, .int x1), (2, .int x2), (3, .int x3), (4, .int x4)] [] := by
    intro n41
    induction n41 with
    | zero => intro dr x1 x2 x3 x4 hf; exact (o_none hf).elim
    | succ n41 ih41 =>
      have J101 : ∀ (dr : DS) (x1 : Int32) (x2 : Int32) (x3 : Int32) (x4 : Int32), X8_tastes_J101 (it X8_tastes_B41 (fun _ _ _ _ _ _ => none) n41) hn dr x1 x2 x3 x4 = some q → V K (kdo A :: (wH cy (sh A 10) hn ++ wD cy (sh A 50) dr)) 101 [(0, .ref (A 0)), (1, .int x1), (2, .int x2), (3, .int x3), (4, .int x4)] [] := by
        intro dr x1 x2 x3 x4 hf
        unfold X8_tastes_J101 at hf
        refine r_iinc hc 4 [(4, .int (x4 + (1 : Int32))), (0, .ref (A 0)), (1, .int x1), (2, .int x2), (3, .int x3)] (x4 + (1 : Int32)) dX8_tastes_101 rfl rfl (by decide) rfl ?_
        refine r_goto hc 41 dX8_tastes_104 (by decide) ?_
        exact V.sub [1, 2, 3, 4, 0] rfl (ih41 dr x1 x2 x3 (x4 + (1 : Int32)) hf)
      intro dr x1 x2 x3 x4 hf
      replace hf : X8_tastes_B41 (it X8_tastes_B41 (fun _ _ _ _ _ _ => none) n41) hn dr x1 x2 x3 x4 = some q := hf
      unfold X8_tastes_B41 at hf
      refine r_iload hc 4 dX8_tastes_41 rfl ?_
      refine r_bipush hc (6 : Int32) dX8_tastes_43 rfl ?_
      refine r_icmp_gt hc 107 dX8_tastes_45 (by decide) (fun c_4 => ?_) (fun c_4 => ?_)
      · have hf := o_pos c_4 hf
        refine r_iload_n hc 3 dX8_tastes_107 rfl ?_
        exact r_iret hK (congrArg (fun z9 => z9.1) (Option.some.inj hf)) (congrArg (fun z9 => (kdo A :: (wH cy (sh A 10) hn ++ wD cy (sh A 50) z9.2))) (Option.some.inj hf)) dX8_tastes_108
      · have hf := o_neg c_4 hf
        refine r_aload_n hc 0 dX8_tastes_48 rfl ?_
        refine r_get (v := .ref ((sh A 50) 0)) hc iw_X8 0 rfl rfl 4 (by decide) mw_299 rfl dX8_tastes_49 ?_
        refine r_get (v := .ref ((sh (sh A 50) 5) 0)) hc iw_X0 11 rfl rfl 0 (by decide) mw_171 rfl dX8_tastes_52 ?_
        refine r_get (v := .ref ((sh (sh A 50) 5) 7)) hc iw_X1 16 rfl rfl 9 (by decide) mw_111 rfl dX8_tastes_55 ?_
        refine r_iload_n hc 1 dX8_tastes_58 rfl ?_
        refine r_iconst hc (5 : Int32) dX8_tastes_59 rfl ?_
        refine r_imul hc dX8_tastes_60 ?_
        refine r_iload_n hc 2 dX8_tastes_61 rfl ?_
        refine r_iadd hc dX8_tastes_62 ?_
        refine r_iload hc 4 dX8_tastes_63 rfl ?_
        refine r_iconst hc (3 : Int32) dX8_tastes_65 rfl ?_
        refine r_isub hc dX8_tastes_66 ?_
        obtain ⟨i_5, hf⟩ := chk_some hf
        obtain ⟨f67, ef67, hf⟩ := lt_some hf
        refine r_iast (f := (H_likes (D_house dr))) hc 23 rfl i_5 dX8_tastes_67 f67 ef67 (kdo A :: (wH cy (sh A 10) hn ++ wD cy (sh A 50) (D_set_house dr (H_set_likes (D_house dr) f67)))) rfl ?_
        refine r_aload_n hc 0 dX8_tastes_68 rfl ?_
        refine r_get (v := .ref ((sh A 50) 0)) hc iw_X8 0 rfl rfl 4 (by decide) mw_299 rfl dX8_tastes_69 ?_
        obtain ⟨q72, hq72, hf⟩ := o_bind hf
        refine r_callVBv (ws' := (kdo A :: (wH cy (sh A 10) hn ++ wD cy (sh A 50) q72))) (As := []) (rest := []) hc (c_X0_ready (sh A 50) (D_set_house dr (H_set_likes (D_house dr) f67)) q72 hq72) kv_X0_ready mw_664 0 rfl rfl [[kdo A], wH cy (sh A 10) hn, wDo cy (sh A 50) (D_set_house dr (H_set_likes (D_house dr) f67)), wH cy (sh (sh A 50) 5) (D_house (D_set_house dr (H_set_likes (D_house dr) f67)))] [[kdo A], wH cy (sh A 10) hn] [wDo cy (sh A 50) (D_set_house dr (H_set_likes (D_house dr) f67)), wH cy (sh (sh A 50) 5) (D_house (D_set_house dr (H_set_likes (D_house dr) f67)))] [wDo cy (sh A 50) q72, wH cy (sh (sh A 50) 5) (D_house q72)] [[kdo A], wH cy (sh A 10) hn, wDo cy (sh A 50) q72, wH cy (sh (sh A 50) 5) (D_house q72)] [0, 1, 2, 3] [0, 1, 2, 3] ⟨(by simp only [wD_eq, List.flatten_cons, List.flatten_nil, List.append_nil, List.append_assoc, List.cons_append, List.nil_append]), (by simp only [wD_eq, List.flatten_cons, List.flatten_nil, List.append_nil, List.append_assoc, List.cons_append, List.nil_append]), (by simp only [wD_eq, List.flatten_cons, List.flatten_nil, List.append_nil, List.append_assoc, List.cons_append, List.nil_append]), (by simp only [wD_eq, List.flatten_cons, List.flatten_nil, List.append_nil, List.append_assoc, List.cons_append, List.nil_append]), rfl, (show List.Perm [0, 1, 2, 3] (List.range 4) from by decide), rfl, (show List.Perm [0, 1, 2, 3] (List.range 4) from by decide)⟩ rfl rfl (Nat.le_of_ble_eq_true rfl) ⟨by decide, by decide⟩ dX8_tastes_72 ?_
        refine r_aload_n hc 0 dX8_tastes_75 rfl ?_
        refine r_get (v := .ref ((sh A 10) 0)) hc iw_X8 0 rfl rfl 0 (by decide) mw_295 rfl dX8_tastes_76 ?_
        refine r_iload_n hc 1 dX8_tastes_79 rfl ?_
        refine r_aload_n hc 0 dX8_tastes_80 rfl ?_
        refine r_get (v := .ref ((sh A 50) 0)) hc iw_X8 0 rfl rfl 4 (by decide) mw_299 rfl dX8_tastes_81 ?_
        refine r_iload_n hc 1 dX8_tastes_84 rfl ?_
        obtain ⟨q85, hq85, hf⟩ := o_bind hf
        refine r_callVBi (ws' := (kdo A :: (wH cy (sh A 10) hn ++ wD cy (sh A 50) q72))) (As := [.int x1]) (rest := [.int x1, .ref ((sh A 10) 0)]) hc (c_X0_target (sh A 50) q72 x1 q85 hq85) kv_X0_target mw_597 0 rfl rfl [[kdo A], wH cy (sh A 10) hn, wDo cy (sh A 50) q72, wH cy (sh (sh A 50) 5) (D_house q72)] [[kdo A], wH cy (sh A 10) hn] [wDo cy (sh A 50) q72, wH cy (sh (sh A 50) 5) (D_house q72)] [wDo cy (sh A 50) q72, wH cy (sh (sh A 50) 5) (D_house q72)] [[kdo A], wH cy (sh A 10) hn, wDo cy (sh A 50) q72, wH cy (sh (sh A 50) 5) (D_house q72)] [0, 1, 2, 3] [0, 1, 2, 3] ⟨(by simp only [wD_eq, List.flatten_cons, List.flatten_nil, List.append_nil, List.append_assoc, List.cons_append, List.nil_append]), (by simp only [wD_eq, List.flatten_cons, List.flatten_nil, List.append_nil, List.append_assoc, List.cons_append, List.nil_append]), (by simp only [wD_eq, List.flatten_cons, List.flatten_nil, List.append_nil, List.append_assoc, List.cons_append, List.nil_append]), (by simp only [wD_eq, List.flatten_cons, List.flatten_nil, List.append_nil, List.append_assoc, List.cons_append, List.nil_append]), rfl, (show List.Perm [0, 1, 2, 3] (List.range 4) from by decide), rfl, (show List.Perm [0, 1, 2, 3] (List.range 4) from by decide)⟩ rfl rfl (Nat.le_of_ble_eq_true rfl) ⟨by decide, by decide⟩ dX8_tastes_85 ?_
        obtain ⟨q88, hq88, hf⟩ := o_bind hf
        refine r_callVBi (ws' := (kdo A :: (wH cy (sh A 10) hn ++ wD cy (sh A 50) q72))) (As := [.int x1, .int q85]) (rest := []) hc (c_X1_sightsHold (sh A 10) hn x1 q85 q88 hq88) kv_X1_sightsHold mw_781 0 rfl rfl [[kdo A], wH cy (sh A 10) hn, wDo cy (sh A 50) q72, wH cy (sh (sh A 50) 5) (D_house q72)] [[kdo A], wDo cy (sh A 50) q72, wH cy (sh (sh A 50) 5) (D_house q72)] [wH cy (sh A 10) hn] [wH cy (sh A 10) hn] [[kdo A], wH cy (sh A 10) hn, wDo cy (sh A 50) q72, wH cy (sh (sh A 50) 5) (D_house q72)] [0, 2, 3, 1] [0, 3, 1, 2] ⟨(by simp only [wD_eq, List.flatten_cons, List.flatten_nil, List.append_nil, List.append_assoc, List.cons_append, List.nil_append]), (by simp only [wD_eq, List.flatten_cons, List.flatten_nil, List.append_nil, List.append_assoc, List.cons_append, List.nil_append]), (by simp only [wD_eq, List.flatten_cons, List.flatten_nil, List.append_nil, List.append_assoc, List.cons_append, List.nil_append]), (by simp only [wD_eq, List.flatten_cons, List.flatten_nil, List.append_nil, List.append_assoc, List.cons_append, List.nil_append]), rfl, (show List.Perm [0, 2, 3, 1] (List.range 4) from by decide), rfl, (show List.Perm [0, 3, 1, 2] (List.range 4) from by decide)⟩ rfl rfl (Nat.le_of_ble_eq_true rfl) ⟨by decide, by decide⟩ dX8_tastes_88 ?_
        refine r_if_eq hc 101 dX8_tastes_91 (by decide) (fun c_6 => ?_) (fun c_6 => ?_)
        · have hf := o_pos c_6 hf
          exact V.sub [0, 1, 2, 3, 4] rfl (J101 q72 x1 x2 x3 x4 hf)
        · have hf := o_neg c_6 hf
          refine r_iload_n hc 3 dX8_tastes_94 rfl ?_
          refine r_iconst hc (1 : Int32) dX8_tastes_95 rfl ?_
          refine r_iload hc 4 dX8_tastes_96 rfl ?_
          refine r_ishl hc dX8_tastes_98 ?_
          refine r_ior hc dX8_tastes_99 ?_
          refine r_istore_n hc [(3, .int (x3 ||| ((1 : Int32) <<< (x4 &&& 31)))), (0, .ref (A 0)), (1, .int x1), (2, .int x2), (4, .int x4)] dX8_tastes_100 (by decide) rfl ?_
          exact V.sub [1, 2, 3, 0, 4] rfl (J101 q72 x1 x2 (x3 ||| ((1 : Int32) <<< (x4 &&& 31))) x4 hf)
  show V K (kdo A :: (wH cy (sh A 10) hn ++ wD cy (sh A 50) dr)) 0 [(0, .ref (A 0)), (1, .int x1), (2, .int x2)] []
  unfold f_X8_tastes at hf
  refine r_aload_n hc 0 dX8_tastes_0 rfl ?_
  refine r_get (v := .ref ((sh A 10) 0)) hc iw_X8 0 rfl rfl 0 (by decide) mw_295 rfl dX8_tastes_1 ?_
  refine r_iload_n hc 1 dX8_tastes_4 rfl ?_
  obtain ⟨q5, hq5, hf⟩ := o_bind hf
  refine r_callVBi (ws' := (kdo A :: (wH cy (sh A 10) hn ++ wD cy (sh A 50) dr))) (As := [.int x1]) (rest := []) hc (c_X1_isThere (sh A 10) hn x1 q5 hq5) kv_X1_isThere mw_404 0 rfl rfl [[kdo A], wH cy (sh A 10) hn, wDo cy (sh A 50) dr, wH cy (sh (sh A 50) 5) (D_house dr)] [[kdo A], wDo cy (sh A 50) dr, wH cy (sh (sh A 50) 5) (D_house dr)] [wH cy (sh A 10) hn] [wH cy (sh A 10) hn] [[kdo A], wH cy (sh A 10) hn, wDo cy (sh A 50) dr, wH cy (sh (sh A 50) 5) (D_house dr)] [0, 2, 3, 1] [0, 3, 1, 2] ⟨(by simp only [wD_eq, List.flatten_cons, List.flatten_nil, List.append_nil, List.append_assoc, List.cons_append, List.nil_append]), (by simp only [wD_eq, List.flatten_cons, List.flatten_nil, List.append_nil, List.append_assoc, List.cons_append, List.nil_append]), (by simp only [wD_eq, List.flatten_cons, List.flatten_nil, List.append_nil, List.append_assoc, List.cons_append, List.nil_append]), (by simp only [wD_eq, List.flatten_cons, List.flatten_nil, List.append_nil, List.append_assoc, List.cons_append, List.nil_append]), rfl, (show List.Perm [0, 2, 3, 1] (List.range 4) from by decide), rfl, (show List.Perm [0, 3, 1, 2] (List.range 4) from by decide)⟩ rfl rfl (Nat.le_of_ble_eq_true rfl) ⟨by decide, by decide⟩ dX8_tastes_5 ?_
  refine r_if_ne hc 13 dX8_tastes_8 (by decide) (fun c_1 => ?_) (fun c_1 => ?_)
  · have hf := o_neg c_1 hf
    refine r_iload_n hc 2 dX8_tastes_13 rfl ?_
    refine r_if_lt hc 22 dX8_tastes_14 (by decide) (fun c_2 => ?_) (fun c_2 => ?_)
    · have hf := o_pos c_2 hf
      refine r_bipush hc (-2 : Int32) dX8_tastes_22 rfl ?_
      exact r_iret hK (congrArg (fun z9 => z9.1) (Option.some.inj hf)) (congrArg (fun z9 => (kdo A :: (wH cy (sh A 10) hn ++ wD cy (sh A 50) z9.2))) (Option.some.inj hf)) dX8_tastes_24
    · have hf := o_neg c_2 hf
      refine r_iload_n hc 2 dX8_tastes_17 rfl ?_
      refine r_iconst hc (5 : Int32) dX8_tastes_18 rfl ?_
      refine r_icmp_lt hc 25 dX8_tastes_19 (by decide) (fun c_3 => ?_) (fun c_3 => ?_)
      · have hf := o_pos c_3 hf
        refine r_aload_n hc 0 dX8_tastes_25 rfl ?_
        refine r_get (v := .ref ((sh A 50) 0)) hc iw_X8 0 rfl rfl 4 (by decide) mw_299 rfl dX8_tastes_26 ?_
        refine r_aload_n hc 0 dX8_tastes_29 rfl ?_
        refine r_get (v := .ref ((sh A 10) 0)) hc iw_X8 0 rfl rfl 0 (by decide) mw_295 rfl dX8_tastes_30 ?_
        obtain ⟨q33, hq33, hf⟩ := o_bind hf
        refine r_callVBv (ws' := (kdo A :: (wH cy (sh A 10) hn ++ wD cy (sh A 50) q33))) (As := [.ref ((sh A 10) 0)]) (rest := []) hc (c_X0_begin (sh A 50) (sh A 10) dr hn q33 hq33) kv_X0_begin mw_596 0 rfl rfl [[kdo A], wH cy (sh A 10) hn, wDo cy (sh A 50) dr, wH cy (sh (sh A 50) 5) (D_house dr)] [[kdo A]] [wDo cy (sh A 50) dr, wH cy (sh (sh A 50) 5) (D_house dr), wH cy (sh A 10) hn] [wDo cy (sh A 50) q33, wH cy (sh (sh A 50) 5) (D_house q33), wH cy (sh A 10) hn] [[kdo A], wH cy (sh A 10) hn, wDo cy (sh A 50) q33, wH cy (sh (sh A 50) 5) (D_house q33)] [0, 2, 3, 1] [0, 3, 1, 2] ⟨(by simp only [wD_eq, List.flatten_cons, List.flatten_nil, List.append_nil, List.append_assoc, List.cons_append, List.nil_append]), (by simp only [wD_eq, List.flatten_cons, List.flatten_nil, List.append_nil, List.append_assoc, List.cons_append, List.nil_append]), (by simp only [wD_eq, List.flatten_cons, List.flatten_nil, List.append_nil, List.append_assoc, List.cons_append, List.nil_append]), (by simp only [wD_eq, List.flatten_cons, List.flatten_nil, List.append_nil, List.append_assoc, List.cons_append, List.nil_append]), rfl, (show List.Perm [0, 2, 3, 1] (List.range 4) from by decide), rfl, (show List.Perm [0, 3, 1, 2] (List.range 4) from by decide)⟩ rfl rfl (Nat.le_of_ble_eq_true rfl) ⟨by decide, by decide⟩ dX8_tastes_33 ?_
        refine r_iconst hc (0 : Int32) dX8_tastes_36 rfl ?_
        refine r_istore_n hc [(3, .int (0 : Int32)), (0, .ref (A 0)), (1, .int x1), (2, .int x2)] dX8_tastes_37 (by decide) rfl ?_
        refine r_iconst hc (0 : Int32) dX8_tastes_38 rfl ?_
        refine r_istore hc [(4, .int (0 : Int32)), (3, .int (0 : Int32)), (0, .ref (A 0)), (1, .int x1), (2, .int x2)] dX8_tastes_39 (by decide) rfl ?_
        exact V.sub [2, 3, 4, 1, 0] rfl (L41 FU q33 x1 x2 (0 : Int32) (0 : Int32) hf)
      · have hf := o_neg c_3 hf
        refine r_bipush hc (-2 : Int32) dX8_tastes_22 rfl ?_
        exact r_iret hK (congrArg (fun z9 => z9.1) (Option.some.inj hf)) (congrArg (fun z9 => (kdo A :: (wH cy (sh A 10) hn ++ wD cy (sh A 50) z9.2))) (Option.some.inj hf)) dX8_tastes_24
  · have hf := o_pos c_1 hf
    refine r_iconst hc (-1 : Int32) dX8_tastes_11 rfl ?_
    exact r_iret hK (congrArg (fun z9 => z9.1) (Option.some.inj hf)) (congrArg (fun z9 => (kdo A :: (wH cy (sh A 10) hn ++ wD cy (sh A 50) z9.2))) (Option.some.inj hf)) dX8_tastes_12
def f_X8_year (hn : HS) (dr : DS) (yr : US) (x1 : Int32) (x2 : Int32) (x3 : Int32) : Option (Int32 × DS × US) :=
  (if x1 < 0 then (some ((-2 : Int32), dr, yr)) else (if (9999 : Int32) < x1 then (some ((-2 : Int32), dr, yr)) else (if x2 < (1 : Int32) then (some ((-2 : Int32), dr, yr)) else (if (99 : Int32) < x2 then (some ((-2 : Int32), dr, yr)) else (if x3 < 0 then (some ((-2 : Int32), dr, yr)) else (if x3 ≤ (2 : Int32) then ((f_X0_begin dr hn).bind fun q42 => ((f_X7_pass yr q42 x1 x2).bind fun q55 => (if x3 = 0 then (some ((U_went q55.1), q55.2, q55.1)) else (if x3 = (1 : Int32) then (some ((U_talks q55.1), q55.2, q55.1)) else ((f_X1_count (D_house q55.2) (0 : Int32)).bind fun q93 => (some (q93, q55.2, q55.1))))))) else (some ((-2 : Int32), dr, yr))))))))
theorem kv_X8_year : KV RX8 yX8_year cX8_year 4 (some .int) 3 := ⟨mw_819, mw_820, mw_55, mw_821, by decide +kernel⟩
set_option maxHeartbeats 8000000 in
set_option maxRecDepth 100000 in
theorem c_X8_year {l : Launch} {E : va_G} {cy : Nat → ClassId} (A : Nat → Nat) (hn : HS) (dr : DS) (yr : US) (x1 : Int32) (x2 : Int32) (x3 : Int32) (q : Int32 × DS × US) (hf : f_X8_year hn dr yr x1 x2 x3 = some q) : Ci l yX8_year cX8_year 4 (some .int) 5 158 E cy [.ref (A 0), .int x1, .int x2, .int x3] (kdo A :: (wH cy (sh A 10) hn ++ wD cy (sh A 50) dr ++ wU cy (sh A 110) yr)) q.1 (kdo A :: (wH cy (sh A 10) hn ++ wD cy (sh A 50) q.2.1 ++ wU cy (sh A 110) q.2.2)) := by
  refine Ci.of RX8 (by decide) rfl (Nat.le_of_ble_eq_true rfl) ?_
  intro K hK
  have hc := hK.cq
  show V K (kdo A :: (wH cy (sh A 10) hn ++ wD cy (sh A 50) dr ++ wU cy (sh A 110) yr)) 0 [(0, .ref (A 0)), (1, .int x1), (2, .int x2), (3, .int x3)] []
  unfold f_X8_year at hf
  refine r_iload_n hc 1 dX8_year_0 rfl ?_
  refine r_if_lt hc 31 dX8_year_1 (by decide) (fun c_1 => ?_) (fun c_1 => ?_)
  · have hf := o_pos c_1 hf
    refine r_bipush hc (-2 : Int32) dX8_year_31 rfl ?_
    exact r_iret hK (congrArg (fun z9 => z9.1) (Option.some.inj hf)) (congrArg (fun z9 => (kdo A :: (wH cy (sh A 10) hn ++ wD cy (sh A 50) z9.2.1 ++ wU cy (sh A 110) z9.2.2))) (Option.some.inj hf)) dX8_year_33
  · have hf := o_neg c_1 hf
    refine r_iload_n hc 1 dX8_year_4 rfl ?_
    refine r_sipush hc (9999 : Int32) dX8_year_5 rfl ?_
    refine r_icmp_gt hc 31 dX8_year_8 (by decide) (fun c_2 => ?_) (fun c_2 => ?_)
    · have hf := o_pos c_2 hf
      refine r_bipush hc (-2 : Int32) dX8_year_31 rfl ?_
      exact r_iret hK (congrArg (fun z9 => z9.1) (Option.some.inj hf)) (congrArg (fun z9 => (kdo A :: (wH cy (sh A 10) hn ++ wD cy (sh A 50) z9.2.1 ++ wU cy (sh A 110) z9.2.2))) (Option.some.inj hf)) dX8_year_33
    · have hf := o_neg c_2 hf
      refine r_iload_n hc 2 dX8_year_11 rfl ?_
      refine r_iconst hc (1 : Int32) dX8_year_12 rfl ?_
      refine r_icmp_lt hc 31 dX8_year_13 (by decide) (fun c_3 => ?_) (fun c_3 => ?_)
      · have hf := o_pos c_3 hf
        refine r_bipush hc (-2 : Int32) dX8_year_31 rfl ?_
        exact r_iret hK (congrArg (fun z9 => z9.1) (Option.some.inj hf)) (congrArg (fun z9 => (kdo A :: (wH cy (sh A 10) hn ++ wD cy (sh A 50) z9.2.1 ++ wU cy (sh A 110) z9.2.2))) (Option.some.inj hf)) dX8_year_33
      · have hf := o_neg c_3 hf
        refine r_iload_n hc 2 dX8_year_16 rfl ?_
        refine r_bipush hc (99 : Int32) dX8_year_17 rfl ?_
        refine r_icmp_gt hc 31 dX8_year_19 (by decide) (fun c_4 => ?_) (fun c_4 => ?_)
        · have hf := o_pos c_4 hf
          refine r_bipush hc (-2 : Int32) dX8_year_31 rfl ?_
          exact r_iret hK (congrArg (fun z9 => z9.1) (Option.some.inj hf)) (congrArg (fun z9 => (kdo A :: (wH cy (sh A 10) hn ++ wD cy (sh A 50) z9.2.1 ++ wU cy (sh A 110) z9.2.2))) (Option.some.inj hf)) dX8_year_33
        · have hf := o_neg c_4 hf
          refine r_iload_n hc 3 dX8_year_22 rfl ?_
          refine r_if_lt hc 31 dX8_year_23 (by decide) (fun c_5 => ?_) (fun c_5 => ?_)
          · have hf := o_pos c_5 hf
            refine r_bipush hc (-2 : Int32) dX8_year_31 rfl ?_
            exact r_iret hK (congrArg (fun z9 => z9.1) (Option.some.inj hf)) (congrArg (fun z9 => (kdo A :: (wH cy (sh A 10) hn ++ wD cy (sh A 50) z9.2.1 ++ wU cy (sh A 110) z9.2.2))) (Option.some.inj hf)) dX8_year_33
          · have hf := o_neg c_5 hf
            refine r_iload_n hc 3 dX8_year_26 rfl ?_
            refine r_iconst hc (2 : Int32) dX8_year_27 rfl ?_
            refine r_icmp_le hc 34 dX8_year_28 (by decide) (fun c_6 => ?_) (fun c_6 => ?_)
            · have hf := o_pos c_6 hf
              refine r_aload_n hc 0 dX8_year_34 rfl ?_
              refine r_get (v := .ref ((sh A 50) 0)) hc iw_X8 0 rfl rfl 4 (by decide) mw_299 rfl dX8_year_35 ?_
              refine r_aload_n hc 0 dX8_year_38 rfl ?_
              refine r_get (v := .ref ((sh A 10) 0)) hc iw_X8 0 rfl rfl 0 (by decide) mw_295 rfl dX8_year_39 ?_
              obtain ⟨q42, hq42, hf⟩ := o_bind hf
              refine r_callVBv (ws' := (kdo A :: (wH cy (sh A 10) hn ++ wD cy (sh A 50) q42 ++ wU cy (sh A 110) yr))) (As := [.ref ((sh A 10) 0)]) (rest := []) hc (c_X0_begin (sh A 50) (sh A 10) dr hn q42 hq42) kv_X0_begin mw_596 0 rfl rfl [[kdo A], wH cy (sh A 10) hn, wDo cy (sh A 50) dr, wH cy (sh (sh A 50) 5) (D_house dr), wU cy (sh A 110) yr] [[kdo A], wU cy (sh A 110) yr] [wDo cy (sh A 50) dr, wH cy (sh (sh A 50) 5) (D_house dr), wH cy (sh A 10) hn] [wDo cy (sh A 50) q42, wH cy (sh (sh A 50) 5) (D_house q42), wH cy (sh A 10) hn] [[kdo A], wH cy (sh A 10) hn, wDo cy (sh A 50) q42, wH cy (sh (sh A 50) 5) (D_house q42), wU cy (sh A 110) yr] [0, 4, 2, 3, 1] [0, 4, 2, 3, 1] ⟨(by simp only [wD_eq, List.flatten_cons, List.flatten_nil, List.append_nil, List.append_assoc, List.cons_append, List.nil_append]), (by simp only [wD_eq, List.flatten_cons, List.flatten_nil, List.append_nil, List.append_assoc, List.cons_append, List.nil_append]), (by simp only [wD_eq, List.flatten_cons, List.flatten_nil, List.append_nil, List.append_assoc, List.cons_append, List.nil_append]), (by simp only [wD_eq, List.flatten_cons, List.flatten_nil, List.append_nil, List.append_assoc, List.cons_append, List.nil_append]), rfl, (show List.Perm [0, 4, 2, 3, 1] (List.range 5) from by decide), rfl, (show List.Perm [0, 4, 2, 3, 1] (List.range 5) from by decide)⟩ rfl rfl (Nat.le_of_ble_eq_true rfl) ⟨by decide, by decide⟩ dX8_year_42 ?_
              refine r_aload_n hc 0 dX8_year_45 rfl ?_
              refine r_get (v := .ref ((sh A 110) 0)) hc iw_X8 0 rfl rfl 9 (by decide) mw_304 rfl dX8_year_46 ?_
              refine r_iload_n hc 1 dX8_year_49 rfl ?_
              refine r_iload_n hc 2 dX8_year_50 rfl ?_
              refine r_aload_n hc 0 dX8_year_51 rfl ?_
              refine r_get (v := .ref ((sh A 50) 0)) hc iw_X8 0 rfl rfl 4 (by decide) mw_299 rfl dX8_year_52 ?_
              obtain ⟨q55, hq55, hf⟩ := o_bind hf
              refine r_callVBv (ws' := (kdo A :: (wH cy (sh A 10) hn ++ wD cy (sh A 50) q55.2 ++ wU cy (sh A 110) q55.1))) (As := [.int x1, .int x2, .ref ((sh A 50) 0)]) (rest := []) hc (c_X7_pass (sh A 110) (sh A 50) yr q42 x1 x2 q55 hq55) kv_X7_pass mw_822 0 rfl rfl [[kdo A], wH cy (sh A 10) hn, wDo cy (sh A 50) q42, wH cy (sh (sh A 50) 5) (D_house q42), wU cy (sh A 110) yr] [[kdo A], wH cy (sh A 10) hn] [wU cy (sh A 110) yr, wDo cy (sh A 50) q42, wH cy (sh (sh A 50) 5) (D_house q42)] [wU cy (sh A 110) q55.1, wDo cy (sh A 50) q55.2, wH cy (sh (sh A 50) 5) (D_house q55.2)] [[kdo A], wH cy (sh A 10) hn, wDo cy (sh A 50) q55.2, wH cy (sh (sh A 50) 5) (D_house q55.2), wU cy (sh A 110) q55.1] [0, 1, 4, 2, 3] [0, 1, 3, 4, 2] ⟨(by simp only [wD_eq, List.flatten_cons, List.flatten_nil, List.append_nil, List.append_assoc, List.cons_append, List.nil_append]), (by simp only [wD_eq, List.flatten_cons, List.flatten_nil, List.append_nil, List.append_assoc, List.cons_append, List.nil_append]), (by simp only [wD_eq, List.flatten_cons, List.flatten_nil, List.append_nil, List.append_assoc, List.cons_append, List.nil_append]), (by simp only [wD_eq, List.flatten_cons, List.flatten_nil, List.append_nil, List.append_assoc, List.cons_append, List.nil_append]), rfl, (show List.Perm [0, 1, 4, 2, 3] (List.range 5) from by decide), rfl, (show List.Perm [0, 1, 3, 4, 2] (List.range 5) from by decide)⟩ rfl rfl (Nat.le_of_ble_eq_true rfl) ⟨by decide, by decide⟩ dX8_year_55 ?_
              refine r_iload_n hc 3 dX8_year_58 rfl ?_
              refine r_if_ne hc 70 dX8_year_59 (by decide) (fun c_7 => ?_) (fun c_7 => ?_)
              · have hf := o_neg c_7 hf
                refine r_iload_n hc 3 dX8_year_70 rfl ?_
                refine r_iconst hc (1 : Int32) dX8_year_71 rfl ?_
                refine r_icmp_ne hc 85 dX8_year_72 (by decide) (fun c_8 => ?_) (fun c_8 => ?_)
                · have hf := o_neg c_8 hf
                  refine r_aload_n hc 0 dX8_year_85 rfl ?_
                  refine r_get (v := .ref ((sh A 50) 0)) hc iw_X8 0 rfl rfl 4 (by decide) mw_299 rfl dX8_year_86 ?_
                  refine r_get (v := .ref ((sh (sh A 50) 5) 0)) hc iw_X0 11 rfl rfl 0 (by decide) mw_171 rfl dX8_year_89 ?_
                  refine r_iconst hc (0 : Int32) dX8_year_92 rfl ?_
                  obtain ⟨q93, hq93, hf⟩ := o_bind hf
                  refine r_callVBi (ws' := (kdo A :: (wH cy (sh A 10) hn ++ wD cy (sh A 50) q55.2 ++ wU cy (sh A 110) q55.1))) (As := [.int (0 : Int32)]) (rest := []) hc (c_X1_count (sh (sh A 50) 5) (D_house q55.2) (0 : Int32) q93 hq93) kv_X1_count mw_341 0 rfl rfl [[kdo A], wH cy (sh A 10) hn, wDo cy (sh A 50) q55.2, wH cy (sh (sh A 50) 5) (D_house q55.2), wU cy (sh A 110) q55.1] [[kdo A], wH cy (sh A 10) hn, wDo cy (sh A 50) q55.2, wU cy (sh A 110) q55.1] [wH cy (sh (sh A 50) 5) (D_house q55.2)] [wH cy (sh (sh A 50) 5) (D_house q55.2)] [[kdo A], wH cy (sh A 10) hn, wDo cy (sh A 50) q55.2, wH cy (sh (sh A 50) 5) (D_house q55.2), wU cy (sh A 110) q55.1] [0, 1, 2, 4, 3] [0, 1, 2, 4, 3] ⟨(by simp only [wD_eq, List.flatten_cons, List.flatten_nil, List.append_nil, List.append_assoc, List.cons_append, List.nil_append]), (by simp only [wD_eq, List.flatten_cons, List.flatten_nil, List.append_nil, List.append_assoc, List.cons_append, List.nil_append]), (by simp only [wD_eq, List.flatten_cons, List.flatten_nil, List.append_nil, List.append_assoc, List.cons_append, List.nil_append]), (by simp only [wD_eq, List.flatten_cons, List.flatten_nil, List.append_nil, List.append_assoc, List.cons_append, List.nil_append]), rfl, (show List.Perm [0, 1, 2, 4, 3] (List.range 5) from by decide), rfl, (show List.Perm [0, 1, 2, 4, 3] (List.range 5) from by decide)⟩ rfl rfl (Nat.le_of_ble_eq_true rfl) ⟨by decide, by decide⟩ dX8_year_93 ?_
                  exact r_iret hK (congrArg (fun z9 => z9.1) (Option.some.inj hf)) (congrArg (fun z9 => (kdo A :: (wH cy (sh A 10) hn ++ wD cy (sh A 50) z9.2.1 ++ wU cy (sh A 110) z9.2.2))) (Option.some.inj hf)) dX8_year_96
                · have hf := o_pos c_8 hf
                  refine r_aload_n hc 0 dX8_year_75 rfl ?_
                  refine r_get (v := .ref ((sh A 110) 0)) hc iw_X8 0 rfl rfl 9 (by decide) mw_304 rfl dX8_year_76 ?_
                  refine r_get (v := .int (U_talks q55.1)) hc iw_X7 26 rfl rfl 1 (by decide) mw_282 rfl dX8_year_79 ?_
                  refine r_goto hc 96 dX8_year_82 (by decide) ?_
                  exact r_iret hK (congrArg (fun z9 => z9.1) (Option.some.inj hf)) (congrArg (fun z9 => (kdo A :: (wH cy (sh A 10) hn ++ wD cy (sh A 50) z9.2.1 ++ wU cy (sh A 110) z9.2.2))) (Option.some.inj hf)) dX8_year_96
              · have hf := o_pos c_7 hf
                refine r_aload_n hc 0 dX8_year_62 rfl ?_
                refine r_get (v := .ref ((sh A 110) 0)) hc iw_X8 0 rfl rfl 9 (by decide) mw_304 rfl dX8_year_63 ?_
                refine r_get (v := .int (U_went q55.1)) hc iw_X7 26 rfl rfl 0 (by decide) mw_280 rfl dX8_year_66 ?_
                exact r_iret hK (congrArg (fun z9 => z9.1) (Option.some.inj hf)) (congrArg (fun z9 => (kdo A :: (wH cy (sh A 10) hn ++ wD cy (sh A 50) z9.2.1 ++ wU cy (sh A 110) z9.2.2))) (Option.some.inj hf)) dX8_year_69
            · have hf := o_neg c_6 hf
              refine r_bipush hc (-2 : Int32) dX8_year_31 rfl ?_
              exact r_iret hK (congrArg (fun z9 => z9.1) (Option.some.inj hf)) (congrArg (fun z9 => (kdo A :: (wH cy (sh A 10) hn ++ wD cy (sh A 50) z9.2.1 ++ wU cy (sh A 110) z9.2.2))) (Option.some.inj hf)) dX8_year_33
def f_X8_toldByCode (hn : HS) (x1 : Int32) : Option (Int32) :=
  (if (10 : Int32) ≤ x1 then (if (100 : Int32) ≤ x1 then (if (1000 : Int32) ≤ x1 then ((f_X1_isThere hn ((x1 / (1000 : Int32)) - (1 : Int32))).bind fun q144 => (if q144 = 0 then (some ((-2 : Int32))) else (if (5 : Int32) ≤ (x1 - x1 / (1000 : Int32) * (1000 : Int32)) then (some ((-2 : Int32))) else (chk ((((x1 / (1000 : Int32)) - (1 : Int32)) * (5 : Int32)) + (x1 - x1 / (1000 : Int32) * (1000 : Int32))) 40 (some ((((H_likes hn) (((((x1 / (1000 : Int32)) - (1 : Int32)) * (5 : Int32)) + (x1 - x1 / (1000 : Int32) * (1000 : Int32)))).toNatClampNeg) + (10 : Int32)))))))) else ((f_X1_isRoom hn ((x1 / (100 : Int32)) - (1 : Int32))).bind fun q88 => (if q88 = 0 then (some ((-2 : Int32))) else ((f_X1_isRoom hn (x1 - x1 / (100 : Int32) * (100 : Int32))).bind fun q99 => (if q99 = 0 then (some ((-2 : Int32))) else (if ((x1 / (100 : Int32)) - (1 : Int32)) = (x1 - x1 / (100 : Int32) * (100 : Int32)) then (some ((-2 : Int32))) else ((f_X1_widthOf hn ((x1 / (100 : Int32)) - (1 : Int32)) (x1 - x1 / (100 : Int32) * (100 : Int32))).bind fun q116 => (some (q116))))))))) else ((f_X1_isRoom hn ((x1 / (10 : Int32)) - (1 : Int32))).bind fun q32 => (if q32 = 0 then (some ((-2 : Int32))) else (if (6 : Int32) ≤ (x1 - x1 / (10 : Int32) * (10 : Int32)) then (some ((-2 : Int32))) else (chk ((((x1 / (10 : Int32)) - (1 : Int32)) * (6 : Int32)) + (x1 - x1 / (10 : Int32) * (10 : Int32))) 36 (some (((H_measure hn) (((((x1 / (10 : Int32)) - (1 : Int32)) * (6 : Int32)) + (x1 - x1 / (10 : Int32) * (10 : Int32)))).toNatClampNeg)))))))) else (some ((-2 : Int32))))
theorem kv_X8_toldByCode : KV RX8 yX8_toldByCode cX8_toldByCode 4 (some .int) 1 := ⟨mw_848, mw_22, mw_55, mw_849, by decide +kernel⟩
set_option maxHeartbeats 8000000 in
set_option maxRecDepth 100000 in
theorem c_X8_toldByCode {l : Launch} {E : va_G} {cy : Nat → ClassId} (A : Nat → Nat) (hn : HS) (x1 : Int32) (q : Int32) (hf : f_X8_toldByCode hn x1 = some q) : Ci l yX8_toldByCode cX8_toldByCode 4 (some .int) 2 82 E cy [.ref (A 0), .int x1] (kdo A :: (wH cy (sh A 10) hn)) q (kdo A :: (wH cy (sh A 10) hn)) := by
  refine Ci.of RX8 (by decide) rfl (Nat.le_of_ble_eq_true rfl) ?_
  intro K hK
  have hc := hK.cq
  show V K (kdo A :: (wH cy (sh A 10) hn)) 0 [(0, .ref (A 0)), (1, .int x1)] []
  unfold f_X8_toldByCode at hf
  refine r_iload_n hc 1 dX8_toldByCode_0 rfl ?_
  refine r_bipush hc (10 : Int32) dX8_toldByCode_1 rfl ?_
  refine r_icmp_ge hc 9 dX8_toldByCode_3 (by decide) (fun c_1 => ?_) (fun c_1 => ?_)
  · have hf := o_pos c_1 hf
    refine r_iload_n hc 1 dX8_toldByCode_9 rfl ?_
    refine r_bipush hc (100 : Int32) dX8_toldByCode_10 rfl ?_
    refine r_icmp_ge hc 64 dX8_toldByCode_12 (by decide) (fun c_2 => ?_) (fun c_2 => ?_)
    · have hf := o_pos c_2 hf
      refine r_iload_n hc 1 dX8_toldByCode_64 rfl ?_
      refine r_sipush hc (1000 : Int32) dX8_toldByCode_65 rfl ?_
      refine r_icmp_ge hc 125 dX8_toldByCode_68 (by decide) (fun c_3 => ?_) (fun c_3 => ?_)
      · have hf := o_pos c_3 hf
        refine r_iload_n hc 1 dX8_toldByCode_125 rfl ?_
        refine r_sipush hc (1000 : Int32) dX8_toldByCode_126 rfl ?_
        refine r_idiv hc dX8_toldByCode_129 (by decide) ?_
        refine r_iconst hc (1 : Int32) dX8_toldByCode_130 rfl ?_
        refine r_isub hc dX8_toldByCode_131 ?_
        refine r_istore_n hc [(2, .int ((x1 / (1000 : Int32)) - (1 : Int32))), (0, .ref (A 0)), (1, .int x1)] dX8_toldByCode_132 (by decide) rfl ?_
        refine r_iload_n hc 2 dX8_toldByCode_133 rfl ?_
        refine r_sipush hc (1000 : Int32) dX8_toldByCode_134 rfl ?_
        refine r_irem hc dX8_toldByCode_137 (by decide) ?_
        refine r_istore_n hc [(3, .int (x1 - x1 / (1000 : Int32) * (1000 : Int32))), (2, .int ((x1 / (1000 : Int32)) - (1 : Int32))), (0, .ref (A 0)), (1, .int x1)] dX8_toldByCode_138 (by decide) rfl ?_
        refine r_aload_n hc 2 dX8_toldByCode_139 rfl ?_
        refine r_get (v := .ref ((sh A 10) 0)) hc iw_X8 0 rfl rfl 0 (by decide) mw_295 rfl dX8_toldByCode_140 ?_
        refine r_iload_n hc 1 dX8_toldByCode_143 rfl ?_
        obtain ⟨q144, hq144, hf⟩ := o_bind hf
        refine r_callVi (ws' := (kdo A :: (wH cy (sh A 10) hn))) (As := [.int ((x1 / (1000 : Int32)) - (1 : Int32))]) (rest := []) hc (c_X1_isThere (sh A 10) hn ((x1 / (1000 : Int32)) - (1 : Int32)) q144 hq144) kv_X1_isThere mw_404 0 rfl rfl [1, 2, 3, 4, 5, 6, 7, 8, 9, 10] [0] [0, 1, 2, 3, 4, 5, 6, 7, 8, 9, 10] ⟨rfl, rfl, rfl, rfl, rfl, rfl, rfl⟩ rfl rfl (Nat.le_of_ble_eq_true rfl) ⟨by decide, by decide⟩ dX8_toldByCode_144 ?_
        refine r_if_eq hc 174 dX8_toldByCode_147 (by decide) (fun c_4 => ?_) (fun c_4 => ?_)
        · have hf := o_pos c_4 hf
          refine r_bipush hc (-2 : Int32) dX8_toldByCode_174 rfl ?_
          exact r_iret hK (Option.some.inj hf) rfl dX8_toldByCode_176
        · have hf := o_neg c_4 hf
          refine r_iload_n hc 0 dX8_toldByCode_150 rfl ?_
          refine r_iconst hc (5 : Int32) dX8_toldByCode_151 rfl ?_
          refine r_icmp_ge hc 174 dX8_toldByCode_152 (by decide) (fun c_5 => ?_) (fun c_5 => ?_)
          · have hf := o_pos c_5 hf
            refine r_bipush hc (-2 : Int32) dX8_toldByCode_174 rfl ?_
            exact r_iret hK (Option.some.inj hf) rfl dX8_toldByCode_176
          · have hf := o_neg c_5 hf
            refine r_aload_n hc 2 dX8_toldByCode_155 rfl ?_
            refine r_get (v := .ref ((sh A 10) 0)) hc iw_X8 0 rfl rfl 0 (by decide) mw_295 rfl dX8_toldByCode_156 ?_
            refine r_get (v := .ref ((sh A 10) 7)) hc iw_X1 1 rfl rfl 9 (by decide) mw_111 rfl dX8_toldByCode_159 ?_
            refine r_iload_n hc 1 dX8_toldByCode_162 rfl ?_
            refine r_iconst hc (5 : Int32) dX8_toldByCode_163 rfl ?_
            refine r_imul hc dX8_toldByCode_164 ?_
            refine r_iload_n hc 0 dX8_toldByCode_165 rfl ?_
            refine r_iadd hc dX8_toldByCode_166 ?_
            obtain ⟨i_6, hf⟩ := chk_some hf
            refine r_iald (f := (H_likes hn)) hc 8 rfl i_6 dX8_toldByCode_167 ?_
            refine r_bipush hc (10 : Int32) dX8_toldByCode_168 rfl ?_
            refine r_iadd hc dX8_toldByCode_170 ?_
            refine r_goto hc 176 dX8_toldByCode_171 (by decide) ?_
            exact r_iret hK (Option.some.inj hf) rfl dX8_toldByCode_176
      · have hf := o_neg c_3 hf
        refine r_iload_n hc 1 dX8_toldByCode_71 rfl ?_
        refine r_bipush hc (100 : Int32) dX8_toldByCode_72 rfl ?_
        refine r_idiv hc dX8_toldByCode_74 (by decide) ?_
        refine r_iconst hc (1 : Int32) dX8_toldByCode_75 rfl ?_
        refine r_isub hc dX8_toldByCode_76 ?_
        refine r_istore_n hc [(2, .int ((x1 / (100 : Int32)) - (1 : Int32))), (0, .ref (A 0)), (1, .int x1)] dX8_toldByCode_77 (by decide) rfl ?_
        refine r_iload_n hc 2 dX8_toldByCode_78 rfl ?_
        refine r_bipush hc (100 : Int32) dX8_toldByCode_79 rfl ?_
        refine r_irem hc dX8_toldByCode_81 (by decide) ?_
        refine r_istore_n hc [(3, .int (x1 - x1 / (100 : Int32) * (100 : Int32))), (2, .int ((x1 / (100 : Int32)) - (1 : Int32))), (0, .ref (A 0)), (1, .int x1)] dX8_toldByCode_82 (by decide) rfl ?_
        refine r_aload_n hc 2 dX8_toldByCode_83 rfl ?_
        refine r_get (v := .ref ((sh A 10) 0)) hc iw_X8 0 rfl rfl 0 (by decide) mw_295 rfl dX8_toldByCode_84 ?_
        refine r_iload_n hc 1 dX8_toldByCode_87 rfl ?_
        obtain ⟨q88, hq88, hf⟩ := o_bind hf
        refine r_callVi (ws' := (kdo A :: (wH cy (sh A 10) hn))) (As := [.int ((x1 / (100 : Int32)) - (1 : Int32))]) (rest := []) hc (c_X1_isRoom (sh A 10) hn ((x1 / (100 : Int32)) - (1 : Int32)) q88 hq88) kv_X1_isRoom mw_337 0 rfl rfl [1, 2, 3, 4, 5, 6, 7, 8, 9, 10] [0] [0, 1, 2, 3, 4, 5, 6, 7, 8, 9, 10] ⟨rfl, rfl, rfl, rfl, rfl, rfl, rfl⟩ rfl rfl (Nat.le_of_ble_eq_true rfl) ⟨by decide, by decide⟩ dX8_toldByCode_88 ?_
        refine r_if_eq hc 122 dX8_toldByCode_91 (by decide) (fun c_7 => ?_) (fun c_7 => ?_)
        · have hf := o_pos c_7 hf
          refine r_bipush hc (-2 : Int32) dX8_toldByCode_122 rfl ?_
          exact r_iret hK (Option.some.inj hf) rfl dX8_toldByCode_124
        · have hf := o_neg c_7 hf
          refine r_aload_n hc 2 dX8_toldByCode_94 rfl ?_
          refine r_get (v := .ref ((sh A 10) 0)) hc iw_X8 0 rfl rfl 0 (by decide) mw_295 rfl dX8_toldByCode_95 ?_
          refine r_iload_n hc 0 dX8_toldByCode_98 rfl ?_
          obtain ⟨q99, hq99, hf⟩ := o_bind hf
          refine r_callVi (ws' := (kdo A :: (wH cy (sh A 10) hn))) (As := [.int (x1 - x1 / (100 : Int32) * (100 : Int32))]) (rest := []) hc (c_X1_isRoom (sh A 10) hn (x1 - x1 / (100 : Int32) * (100 : Int32)) q99 hq99) kv_X1_isRoom mw_337 0 rfl rfl [1, 2, 3, 4, 5, 6, 7, 8, 9, 10] [0] [0, 1, 2, 3, 4, 5, 6, 7, 8, 9, 10] ⟨rfl, rfl, rfl, rfl, rfl, rfl, rfl⟩ rfl rfl (Nat.le_of_ble_eq_true rfl) ⟨by decide, by decide⟩ dX8_toldByCode_99 ?_
          refine r_if_eq hc 122 dX8_toldByCode_102 (by decide) (fun c_8 => ?_) (fun c_8 => ?_)
          · have hf := o_pos c_8 hf
            refine r_bipush hc (-2 : Int32) dX8_toldByCode_122 rfl ?_
            exact r_iret hK (Option.some.inj hf) rfl dX8_toldByCode_124
          · have hf := o_neg c_8 hf
            refine r_iload_n hc 1 dX8_toldByCode_105 rfl ?_
            refine r_iload_n hc 0 dX8_toldByCode_106 rfl ?_
            refine r_icmp_eq hc 122 dX8_toldByCode_107 (by decide) (fun c_9 => ?_) (fun c_9 => ?_)
            · have hf := o_pos c_9 hf
              refine r_bipush hc (-2 : Int32) dX8_toldByCode_122 rfl ?_
              exact r_iret hK (Option.some.inj hf) rfl dX8_toldByCode_124
            · have hf := o_neg c_9 hf
              refine r_aload_n hc 2 dX8_toldByCode_110 rfl ?_
              refine r_get (v := .ref ((sh A 10) 0)) hc iw_X8 0 rfl rfl 0 (by decide) mw_295 rfl dX8_toldByCode_111 ?_
              refine r_iload_n hc 1 dX8_toldByCode_114 rfl ?_
              refine r_iload_n hc 0 dX8_toldByCode_115 rfl ?_
              obtain ⟨q116, hq116, hf⟩ := o_bind hf
              refine r_callVi (ws' := (kdo A :: (wH cy (sh A 10) hn))) (As := [.int ((x1 / (100 : Int32)) - (1 : Int32)), .int (x1 - x1 / (100 : Int32) * (100 : Int32))]) (rest := []) hc (c_X1_widthOf (sh A 10) hn ((x1 / (100 : Int32)) - (1 : Int32)) (x1 - x1 / (100 : Int32) * (100 : Int32)) q116 hq116) kv_X1_widthOf mw_371 0 rfl rfl [1, 2, 3, 4, 5, 6, 7, 8, 9, 10] [0] [0, 1, 2, 3, 4, 5, 6, 7, 8, 9, 10] ⟨rfl, rfl, rfl, rfl, rfl, rfl, rfl⟩ rfl rfl (Nat.le_of_ble_eq_true rfl) ⟨by decide, by decide⟩ dX8_toldByCode_116 ?_
              refine r_goto hc 124 dX8_toldByCode_119 (by decide) ?_
              exact r_iret hK (Option.some.inj hf) rfl dX8_toldByCode_124
    · have hf := o_neg c_2 hf
      refine r_iload_n hc 1 dX8_toldByCode_15 rfl ?_
      refine r_bipush hc (10 : Int32) dX8_toldByCode_16 rfl ?_
      refine r_idiv hc dX8_toldByCode_18 (by decide) ?_
      refine r_iconst hc (1 : Int32) dX8_toldByCode_19 rfl ?_
      refine r_isub hc dX8_toldByCode_20 ?_
      refine r_istore_n hc [(2, .int ((x1 / (10 : Int32)) - (1 : Int32))), (0, .ref (A 0)), (1, .int x1)] dX8_toldByCode_21 (by decide) rfl ?_
      refine r_iload_n hc 2 dX8_toldByCode_22 rfl ?_
      refine r_bipush hc (10 : Int32) dX8_toldByCode_23 rfl ?_
      refine r_irem hc dX8_toldByCode_25 (by decide) ?_
      refine r_istore_n hc [(3, .int (x1 - x1 / (10 : Int32) * (10 : Int32))), (2, .int ((x1 / (10 : Int32)) - (1 : Int32))), (0, .ref (A 0)), (1, .int x1)] dX8_toldByCode_26 (by decide) rfl ?_
      refine r_aload_n hc 2 dX8_toldByCode_27 rfl ?_
      refine r_get (v := .ref ((sh A 10) 0)) hc iw_X8 0 rfl rfl 0 (by decide) mw_295 rfl dX8_toldByCode_28 ?_
      refine r_iload_n hc 1 dX8_toldByCode_31 rfl ?_
      obtain ⟨q32, hq32, hf⟩ := o_bind hf
      refine r_callVi (ws' := (kdo A :: (wH cy (sh A 10) hn))) (As := [.int ((x1 / (10 : Int32)) - (1 : Int32))]) (rest := []) hc (c_X1_isRoom (sh A 10) hn ((x1 / (10 : Int32)) - (1 : Int32)) q32 hq32) kv_X1_isRoom mw_337 0 rfl rfl [1, 2, 3, 4, 5, 6, 7, 8, 9, 10] [0] [0, 1, 2, 3, 4, 5, 6, 7, 8, 9, 10] ⟨rfl, rfl, rfl, rfl, rfl, rfl, rfl⟩ rfl rfl (Nat.le_of_ble_eq_true rfl) ⟨by decide, by decide⟩ dX8_toldByCode_32 ?_
      refine r_if_eq hc 61 dX8_toldByCode_35 (by decide) (fun c_10 => ?_) (fun c_10 => ?_)
      · have hf := o_pos c_10 hf
        refine r_bipush hc (-2 : Int32) dX8_toldByCode_61 rfl ?_
        exact r_iret hK (Option.some.inj hf) rfl dX8_toldByCode_63
      · have hf := o_neg c_10 hf
        refine r_iload_n hc 0 dX8_toldByCode_38 rfl ?_
        refine r_bipush hc (6 : Int32) dX8_toldByCode_39 rfl ?_
        refine r_icmp_ge hc 61 dX8_toldByCode_41 (by decide) (fun c_11 => ?_) (fun c_11 => ?_)
        · have hf := o_pos c_11 hf
          refine r_bipush hc (-2 : Int32) dX8_toldByCode_61 rfl ?_
          exact r_iret hK (Option.some.inj hf) rfl dX8_toldByCode_63
        · have hf := o_neg c_11 hf
          refine r_aload_n hc 2 dX8_toldByCode_44 rfl ?_
          refine r_get (v := .ref ((sh A 10) 0)) hc iw_X8 0 rfl rfl 0 (by decide) mw_295 rfl dX8_toldByCode_45 ?_
          refine r_get (v := .ref ((sh A 10) 1)) hc iw_X1 1 rfl rfl 3 (by decide) mw_94 rfl dX8_toldByCode_48 ?_
          refine r_iload_n hc 1 dX8_toldByCode_51 rfl ?_
          refine r_bipush hc (6 : Int32) dX8_toldByCode_52 rfl ?_
          refine r_imul hc dX8_toldByCode_54 ?_
          refine r_iload_n hc 0 dX8_toldByCode_55 rfl ?_
          refine r_iadd hc dX8_toldByCode_56 ?_
          obtain ⟨i_12, hf⟩ := chk_some hf
          refine r_iald (f := (H_measure hn)) hc 2 rfl i_12 dX8_toldByCode_57 ?_
          refine r_goto hc 63 dX8_toldByCode_58 (by decide) ?_
          exact r_iret hK (Option.some.inj hf) rfl dX8_toldByCode_63
  · have hf := o_neg c_1 hf
    refine r_bipush hc (-2 : Int32) dX8_toldByCode_6 rfl ?_
    exact r_iret hK (Option.some.inj hf) rfl dX8_toldByCode_8
def f_X8_told (hn : HS) (pd : PS) (x1 : Int32) : Option (Int32) :=
  (if x1 = (0 : Int32) then (some ((P_used pd))) else (if x1 = (1 : Int32) then (some ((H_rooms hn))) else (if x1 = (2 : Int32) then (some ((H_there hn))) else (if x1 = (3 : Int32) then (some ((H_sights hn))) else ((f_X8_toldByCode hn x1).bind fun q66 => (some (q66)))))))
theorem kv_X8_told : KV RX8 yX8_told cX8_told 2 (some .int) 1 := ⟨mw_843, mw_844, mw_55, mw_845, by decide +kernel⟩
set_option maxHeartbeats 8000000 in
set_option maxRecDepth 100000 in
theorem c_X8_told {l : Launch} {E : va_G} {cy : Nat → ClassId} (A : Nat → Nat) (hn : HS) (pd : PS) (x1 : Int32) (q : Int32) (hf : f_X8_told hn pd x1 = some q) : Ci l yX8_told cX8_told 2 (some .int) 3 105 E cy [.ref (A 0), .int x1] (kdo A :: (wH cy (sh A 10) hn ++ wP cy (sh A 40) pd)) q (kdo A :: (wH cy (sh A 10) hn ++ wP cy (sh A 40) pd)) := by
  refine Ci.of RX8 (by decide) rfl (Nat.le_of_ble_eq_true rfl) ?_
  intro K hK
  have hc := hK.cq
  show V K (kdo A :: (wH cy (sh A 10) hn ++ wP cy (sh A 40) pd)) 0 [(0, .ref (A 0)), (1, .int x1)] []
  unfold f_X8_told at hf
  refine r_iload_n hc 1 dX8_told_0 rfl ?_
  by_cases c_1_0 : x1 = (0 : Int32)
  · have hf := o_pos c_1_0 hf
    refine r_tabIn (off := 31) hc 32 dX8_told_1 (by rw [c_1_0]; decide) (by rw [c_1_0]; decide) (by rw [c_1_0]; rfl) (by decide) ?_
    refine r_aload_n hc 0 dX8_told_32 rfl ?_
    refine r_get (v := .ref ((sh A 40) 0)) hc iw_X8 0 rfl rfl 3 (by decide) mw_298 rfl dX8_told_33 ?_
    refine r_get (v := .int (P_used pd)) hc iw_X2 11 rfl rfl 0 (by decide) mw_152 rfl dX8_told_36 ?_
    exact r_iret hK (Option.some.inj hf) rfl dX8_told_39
  · have hf := o_neg c_1_0 hf
    by_cases c_1_1 : x1 = (1 : Int32)
    · have hf := o_pos c_1_1 hf
      refine r_tabIn (off := 39) hc 40 dX8_told_1 (by rw [c_1_1]; decide) (by rw [c_1_1]; decide) (by rw [c_1_1]; rfl) (by decide) ?_
      refine r_aload_n hc 0 dX8_told_40 rfl ?_
      refine r_get (v := .ref ((sh A 10) 0)) hc iw_X8 0 rfl rfl 0 (by decide) mw_295 rfl dX8_told_41 ?_
      refine r_get (v := .int (H_rooms hn)) hc iw_X1 1 rfl rfl 0 (by decide) mw_86 rfl dX8_told_44 ?_
      exact r_iret hK (Option.some.inj hf) rfl dX8_told_47
    · have hf := o_neg c_1_1 hf
      by_cases c_1_2 : x1 = (2 : Int32)
      · have hf := o_pos c_1_2 hf
        refine r_tabIn (off := 47) hc 48 dX8_told_1 (by rw [c_1_2]; decide) (by rw [c_1_2]; decide) (by rw [c_1_2]; rfl) (by decide) ?_
        refine r_aload_n hc 0 dX8_told_48 rfl ?_
        refine r_get (v := .ref ((sh A 10) 0)) hc iw_X8 0 rfl rfl 0 (by decide) mw_295 rfl dX8_told_49 ?_
        refine r_get (v := .int (H_there hn)) hc iw_X1 1 rfl rfl 1 (by decide) mw_90 rfl dX8_told_52 ?_
        exact r_iret hK (Option.some.inj hf) rfl dX8_told_55
      · have hf := o_neg c_1_2 hf
        by_cases c_1_3 : x1 = (3 : Int32)
        · have hf := o_pos c_1_3 hf
          refine r_tabIn (off := 55) hc 56 dX8_told_1 (by rw [c_1_3]; decide) (by rw [c_1_3]; decide) (by rw [c_1_3]; rfl) (by decide) ?_
          refine r_aload_n hc 0 dX8_told_56 rfl ?_
          refine r_get (v := .ref ((sh A 10) 0)) hc iw_X8 0 rfl rfl 0 (by decide) mw_295 rfl dX8_told_57 ?_
          refine r_get (v := .int (H_sights hn)) hc iw_X1 1 rfl rfl 2 (by decide) mw_92 rfl dX8_told_60 ?_
          exact r_iret hK (Option.some.inj hf) rfl dX8_told_63
        · have hf := o_neg c_1_3 hf
          have ho9 : (x1).toInt < 0 ∨ 3 < (x1).toInt := by
            refine tab_out (fun cc9 h1 h2 => ?_)
            rcases (show cc9 = 0 ∨ cc9 = 1 ∨ cc9 = 2 ∨ cc9 = 3 by omega) with rfl | rfl | rfl | rfl
            · exact c_1_0
            · exact c_1_1
            · exact c_1_2
            · exact c_1_3
          refine r_tabOut hc 64 dX8_told_1 ho9 (by decide) ?_
          refine r_aload_n hc 0 dX8_told_64 rfl ?_
          refine r_iload_n hc 1 dX8_told_65 rfl ?_
          obtain ⟨q66, hq66, hf⟩ := o_bind hf
          refine r_callVi (ws' := (kdo A :: (wH cy (sh A 10) hn ++ wP cy (sh A 40) pd))) (As := [.int x1]) (rest := []) hc (c_X8_toldByCode A hn x1 q66 hq66) kv_X8_toldByCode mw_846 0 rfl rfl [0, 1, 2, 3, 4, 5, 6, 7, 8, 9, 10] [11, 12] [2, 3, 4, 5, 6, 7, 8, 9, 10, 11, 12, 0, 1] ⟨rfl, rfl, rfl, rfl, rfl, rfl, rfl⟩ rfl rfl (Nat.le_of_ble_eq_true rfl) ⟨by decide, by decide⟩ dX8_told_66 ?_
          exact r_iret hK (Option.some.inj hf) rfl dX8_told_69
