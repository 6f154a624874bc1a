def X8_firstStill_B13 (k13 : HS → DS → Int32 → Option (Int32 × DS)) (hn : HS) (dr : DS) (x1 : Int32) : Option (Int32 × DS) :=
  (if (99 : Int32) < x1 then (some ((-6 : Int32), dr)) else ((f_X0_stillMinute dr).bind fun q23 => (if q23.1 = 0 then (k13 hn q23.2 (x1 + (1 : Int32))) else (some (x1, q23.2)))))
def f_X8_firstStill (hn : HS) (dr : DS) : Option (Int32 × DS) :=
  ((f_X0_begin dr hn).bind fun q8 => (it X8_firstStill_B13 (fun _ _ _ => none) FU hn q8 (1 : Int32)))
theorem kv_X8_firstStill : KV RX8 yX8_firstStill cX8_firstStill 2 (some .int) 0 := ⟨mw_626, mw_6, mw_55, mw_627, by decide +kernel⟩
set_option maxHeartbeats 8000000 in
set_option maxRecDepth 100000 in
theorem c_X8_firstStill {l : Launch} {E : va_G} {cy : Nat → ClassId} (A : Nat → Nat) (hn : HS) (dr : DS) (q : Int32 × DS) (hf : f_X8_firstStill hn dr = some q) : Ci l yX8_firstStill cX8_firstStill 2 (some .int) 5 154 E cy [.ref (A 0)] (kdo A :: (wH cy (sh A 10) hn ++ wD cy (sh A 50) dr)) q.1 (kdo A :: (wH cy (sh A 10) hn ++ wD cy (sh A 50) q.2)) := by
  refine Ci.of RX8 (by decide) rfl (Nat.le_of_ble_eq_true rfl) ?_
  intro K hK
  have hc := hK.cq
  have L13 : ∀ (n13 : Nat) (dr : DS) (x1 : Int32), it X8_firstStill_B13 (fun _ _ _ => none) n13 hn dr x1 = some q → V K (kdo A :: (wH cy (sh A 10) hn ++ wD cy (sh A 50) dr)) 13 [(0, .ref (A 0)), (1, .int x1)] [] := by
    intro n13
    induction n13 with
    | zero => intro dr x1 hf; exact (o_none hf).elim
    | succ n13 ih13 =>
      intro dr x1 hf
      replace hf : X8_firstStill_B13 (it X8_firstStill_B13 (fun _ _ _ => none) n13) hn dr x1 = some q := hf
      unfold X8_firstStill_B13 at hf
      refine r_iload_n hc 1 dX8_firstStill_13 rfl ?_
      refine r_bipush hc (99 : Int32) dX8_firstStill_14 rfl ?_
      refine r_icmp_gt hc 37 dX8_firstStill_16 (by decide) (fun c_1 => ?_) (fun c_1 => ?_)
      · have hf := o_pos c_1 hf
        refine r_bipush hc (-6 : Int32) dX8_firstStill_37 rfl ?_
        exact r_iret hK (congrArg (fun z9 => z9.1) (Option.some.inj hf)) (congrArg (fun z9 => (kdo A :: (wH cy (sh A 10) hn ++ wD cy (sh A 50) z9.2))) (Option.some.inj hf)) dX8_firstStill_39
      · have hf := o_neg c_1 hf
        refine r_aload_n hc 0 dX8_firstStill_19 rfl ?_
        refine r_get (v := .ref ((sh A 50) 0)) hc iw_X8 0 rfl rfl 4 (by decide) mw_299 rfl dX8_firstStill_20 ?_
        obtain ⟨q23, hq23, hf⟩ := o_bind hf
        refine r_callVBi (ws' := (kdo A :: (wH cy (sh A 10) hn ++ wD cy (sh A 50) q23.2))) (As := []) (rest := []) hc (c_X0_stillMinute (sh A 50) dr q23 hq23) kv_X0_stillMinute mw_628 0 rfl rfl [[kdo A], wH cy (sh A 10) hn, wDo cy (sh A 50) dr, wH cy (sh (sh A 50) 5) (D_house dr)] [[kdo A], wH cy (sh A 10) hn] [wDo cy (sh A 50) dr, wH cy (sh (sh A 50) 5) (D_house dr)] [wDo cy (sh A 50) q23.2, wH cy (sh (sh A 50) 5) (D_house q23.2)] [[kdo A], wH cy (sh A 10) hn, wDo cy (sh A 50) q23.2, wH cy (sh (sh A 50) 5) (D_house q23.2)] [0, 1, 2, 3] [0, 1, 2, 3] ⟨(by simp only [wD_eq, List.flatten_cons, List.flatten_nil, List.append_nil, List.append_assoc, List.cons_append, List.nil_append]), (by simp only [wD_eq, List.flatten_cons, List.flatten_nil, List.append_nil, List.append_assoc, List.cons_append, List.nil_append]), (by simp only [wD_eq, List.flatten_cons, List.flatten_nil, List.append_nil, List.append_assoc, List.cons_append, List.nil_append]), (by simp only [wD_eq, List.flatten_cons, List.flatten_nil, List.append_nil, List.append_assoc, List.cons_append, List.nil_append]), rfl, (show List.Perm [0, 1, 2, 3] (List.range 4) from by decide), rfl, (show List.Perm [0, 1, 2, 3] (List.range 4) from by decide)⟩ rfl rfl (Nat.le_of_ble_eq_true rfl) ⟨by decide, by decide⟩ dX8_firstStill_23 ?_
        refine r_if_eq hc 31 dX8_firstStill_26 (by decide) (fun c_2 => ?_) (fun c_2 => ?_)
        · have hf := o_pos c_2 hf
          refine r_iinc hc 1 [(1, .int (x1 + (1 : Int32))), (0, .ref (A 0))] (x1 + (1 : Int32)) dX8_firstStill_31 rfl rfl (by decide) rfl ?_
          refine r_goto hc 13 dX8_firstStill_34 (by decide) ?_
          exact V.sub [1, 0] rfl (ih13 q23.2 (x1 + (1 : Int32)) hf)
        · have hf := o_neg c_2 hf
          refine r_iload_n hc 1 dX8_firstStill_29 rfl ?_
          exact r_iret hK (congrArg (fun z9 => z9.1) (Option.some.inj hf)) (congrArg (fun z9 => (kdo A :: (wH cy (sh A 10) hn ++ wD cy (sh A 50) z9.2))) (Option.some.inj hf)) dX8_firstStill_30
  show V K (kdo A :: (wH cy (sh A 10) hn ++ wD cy (sh A 50) dr)) 0 [(0, .ref (A 0))] []
  unfold f_X8_firstStill at hf
  refine r_aload_n hc 0 dX8_firstStill_0 rfl ?_
  refine r_get (v := .ref ((sh A 50) 0)) hc iw_X8 0 rfl rfl 4 (by decide) mw_299 rfl dX8_firstStill_1 ?_
  refine r_aload_n hc 0 dX8_firstStill_4 rfl ?_
  refine r_get (v := .ref ((sh A 10) 0)) hc iw_X8 0 rfl rfl 0 (by decide) mw_295 rfl dX8_firstStill_5 ?_
  obtain ⟨q8, hq8, hf⟩ := o_bind hf
  refine r_callVBv (ws' := (kdo A :: (wH cy (sh A 10) hn ++ wD cy (sh A 50) q8))) (As := [.ref ((sh A 10) 0)]) (rest := []) hc (c_X0_begin (sh A 50) (sh A 10) dr hn q8 hq8) kv_X0_begin mw_596 0 rfl rfl [[kdo A], wH cy (sh A 10) hn, wDo cy (sh A 50) dr, wH cy (sh (sh A 50) 5) (D_house dr)] [[kdo A]] [wDo cy (sh A 50) dr, wH cy (sh (sh A 50) 5) (D_house dr), wH cy (sh A 10) hn] [wDo cy (sh A 50) q8, wH cy (sh (sh A 50) 5) (D_house q8), wH cy (sh A 10) hn] [[kdo A], wH cy (sh A 10) hn, wDo cy (sh A 50) q8, wH cy (sh (sh A 50) 5) (D_house q8)] [0, 2, 3, 1] [0, 3, 1, 2] ⟨(by simp only [wD_eq, List.flatten_cons, List.flatten_nil, List.append_nil, List.append_assoc, List.cons_append, List.nil_append]), (by simp only [wD_eq, List.flatten_cons, List.flatten_nil, List.append_nil, List.append_assoc, List.cons_append, List.nil_append]), (by simp only [wD_eq, List.flatten_cons, List.flatten_nil, List.append_nil, List.append_assoc, List.cons_append, List.nil_append]), (by simp only [wD_eq, List.flatten_cons, List.flatten_nil, List.append_nil, List.append_assoc, List.cons_append, List.nil_append]), rfl, (show List.Perm [0, 2, 3, 1] (List.range 4) from by decide), rfl, (show List.Perm [0, 3, 1, 2] (List.range 4) from by decide)⟩ rfl rfl (Nat.le_of_ble_eq_true rfl) ⟨by decide, by decide⟩ dX8_firstStill_8 ?_
  refine r_iconst hc (1 : Int32) dX8_firstStill_11 rfl ?_
  refine r_istore_n hc [(1, .int (1 : Int32)), (0, .ref (A 0))] dX8_firstStill_12 (by decide) rfl ?_
  exact V.sub [1, 0] rfl (L13 FU q8 (1 : Int32) hf)
def f_X8_still (hn : HS) (dr : DS) : Option (Int32 × DS) :=
  ((f_X8_firstStill hn dr).bind fun q1 => (some (q1.1, q1.2)))
theorem kv_X8_still : KV RX8 yX8_still cX8_still 1 (some .int) 0 := ⟨mw_621, mw_622, mw_55, mw_623, by decide +kernel⟩
set_option maxHeartbeats 8000000 in
set_option maxRecDepth 100000 in
theorem c_X8_still {l : Launch} {E : va_G} {cy : Nat → ClassId} (A : Nat → Nat) (hn : HS) (dr : DS) (q : Int32 × DS) (hf : f_X8_still hn dr = some q) : Ci l yX8_still cX8_still 1 (some .int) 6 175 E cy [.ref (A 0)] (kdo A :: (wH cy (sh A 10) hn ++ wD cy (sh A 50) dr)) q.1 (kdo A :: (wH cy (sh A 10) hn ++ wD cy (sh A 50) q.2)) := by
  refine Ci.of RX8 (by decide) rfl (Nat.le_of_ble_eq_true rfl) ?_
  intro K hK
  have hc := hK.cq
  show V K (kdo A :: (wH cy (sh A 10) hn ++ wD cy (sh A 50) dr)) 0 [(0, .ref (A 0))] []
  unfold f_X8_still at hf
  refine r_aload_n hc 0 dX8_still_0 rfl ?_
  obtain ⟨q1, hq1, hf⟩ := o_bind hf
  refine r_callVi (ws' := (kdo A :: (wH cy (sh A 10) hn ++ wD cy (sh A 50) q1.2))) (As := []) (rest := []) hc (c_X8_firstStill A hn dr q1 hq1) kv_X8_firstStill mw_624 0 rfl rfl _ _ _ (Sp_all _ _) rfl rfl (Nat.le_of_ble_eq_true rfl) ⟨by decide, by decide⟩ dX8_still_1 ?_
  exact r_iret hK (congrArg (fun z9 => z9.1) (Option.some.inj hf)) (congrArg (fun z9 => (kdo A :: (wH cy (sh A 10) hn ++ wD cy (sh A 50) z9.2))) (Option.some.inj hf)) dX8_still_4
def X8_round_B73 (k41 : HS → DS → (Nat → Int64) → Int32 → Option (Int32 × DS × (Nat → Int64))) (k73 : HS → DS → (Nat → Int64) → Int32 → Int32 → Option (Int32 × DS × (Nat → Int64))) (hn : HS) (dr : DS) (en : (Nat → Int64)) (x1 : Int32) (x2 : Int32) : Option (Int32 × DS × (Nat → Int64)) :=
  (if x1 ≤ x2 then (k41 hn dr en (x1 + (1 : Int32))) else (chk x2 100 (chk x1 100 (if (lg_cmp (en (x2).toNatClampNeg) (en (x1).toNatClampNeg)) = 0 then (some ((x1 - x2), dr, en)) else (k73 hn dr en x1 (x2 + (1 : Int32)))))))
def X8_round_B41 (k41 : HS → DS → (Nat → Int64) → Int32 → Option (Int32 × DS × (Nat → Int64))) (hn : HS) (dr : DS) (en : (Nat → Int64)) (x1 : Int32) : Option (Int32 × DS × (Nat → Int64)) :=
  (if (99 : Int32) < x1 then (some ((-6 : Int32), dr, en)) else ((f_X0_minute dr).bind fun q51 => ((f_X1_key (D_house q51.2)).bind fun q67 => (chk x1 100 (ltA (vp_updL en (x1).toNatClampNeg q67) fun f70 => (it (X8_round_B73 k41) (fun _ _ _ _ _ => none) FU hn q51.2 f70 x1 (0 : Int32)))))))
def f_X8_round (hn : HS) (dr : DS) (en : (Nat → Int64)) : Option (Int32 × DS × (Nat → Int64)) :=
  ((f_X8_firstStill hn dr).bind fun q1 => (if q1.1 = (-6 : Int32) then ((f_X0_begin q1.2 hn).bind fun q20 => ((f_X1_key (D_house q20)).bind fun q35 => (chk (0 : Int32) 100 (ltA (vp_updL en ((0 : Int32)).toNatClampNeg q35) fun f38 => (it X8_round_B41 (fun _ _ _ _ => none) FU hn q20 f38 (1 : Int32)))))) else (some ((-6 : Int32), q1.2, en))))
theorem kv_X8_round : KV RX8 yX8_round cX8_round 3 (some .int) 0 := ⟨mw_630, mw_631, mw_55, mw_632, by decide +kernel⟩
set_option maxHeartbeats 8000000 in
set_option maxRecDepth 100000 in
theorem c_X8_round {l : Launch} {E : va_G} {cy : Nat → ClassId} (A : Nat → Nat) (hn : HS) (dr : DS) (en : (Nat → Int64)) (q : Int32 × DS × (Nat → Int64)) (hf : f_X8_round hn dr en = some q) : Ci l yX8_round cX8_round 3 (some .int) 6 175 E cy [.ref (A 0)] (kdo A :: (wH cy (sh A 10) hn ++ wD cy (sh A 50) dr ++ [(A 3, .inl (cy 1, 100, .inr (.inl en)))])) q.1 (kdo A :: (wH cy (sh A 10) hn ++ wD cy (sh A 50) q.2.1 ++ [(A 3, .inl (cy 1, 100, .inr (.inl q.2.2)))])) := by
  refine Ci.of RX8 (by decide) rfl (Nat.le_of_ble_eq_true rfl) ?_
  intro K hK
  have hc := hK.cq
  have L41 : ∀ (n41 : Nat) (dr : DS) (en : (Nat → Int64)) (x1 : Int32), it X8_round_B41 (fun _ _ _ _ => none) n41 hn dr en x1 = some q → V K (kdo A :: (wH cy (sh A 10) hn ++ wD cy (sh A 50) dr ++ [(A 3, .inl (cy 1, 100, .inr (.inl en)))])) 41 [(0, .ref (A 0)), (1, .int x1)] [] := by
    intro n41
    induction n41 with
    | zero => intro dr en x1 hf; exact (o_none hf).elim
    | succ n41 ih41 =>
      have L73 : ∀ (n73 : Nat) (dr : DS) (en : (Nat → Int64)) (x1 : Int32) (x2 : Int32), it (X8_round_B73 (it X8_round_B41 (fun _ _ _ _ => none) n41)) (fun _ _ _ _ _ => none) n73 hn dr en x1 x2 = some q → V K (kdo A :: (wH cy (sh A 10) hn ++ wD cy (sh A 50) dr ++ [(A 3, .inl (cy 1, 100, .inr (.inl en)))])) 73 [(0, .ref (A 0)), (1, .int x1), (2, .int x2)] [] := by
        intro n73
        induction n73 with
        | zero => intro dr en x1 x2 hf; exact (o_none hf).elim
        | succ n73 ih73 =>
          intro dr en x1 x2 hf
          replace hf : X8_round_B73 (it X8_round_B41 (fun _ _ _ _ => none) n41) (it (X8_round_B73 (it X8_round_B41 (fun _ _ _ _ => none) n41)) (fun _ _ _ _ _ => none) n73) hn dr en x1 x2 = some q := hf
          unfold X8_round_B73 at hf
          refine r_iload_n hc 2 dX8_round_73 rfl ?_
          refine r_iload_n hc 1 dX8_round_74 rfl ?_
          refine r_icmp_ge hc 104 dX8_round_75 (by decide) (fun c_5 => ?_) (fun c_5 => ?_)
          · have hf := o_pos c_5 hf
            refine r_iinc hc 1 [(1, .int (x1 + (1 : Int32))), (0, .ref (A 0)), (2, .int x2)] (x1 + (1 : Int32)) dX8_round_104 rfl rfl (by decide) rfl ?_
            refine r_goto hc 41 dX8_round_107 (by decide) ?_
            exact V.sub [1, 0] rfl (ih41 dr en (x1 + (1 : Int32)) hf)
          · have hf := o_neg c_5 hf
            refine r_aload_n hc 0 dX8_round_78 rfl ?_
            refine r_get (v := .ref (A 3)) hc iw_X8 0 rfl rfl 10 (by decide) mw_305 rfl dX8_round_79 ?_
            refine r_iload_n hc 2 dX8_round_82 rfl ?_
            obtain ⟨i_6, hf⟩ := chk_some hf
            refine r_lald (f := en) hc 26 rfl i_6 dX8_round_83 ?_
            refine r_aload_n hc 0 dX8_round_84 rfl ?_
            refine r_get (v := .ref (A 3)) hc iw_X8 0 rfl rfl 10 (by decide) mw_305 rfl dX8_round_85 ?_
            refine r_iload_n hc 1 dX8_round_88 rfl ?_
            obtain ⟨i_7, hf⟩ := chk_some hf
            refine r_lald (f := en) hc 26 rfl i_7 dX8_round_89 ?_
            refine r_lcmp hc dX8_round_90 ?_
            refine r_if_ne hc 98 dX8_round_91 (by decide) (fun c_8 => ?_) (fun c_8 => ?_)
            · have hf := o_neg c_8 hf
              refine r_iinc hc 2 [(2, .int (x2 + (1 : Int32))), (0, .ref (A 0)), (1, .int x1)] (x2 + (1 : Int32)) dX8_round_98 rfl rfl (by decide) rfl ?_
              refine r_goto hc 73 dX8_round_101 (by decide) ?_
              exact V.sub [1, 2, 0] rfl (ih73 dr en x1 (x2 + (1 : Int32)) hf)
            · have hf := o_pos c_8 hf
              refine r_iload_n hc 1 dX8_round_94 rfl ?_
              refine r_iload_n hc 2 dX8_round_95 rfl ?_
              refine r_isub hc dX8_round_96 ?_
              exact r_iret hK (congrArg (fun z9 => z9.1) (Option.some.inj hf)) (congrArg (fun z9 => (kdo A :: (wH cy (sh A 10) hn ++ wD cy (sh A 50) z9.2.1 ++ [(A 3, .inl (cy 1, 100, .inr (.inl z9.2.2)))]))) (Option.some.inj hf)) dX8_round_97
      intro dr en x1 hf
      replace hf : X8_round_B41 (it X8_round_B41 (fun _ _ _ _ => none) n41) hn dr en x1 = some q := hf
      unfold X8_round_B41 at hf
      refine r_iload_n hc 1 dX8_round_41 rfl ?_
      refine r_bipush hc (99 : Int32) dX8_round_42 rfl ?_
      refine r_icmp_gt hc 110 dX8_round_44 (by decide) (fun c_3 => ?_) (fun c_3 => ?_)
      · have hf := o_pos c_3 hf
        refine r_bipush hc (-6 : Int32) dX8_round_110 rfl ?_
        exact r_iret hK (congrArg (fun z9 => z9.1) (Option.some.inj hf)) (congrArg (fun z9 => (kdo A :: (wH cy (sh A 10) hn ++ wD cy (sh A 50) z9.2.1 ++ [(A 3, .inl (cy 1, 100, .inr (.inl z9.2.2)))]))) (Option.some.inj hf)) dX8_round_112
      · have hf := o_neg c_3 hf
        refine r_aload_n hc 0 dX8_round_47 rfl ?_
        refine r_get (v := .ref ((sh A 50) 0)) hc iw_X8 0 rfl rfl 4 (by decide) mw_299 rfl dX8_round_48 ?_
        obtain ⟨q51, hq51, hf⟩ := o_bind hf
        refine r_callVBi (ws' := (kdo A :: (wH cy (sh A 10) hn ++ wD cy (sh A 50) q51.2 ++ [(A 3, .inl (cy 1, 100, .inr (.inl en)))]))) (As := []) (rest := []) hc (c_X0_minute (sh A 50) dr q51 hq51) kv_X0_minute mw_637 0 rfl rfl [[kdo A], wH cy (sh A 10) hn, wDo cy (sh A 50) dr, wH cy (sh (sh A 50) 5) (D_house dr), [(A 3, .inl (cy 1, 100, .inr (.inl en)))]] [[kdo A], wH cy (sh A 10) hn, [(A 3, .inl (cy 1, 100, .inr (.inl en)))]] [wDo cy (sh A 50) dr, wH cy (sh (sh A 50) 5) (D_house dr)] [wDo cy (sh A 50) q51.2, wH cy (sh (sh A 50) 5) (D_house q51.2)] [[kdo A], wH cy (sh A 10) hn, wDo cy (sh A 50) q51.2, wH cy (sh (sh A 50) 5) (D_house q51.2), [(A 3, .inl (cy 1, 100, .inr (.inl en)))]] [0, 1, 4, 2, 3] [0, 1, 3, 4, 2] ⟨(by simp only [wD_eq, List.flatten_cons, List.flatten_nil, List.append_nil, List.append_assoc, List.cons_append, List.nil_append]), (by simp only [wD_eq, List.flatten_cons, List.flatten_nil, List.append_nil, List.append_assoc, List.cons_append, List.nil_append]), (by simp only [wD_eq, List.flatten_cons, List.flatten_nil, List.append_nil, List.append_assoc, List.cons_append, List.nil_append]), (by simp only [wD_eq, List.flatten_cons, List.flatten_nil, List.append_nil, List.append_assoc, List.cons_append, List.nil_append]), rfl, (show List.Perm [0, 1, 4, 2, 3] (List.range 5) from by decide), rfl, (show List.Perm [0, 1, 3, 4, 2] (List.range 5) from by decide)⟩ rfl rfl (Nat.le_of_ble_eq_true rfl) ⟨by decide, by decide⟩ dX8_round_51 ?_
        refine r_pop hc dX8_round_54 rfl ?_
        refine r_aload_n hc 0 dX8_round_55 rfl ?_
        refine r_get (v := .ref (A 3)) hc iw_X8 0 rfl rfl 10 (by decide) mw_305 rfl dX8_round_56 ?_
        refine r_iload_n hc 1 dX8_round_59 rfl ?_
        refine r_aload_n hc 0 dX8_round_60 rfl ?_
        refine r_get (v := .ref ((sh A 50) 0)) hc iw_X8 0 rfl rfl 4 (by decide) mw_299 rfl dX8_round_61 ?_
        refine r_get (v := .ref ((sh (sh A 50) 5) 0)) hc iw_X0 11 rfl rfl 0 (by decide) mw_171 rfl dX8_round_64 ?_
        obtain ⟨q67, hq67, hf⟩ := o_bind hf
        refine r_callVBl (ws' := (kdo A :: (wH cy (sh A 10) hn ++ wD cy (sh A 50) q51.2 ++ [(A 3, .inl (cy 1, 100, .inr (.inl en)))]))) (As := []) (rest := [.int x1, .ref (A 3)]) hc (c_X1_key (sh (sh A 50) 5) (D_house q51.2) q67 hq67) kv_X1_key mw_633 0 rfl rfl [[kdo A], wH cy (sh A 10) hn, wDo cy (sh A 50) q51.2, wH cy (sh (sh A 50) 5) (D_house q51.2), [(A 3, .inl (cy 1, 100, .inr (.inl en)))]] [[kdo A], wH cy (sh A 10) hn, wDo cy (sh A 50) q51.2, [(A 3, .inl (cy 1, 100, .inr (.inl en)))]] [wH cy (sh (sh A 50) 5) (D_house q51.2)] [wH cy (sh (sh A 50) 5) (D_house q51.2)] [[kdo A], wH cy (sh A 10) hn, wDo cy (sh A 50) q51.2, wH cy (sh (sh A 50) 5) (D_house q51.2), [(A 3, .inl (cy 1, 100, .inr (.inl en)))]] [0, 1, 2, 4, 3] [0, 1, 2, 4, 3] ⟨(by simp only [wD_eq, List.flatten_cons, List.flatten_nil, List.append_nil, List.append_assoc, List.cons_append, List.nil_append]), (by simp only [wD_eq, List.flatten_cons, List.flatten_nil, List.append_nil, List.append_assoc, List.cons_append, List.nil_append]), (by simp only [wD_eq, List.flatten_cons, List.flatten_nil, List.append_nil, List.append_assoc, List.cons_append, List.nil_append]), (by simp only [wD_eq, List.flatten_cons, List.flatten_nil, List.append_nil, List.append_assoc, List.cons_append, List.nil_append]), rfl, (show List.Perm [0, 1, 2, 4, 3] (List.range 5) from by decide), rfl, (show List.Perm [0, 1, 2, 4, 3] (List.range 5) from by decide)⟩ rfl rfl (Nat.le_of_ble_eq_true rfl) ⟨by decide, by decide⟩ dX8_round_67 ?_
        obtain ⟨i_4, hf⟩ := chk_some hf
        obtain ⟨f70, ef70, hf⟩ := lt_some hf
        refine r_last (f := en) hc 26 rfl i_4 dX8_round_70 f70 ef70 (kdo A :: (wH cy (sh A 10) hn ++ wD cy (sh A 50) q51.2 ++ [(A 3, .inl (cy 1, 100, .inr (.inl f70)))])) rfl ?_
        refine r_iconst hc (0 : Int32) dX8_round_71 rfl ?_
        refine r_istore_n hc [(2, .int (0 : Int32)), (0, .ref (A 0)), (1, .int x1)] dX8_round_72 (by decide) rfl ?_
        exact V.sub [1, 2, 0] rfl (L73 FU q51.2 f70 x1 (0 : Int32) hf)
  show V K (kdo A :: (wH cy (sh A 10) hn ++ wD cy (sh A 50) dr ++ [(A 3, .inl (cy 1, 100, .inr (.inl en)))])) 0 [(0, .ref (A 0))] []
  unfold f_X8_round at hf
  refine r_aload_n hc 0 dX8_round_0 rfl ?_
  obtain ⟨q1, hq1, hf⟩ := o_bind hf
  refine r_callVBi (ws' := (kdo A :: (wH cy (sh A 10) hn ++ wD cy (sh A 50) q1.2 ++ [(A 3, .inl (cy 1, 100, .inr (.inl en)))]))) (As := []) (rest := []) hc (c_X8_firstStill A hn dr q1 hq1) kv_X8_firstStill mw_624 0 rfl rfl [[kdo A], wH cy (sh A 10) hn, wDo cy (sh A 50) dr, wH cy (sh (sh A 50) 5) (D_house dr), [(A 3, .inl (cy 1, 100, .inr (.inl en)))]] [[(A 3, .inl (cy 1, 100, .inr (.inl en)))]] [[kdo A], wH cy (sh A 10) hn, wDo cy (sh A 50) dr, wH cy (sh (sh A 50) 5) (D_house dr)] [[kdo A], wH cy (sh A 10) hn, wDo cy (sh A 50) q1.2, wH cy (sh (sh A 50) 5) (D_house q1.2)] [[kdo A], wH cy (sh A 10) hn, wDo cy (sh A 50) q1.2, wH cy (sh (sh A 50) 5) (D_house q1.2), [(A 3, .inl (cy 1, 100, .inr (.inl en)))]] [4, 0, 1, 2, 3] [1, 2, 3, 4, 0] ⟨(by simp only [wD_eq, List.flatten_cons, List.flatten_nil, List.append_nil, List.append_assoc, List.cons_append, List.nil_append]), (by simp only [wD_eq, List.flatten_cons, List.flatten_nil, List.append_nil, List.append_assoc, List.cons_append, List.nil_append]), (by simp only [wD_eq, List.flatten_cons, List.flatten_nil, List.append_nil, List.append_assoc, List.cons_append, List.nil_append]), (by simp only [wD_eq, List.flatten_cons, List.flatten_nil, List.append_nil, List.append_assoc, List.cons_append, List.nil_append]), rfl, (show List.Perm [4, 0, 1, 2, 3] (List.range 5) from by decide), rfl, (show List.Perm [1, 2, 3, 4, 0] (List.range 5) from by decide)⟩ rfl rfl (Nat.le_of_ble_eq_true rfl) ⟨by decide, by decide⟩ dX8_round_1 ?_
  refine r_bipush hc (-6 : Int32) dX8_round_4 rfl ?_
  refine r_icmp_eq hc 12 dX8_round_6 (by decide) (fun c_1 => ?_) (fun c_1 => ?_)
  · have hf := o_pos c_1 hf
    refine r_aload_n hc 0 dX8_round_12 rfl ?_
    refine r_get (v := .ref ((sh A 50) 0)) hc iw_X8 0 rfl rfl 4 (by decide) mw_299 rfl dX8_round_13 ?_
    refine r_aload_n hc 0 dX8_round_16 rfl ?_
    refine r_get (v := .ref ((sh A 10) 0)) hc iw_X8 0 rfl rfl 0 (by decide) mw_295 rfl dX8_round_17 ?_
    obtain ⟨q20, hq20, hf⟩ := o_bind hf
    refine r_callVBv (ws' := (kdo A :: (wH cy (sh A 10) hn ++ wD cy (sh A 50) q20 ++ [(A 3, .inl (cy 1, 100, .inr (.inl en)))]))) (As := [.ref ((sh A 10) 0)]) (rest := []) hc (c_X0_begin (sh A 50) (sh A 10) q1.2 hn q20 hq20) kv_X0_begin mw_596 0 rfl rfl [[kdo A], wH cy (sh A 10) hn, wDo cy (sh A 50) q1.2, wH cy (sh (sh A 50) 5) (D_house q1.2), [(A 3, .inl (cy 1, 100, .inr (.inl en)))]] [[kdo A], [(A 3, .inl (cy 1, 100, .inr (.inl en)))]] [wDo cy (sh A 50) q1.2, wH cy (sh (sh A 50) 5) (D_house q1.2), wH cy (sh A 10) hn] [wDo cy (sh A 50) q20, wH cy (sh (sh A 50) 5) (D_house q20), wH cy (sh A 10) hn] [[kdo A], wH cy (sh A 10) hn, wDo cy (sh A 50) q20, wH cy (sh (sh A 50) 5) (D_house q20), [(A 3, .inl (cy 1, 100, .inr (.inl en)))]] [0, 4, 2, 3, 1] [0, 4, 2, 3, 1] ⟨(by simp only [wD_eq, List.flatten_cons, List.flatten_nil, List.append_nil, List.append_assoc, List.cons_append, List.nil_append]), (by simp only [wD_eq, List.flatten_cons, List.flatten_nil, List.append_nil, List.append_assoc, List.cons_append, List.nil_append]), (by simp only [wD_eq, List.flatten_cons, List.flatten_nil, List.append_nil, List.append_assoc, List.cons_append, List.nil_append]), (by simp only [wD_eq, List.flatten_cons, List.flatten_nil, List.append_nil, List.append_assoc, List.cons_append, List.nil_append]), rfl, (show List.Perm [0, 4, 2, 3, 1] (List.range 5) from by decide), rfl, (show List.Perm [0, 4, 2, 3, 1] (List.range 5) from by decide)⟩ rfl rfl (Nat.le_of_ble_eq_true rfl) ⟨by decide, by decide⟩ dX8_round_20 ?_
    refine r_aload_n hc 0 dX8_round_23 rfl ?_
    refine r_get (v := .ref (A 3)) hc iw_X8 0 rfl rfl 10 (by decide) mw_305 rfl dX8_round_24 ?_
    refine r_iconst hc (0 : Int32) dX8_round_27 rfl ?_
    refine r_aload_n hc 0 dX8_round_28 rfl ?_
    refine r_get (v := .ref ((sh A 50) 0)) hc iw_X8 0 rfl rfl 4 (by decide) mw_299 rfl dX8_round_29 ?_
    refine r_get (v := .ref ((sh (sh A 50) 5) 0)) hc iw_X0 11 rfl rfl 0 (by decide) mw_171 rfl dX8_round_32 ?_
    obtain ⟨q35, hq35, hf⟩ := o_bind hf
    refine r_callVBl (ws' := (kdo A :: (wH cy (sh A 10) hn ++ wD cy (sh A 50) q20 ++ [(A 3, .inl (cy 1, 100, .inr (.inl en)))]))) (As := []) (rest := [.int (0 : Int32), .ref (A 3)]) hc (c_X1_key (sh (sh A 50) 5) (D_house q20) q35 hq35) kv_X1_key mw_633 0 rfl rfl [[kdo A], wH cy (sh A 10) hn, wDo cy (sh A 50) q20, wH cy (sh (sh A 50) 5) (D_house q20), [(A 3, .inl (cy 1, 100, .inr (.inl en)))]] [[kdo A], wH cy (sh A 10) hn, wDo cy (sh A 50) q20, [(A 3, .inl (cy 1, 100, .inr (.inl en)))]] [wH cy (sh (sh A 50) 5) (D_house q20)] [wH cy (sh (sh A 50) 5) (D_house q20)] [[kdo A], wH cy (sh A 10) hn, wDo cy (sh A 50) q20, wH cy (sh (sh A 50) 5) (D_house q20), [(A 3, .inl (cy 1, 100, .inr (.inl en)))]] [0, 1, 2, 4, 3] [0, 1, 2, 4, 3] ⟨(by simp only [wD_eq, List.flatten_cons, List.flatten_nil, List.append_nil, List.append_assoc, List.cons_append, List.nil_append]), (by simp only [wD_eq, List.flatten_cons, List.flatten_nil, List.append_nil, List.append_assoc, List.cons_append, List.nil_append]), (by simp only [wD_eq, List.flatten_cons, List.flatten_nil, List.append_nil, List.append_assoc, List.cons_append, List.nil_append]), (by simp only [wD_eq, List.flatten_cons, List.flatten_nil, List.append_nil, List.append_assoc, List.cons_append, List.nil_append]), rfl, (show List.Perm [0, 1, 2, 4, 3] (List.range 5) from by decide), rfl, (show List.Perm [0, 1, 2, 4, 3] (List.range 5) from by decide)⟩ rfl rfl (Nat.le_of_ble_eq_true rfl) ⟨by decide, by decide⟩ dX8_round_35 ?_
    obtain ⟨i_2, hf⟩ := chk_some hf
    obtain ⟨f38, ef38, hf⟩ := lt_some hf
    refine r_last (f := en) hc 26 rfl i_2 dX8_round_38 f38 ef38 (kdo A :: (wH cy (sh A 10) hn ++ wD cy (sh A 50) q20 ++ [(A 3, .inl (cy 1, 100, .inr (.inl f38)))])) rfl ?_
    refine r_iconst hc (1 : Int32) dX8_round_39 rfl ?_
    refine r_istore_n hc [(1, .int (1 : Int32)), (0, .ref (A 0))] dX8_round_40 (by decide) rfl ?_
    exact V.sub [1, 0] rfl (L41 FU q20 f38 (1 : Int32) hf)
  · have hf := o_neg c_1 hf
    refine r_bipush hc (-6 : Int32) dX8_round_9 rfl ?_
    exact r_iret hK (congrArg (fun z9 => z9.1) (Option.some.inj hf)) (congrArg (fun z9 => (kdo A :: (wH cy (sh A 10) hn ++ wD cy (sh A 50) z9.2.1 ++ [(A 3, .inl (cy 1, 100, .inr (.inl z9.2.2)))]))) (Option.some.inj hf)) dX8_round_11
def X8_throng_B29 (k29 : HS → DS → Int32 → Int32 → Int32 → Option (Int32 × DS)) (hn : HS) (dr : DS) (x1 : Int32) (x2 : Int32) (x3 : Int32) : Option (Int32 × DS) :=
  (if x1 ≤ x3 then (some (x2, dr)) else ((f_X0_minute dr).bind fun q38 => ((f_X0_fullest q38.2).bind fun q47 => (k29 hn q38.2 x1 (if x2 < q47 then q47 else x2) (x3 + (1 : Int32))))))
def f_X8_throng (hn : HS) (dr : DS) (x1 : Int32) : Option (Int32 × DS) :=
  (if x1 < (1 : Int32) then (some ((-2 : Int32), dr)) else (if x1 ≤ (99 : Int32) then ((f_X0_begin dr hn).bind fun q22 => (it X8_throng_B29 (fun _ _ _ _ _ => none) FU hn q22 x1 (0 : Int32) (0 : Int32))) else (some ((-2 : Int32), dr))))
theorem kv_X8_throng : KV RX8 yX8_throng cX8_throng 4 (some .int) 1 := ⟨mw_639, mw_640, mw_55, mw_641, by decide +kernel⟩
set_option maxHeartbeats 8000000 in
set_option maxRecDepth 100000 in
theorem c_X8_throng {l : Launch} {E : va_G} {cy : Nat → ClassId} (A : Nat → Nat) (hn : HS) (dr : DS) (x1 : Int32) (q : Int32 × DS) (hf : f_X8_throng hn dr x1 = some q) : Ci l yX8_throng cX8_throng 4 (some .int) 5 148 E cy [.ref (A 0), .int x1] (kdo A :: (wH cy (sh A 10) hn ++ wD cy (sh A 50) dr)) q.1 (kdo A :: (wH cy (sh A 10) hn ++ wD cy (sh A 50) q.2)) := by
  refine Ci.of RX8 (by decide) rfl (Nat.le_of_ble_eq_true rfl) ?_
  intro K hK
  have hc := hK.cq
  have L29 : ∀ (n29 : Nat) (dr : DS) (x1 : Int32) (x2 : Int32) (x3 : Int32), it X8_throng_B29 (fun _ _ _ _ _ => none) n29 hn dr x1 x2 x3 = some q → V K (kdo A :: (wH cy (sh A 10) hn ++ wD cy (sh A 50) dr)) 29 [(0, .ref (A 0)), (1, .int x1), (2, .int x2), (3, .int x3)] [] := by
    intro n29
    induction n29 with
    | zero => intro dr x1 x2 x3 hf; exact (o_none hf).elim
    | succ n29 ih29 =>
      intro dr x1 x2 x3 hf
      replace hf : X8_throng_B29 (it X8_throng_B29 (fun _ _ _ _ _ => none) n29) hn dr x1 x2 x3 = some q := hf
      unfold X8_throng_B29 at hf
      refine r_iload_n hc 3 dX8_throng_29 rfl ?_
      refine r_iload_n hc 1 dX8_throng_30 rfl ?_
      refine r_icmp_ge hc 60 dX8_throng_31 (by decide) (fun c_3 => ?_) (fun c_3 => ?_)
      · have hf := o_pos c_3 hf
        refine r_iload_n hc 2 dX8_throng_60 rfl ?_
        exact r_iret hK (congrArg (fun z9 => z9.1) (Option.some.inj hf)) (congrArg (fun z9 => (kdo A :: (wH cy (sh A 10) hn ++ wD cy (sh A 50) z9.2))) (Option.some.inj hf)) dX8_throng_61
      · have hf := o_neg c_3 hf
        refine r_aload_n hc 0 dX8_throng_34 rfl ?_
        refine r_get (v := .ref ((sh A 50) 0)) hc iw_X8 0 rfl rfl 4 (by decide) mw_299 rfl dX8_throng_35 ?_
        obtain ⟨q38, hq38, hf⟩ := o_bind hf
        refine r_callVBi (ws' := (kdo A :: (wH cy (sh A 10) hn ++ wD cy (sh A 50) q38.2))) (As := []) (rest := []) hc (c_X0_minute (sh A 50) dr q38 hq38) kv_X0_minute mw_637 0 rfl rfl [[kdo A], wH cy (sh A 10) hn, wDo cy (sh A 50) dr, wH cy (sh (sh A 50) 5) (D_house dr)] [[kdo A], wH cy (sh A 10) hn] [wDo cy (sh A 50) dr, wH cy (sh (sh A 50) 5) (D_house dr)] [wDo cy (sh A 50) q38.2, wH cy (sh (sh A 50) 5) (D_house q38.2)] [[kdo A], wH cy (sh A 10) hn, wDo cy (sh A 50) q38.2, wH cy (sh (sh A 50) 5) (D_house q38.2)] [0, 1, 2, 3] [0, 1, 2, 3] ⟨(by simp only [wD_eq, List.flatten_cons, List.flatten_nil, List.append_nil, List.append_assoc, List.cons_append, List.nil_append]), (by simp only [wD_eq, List.flatten_cons, List.flatten_nil, List.append_nil, List.append_assoc, List.cons_append, List.nil_append]), (by simp only [wD_eq, List.flatten_cons, List.flatten_nil, List.append_nil, List.append_assoc, List.cons_append, List.nil_append]), (by simp only [wD_eq, List.flatten_cons, List.flatten_nil, List.append_nil, List.append_assoc, List.cons_append, List.nil_append]), rfl, (show List.Perm [0, 1, 2, 3] (List.range 4) from by decide), rfl, (show List.Perm [0, 1, 2, 3] (List.range 4) from by decide)⟩ rfl rfl (Nat.le_of_ble_eq_true rfl) ⟨by decide, by decide⟩ dX8_throng_38 ?_
        refine r_pop hc dX8_throng_41 rfl ?_
        refine r_iload_n hc 2 dX8_throng_42 rfl ?_
        refine r_aload_n hc 0 dX8_throng_43 rfl ?_
        refine r_get (v := .ref ((sh A 50) 0)) hc iw_X8 0 rfl rfl 4 (by decide) mw_299 rfl dX8_throng_44 ?_
        obtain ⟨q47, hq47, hf⟩ := o_bind hf
        refine r_callVBi (ws' := (kdo A :: (wH cy (sh A 10) hn ++ wD cy (sh A 50) q38.2))) (As := []) (rest := [.int x2]) hc (c_X0_fullest (sh A 50) q38.2 q47 hq47) kv_X0_fullest mw_642 0 rfl rfl [[kdo A], wH cy (sh A 10) hn, wDo cy (sh A 50) q38.2, wH cy (sh (sh A 50) 5) (D_house q38.2)] [[kdo A], wH cy (sh A 10) hn] [wDo cy (sh A 50) q38.2, wH cy (sh (sh A 50) 5) (D_house q38.2)] [wDo cy (sh A 50) q38.2, wH cy (sh (sh A 50) 5) (D_house q38.2)] [[kdo A], wH cy (sh A 10) hn, wDo cy (sh A 50) q38.2, wH cy (sh (sh A 50) 5) (D_house q38.2)] [0, 1, 2, 3] [0, 1, 2, 3] ⟨(by simp only [wD_eq, List.flatten_cons, List.flatten_nil, List.append_nil, List.append_assoc, List.cons_append, List.nil_append]), (by simp only [wD_eq, List.flatten_cons, List.flatten_nil, List.append_nil, List.append_assoc, List.cons_append, List.nil_append]), (by simp only [wD_eq, List.flatten_cons, List.flatten_nil, List.append_nil, List.append_assoc, List.cons_append, List.nil_append]), (by simp only [wD_eq, List.flatten_cons, List.flatten_nil, List.append_nil, List.append_assoc, List.cons_append, List.nil_append]), rfl, (show List.Perm [0, 1, 2, 3] (List.range 4) from by decide), rfl, (show List.Perm [0, 1, 2, 3] (List.range 4) from by decide)⟩ rfl rfl (Nat.le_of_ble_eq_true rfl) ⟨by decide, by decide⟩ dX8_throng_47 ?_
        refine r_mmax hc mw_649 mw_647 mw_68 mw_648 (by decide) (Nat.le_of_ble_eq_true rfl) dX8_throng_50 ?_
        refine r_istore_n hc [(2, .int (if x2 < q47 then q47 else x2)), (0, .ref (A 0)), (1, .int x1), (3, .int x3)] dX8_throng_53 (by decide) rfl ?_
        refine r_iinc hc 3 [(3, .int (x3 + (1 : Int32))), (2, .int (if x2 < q47 then q47 else x2)), (0, .ref (A 0)), (1, .int x1)] (x3 + (1 : Int32)) dX8_throng_54 rfl rfl (by decide) rfl ?_
        refine r_goto hc 29 dX8_throng_57 (by decide) ?_
        exact V.sub [2, 3, 1, 0] rfl (ih29 q38.2 x1 (if x2 < q47 then q47 else x2) (x3 + (1 : Int32)) hf)
  show V K (kdo A :: (wH cy (sh A 10) hn ++ wD cy (sh A 50) dr)) 0 [(0, .ref (A 0)), (1, .int x1)] []
  unfold f_X8_throng at hf
  refine r_iload_n hc 1 dX8_throng_0 rfl ?_
  refine r_iconst hc (1 : Int32) dX8_throng_1 rfl ?_
  refine r_icmp_lt hc 11 dX8_throng_2 (by decide) (fun c_1 => ?_) (fun c_1 => ?_)
  · have hf := o_pos c_1 hf
    refine r_bipush hc (-2 : Int32) dX8_throng_11 rfl ?_
    exact r_iret hK (congrArg (fun z9 => z9.1) (Option.some.inj hf)) (congrArg (fun z9 => (kdo A :: (wH cy (sh A 10) hn ++ wD cy (sh A 50) z9.2))) (Option.some.inj hf)) dX8_throng_13
  · have hf := o_neg c_1 hf
    refine r_iload_n hc 1 dX8_throng_5 rfl ?_
    refine r_bipush hc (99 : Int32) dX8_throng_6 rfl ?_
    refine r_icmp_le hc 14 dX8_throng_8 (by decide) (fun c_2 => ?_) (fun c_2 => ?_)
    · have hf := o_pos c_2 hf
      refine r_aload_n hc 0 dX8_throng_14 rfl ?_
      refine r_get (v := .ref ((sh A 50) 0)) hc iw_X8 0 rfl rfl 4 (by decide) mw_299 rfl dX8_throng_15 ?_
      refine r_aload_n hc 0 dX8_throng_18 rfl ?_
      refine r_get (v := .ref ((sh A 10) 0)) hc iw_X8 0 rfl rfl 0 (by decide) mw_295 rfl dX8_throng_19 ?_
      obtain ⟨q22, hq22, hf⟩ := o_bind hf
      refine r_callVBv (ws' := (kdo A :: (wH cy (sh A 10) hn ++ wD cy (sh A 50) q22))) (As := [.ref ((sh A 10) 0)]) (rest := []) hc (c_X0_begin (sh A 50) (sh A 10) dr hn q22 hq22) kv_X0_begin mw_596 0 rfl rfl [[kdo A], wH cy (sh A 10) hn, wDo cy (sh A 50) dr, wH cy (sh (sh A 50) 5) (D_house dr)] [[kdo A]] [wDo cy (sh A 50) dr, wH cy (sh (sh A 50) 5) (D_house dr), wH cy (sh A 10) hn] [wDo cy (sh A 50) q22, wH cy (sh (sh A 50) 5) (D_house q22), wH cy (sh A 10) hn] [[kdo A], wH cy (sh A 10) hn, wDo cy (sh A 50) q22, wH cy (sh (sh A 50) 5) (D_house q22)] [0, 2, 3, 1] [0, 3, 1, 2] ⟨(by simp only [wD_eq, List.flatten_cons, List.flatten_nil, List.append_nil, List.append_assoc, List.cons_append, List.nil_append]), (by simp only [wD_eq, List.flatten_cons, List.flatten_nil, List.append_nil, List.append_assoc, List.cons_append, List.nil_append]), (by simp only [wD_eq, List.flatten_cons, List.flatten_nil, List.append_nil, List.append_assoc, List.cons_append, List.nil_append]), (by simp only [wD_eq, List.flatten_cons, List.flatten_nil, List.append_nil, List.append_assoc, List.cons_append, List.nil_append]), rfl, (show List.Perm [0, 2, 3, 1] (List.range 4) from by decide), rfl, (show List.Perm [0, 3, 1, 2] (List.range 4) from by decide)⟩ rfl rfl (Nat.le_of_ble_eq_true rfl) ⟨by decide, by decide⟩ dX8_throng_22 ?_
      refine r_iconst hc (0 : Int32) dX8_throng_25 rfl ?_
      refine r_istore_n hc [(2, .int (0 : Int32)), (0, .ref (A 0)), (1, .int x1)] dX8_throng_26 (by decide) rfl ?_
      refine r_iconst hc (0 : Int32) dX8_throng_27 rfl ?_
      refine r_istore_n hc [(3, .int (0 : Int32)), (2, .int (0 : Int32)), (0, .ref (A 0)), (1, .int x1)] dX8_throng_28 (by decide) rfl ?_
      exact V.sub [2, 3, 1, 0] rfl (L29 FU q22 x1 (0 : Int32) (0 : Int32) hf)
    · have hf := o_neg c_2 hf
      refine r_bipush hc (-2 : Int32) dX8_throng_11 rfl ?_
      exact r_iret hK (congrArg (fun z9 => z9.1) (Option.some.inj hf)) (congrArg (fun z9 => (kdo A :: (wH cy (sh A 10) hn ++ wD cy (sh A 50) z9.2))) (Option.some.inj hf)) dX8_throng_13
def f_X8_fullestBehind (hn : HS) (dr : DS) (x1 : Int32) : Option (Int32 × DS) :=
  ((f_X0_begin dr hn).bind fun q8 => ((f_X0_run q8 x1).bind fun q16 => ((f_X0_fullest q16).bind fun q23 => (some (q23, q16)))))
theorem kv_X8_fullestBehind : KV RX8 yX8_fullestBehind cX8_fullestBehind 2 (some .int) 1 := ⟨mw_656, mw_7, mw_55, mw_657, by decide +kernel⟩
set_option maxHeartbeats 8000000 in
set_option maxRecDepth 100000 in
theorem c_X8_fullestBehind {l : Launch} {E : va_G} {cy : Nat → ClassId} (A : Nat → Nat) (hn : HS) (dr : DS) (x1 : Int32) (q : Int32 × DS) (hf : f_X8_fullestBehind hn dr x1 = some q) : Ci l yX8_fullestBehind cX8_fullestBehind 2 (some .int) 6 176 E cy [.ref (A 0), .int x1] (kdo A :: (wH cy (sh A 10) hn ++ wD cy (sh A 50) dr)) q.1 (kdo A :: (wH cy (sh A 10) hn ++ wD cy (sh A 50) q.2)) := by
  refine Ci.of RX8 (by decide) rfl (Nat.le_of_ble_eq_true rfl) ?_
  intro K hK
  have hc := hK.cq
  show V K (kdo A :: (wH cy (sh A 10) hn ++ wD cy (sh A 50) dr)) 0 [(0, .ref (A 0)), (1, .int x1)] []
  unfold f_X8_fullestBehind at hf
  refine r_aload_n hc 0 dX8_fullestBehind_0 rfl ?_
  refine r_get (v := .ref ((sh A 50) 0)) hc iw_X8 0 rfl rfl 4 (by decide) mw_299 rfl dX8_fullestBehind_1 ?_
  refine r_aload_n hc 0 dX8_fullestBehind_4 rfl ?_
  refine r_get (v := .ref ((sh A 10) 0)) hc iw_X8 0 rfl rfl 0 (by decide) mw_295 rfl dX8_fullestBehind_5 ?_
  obtain ⟨q8, hq8, hf⟩ := o_bind hf
  refine r_callVBv (ws' := (kdo A :: (wH cy (sh A 10) hn ++ wD cy (sh A 50) q8))) (As := [.ref ((sh A 10) 0)]) (rest := []) hc (c_X0_begin (sh A 50) (sh A 10) dr hn q8 hq8) kv_X0_begin mw_596 0 rfl rfl [[kdo A], wH cy (sh A 10) hn, wDo cy (sh A 50) dr, wH cy (sh (sh A 50) 5) (D_house dr)] [[kdo A]] [wDo cy (sh A 50) dr, wH cy (sh (sh A 50) 5) (D_house dr), wH cy (sh A 10) hn] [wDo cy (sh A 50) q8, wH cy (sh (sh A 50) 5) (D_house q8), wH cy (sh A 10) hn] [[kdo A], wH cy (sh A 10) hn, wDo cy (sh A 50) q8, wH cy (sh (sh A 50) 5) (D_house q8)] [0, 2, 3, 1] [0, 3, 1, 2] ⟨(by simp only [wD_eq, List.flatten_cons, List.flatten_nil, List.append_nil, List.append_assoc, List.cons_append, List.nil_append]), (by simp only [wD_eq, List.flatten_cons, List.flatten_nil, List.append_nil, List.append_assoc, List.cons_append, List.nil_append]), (by simp only [wD_eq, List.flatten_cons, List.flatten_nil, List.append_nil, List.append_assoc, List.cons_append, List.nil_append]), (by simp only [wD_eq, List.flatten_cons, List.flatten_nil, List.append_nil, List.append_assoc, List.cons_append, List.nil_append]), rfl, (show List.Perm [0, 2, 3, 1] (List.range 4) from by decide), rfl, (show List.Perm [0, 3, 1, 2] (List.range 4) from by decide)⟩ rfl rfl (Nat.le_of_ble_eq_true rfl) ⟨by decide, by decide⟩ dX8_fullestBehind_8 ?_
  refine r_aload_n hc 0 dX8_fullestBehind_11 rfl ?_
  refine r_get (v := .ref ((sh A 50) 0)) hc iw_X8 0 rfl rfl 4 (by decide) mw_299 rfl dX8_fullestBehind_12 ?_
  refine r_iload_n hc 1 dX8_fullestBehind_15 rfl ?_
  obtain ⟨q16, hq16, hf⟩ := o_bind hf
  refine r_callVBv (ws' := (kdo A :: (wH cy (sh A 10) hn ++ wD cy (sh A 50) q16))) (As := [.int x1]) (rest := []) hc (c_X0_run (sh A 50) q8 x1 q16 hq16) kv_X0_run mw_602 0 rfl rfl [[kdo A], wH cy (sh A 10) hn, wDo cy (sh A 50) q8, wH cy (sh (sh A 50) 5) (D_house q8)] [[kdo A], wH cy (sh A 10) hn] [wDo cy (sh A 50) q8, wH cy (sh (sh A 50) 5) (D_house q8)] [wDo cy (sh A 50) q16, wH cy (sh (sh A 50) 5) (D_house q16)] [[kdo A], wH cy (sh A 10) hn, wDo cy (sh A 50) q16, wH cy (sh (sh A 50) 5) (D_house q16)] [0, 1, 2, 3] [0, 1, 2, 3] ⟨(by simp only [wD_eq, List.flatten_cons, List.flatten_nil, List.append_nil, List.append_assoc, List.cons_append, List.nil_append]), (by simp only [wD_eq, List.flatten_cons, List.flatten_nil, List.append_nil, List.append_assoc, List.cons_append, List.nil_append]), (by simp only [wD_eq, List.flatten_cons, List.flatten_nil, List.append_nil, List.append_assoc, List.cons_append, List.nil_append]), (by simp only [wD_eq, List.flatten_cons, List.flatten_nil, List.append_nil, List.append_assoc, List.cons_append, List.nil_append]), rfl, (show List.Perm [0, 1, 2, 3] (List.range 4) from by decide), rfl, (show List.Perm [0, 1, 2, 3] (List.range 4) from by decide)⟩ rfl rfl (Nat.le_of_ble_eq_true rfl) ⟨by decide, by decide⟩ dX8_fullestBehind_16 ?_
  refine r_aload_n hc 0 dX8_fullestBehind_19 rfl ?_
  refine r_get (v := .ref ((sh A 50) 0)) hc iw_X8 0 rfl rfl 4 (by decide) mw_299 rfl dX8_fullestBehind_20 ?_
  obtain ⟨q23, hq23, hf⟩ := o_bind hf
  refine r_callVBi (ws' := (kdo A :: (wH cy (sh A 10) hn ++ wD cy (sh A 50) q16))) (As := []) (rest := []) hc (c_X0_fullest (sh A 50) q16 q23 hq23) kv_X0_fullest mw_642 0 rfl rfl [[kdo A], wH cy (sh A 10) hn, wDo cy (sh A 50) q16, wH cy (sh (sh A 50) 5) (D_house q16)] [[kdo A], wH cy (sh A 10) hn] [wDo cy (sh A 50) q16, wH cy (sh (sh A 50) 5) (D_house q16)] [wDo cy (sh A 50) q16, wH cy (sh (sh A 50) 5) (D_house q16)] [[kdo A], wH cy (sh A 10) hn, wDo cy (sh A 50) q16, wH cy (sh (sh A 50) 5) (D_house q16)] [0, 1, 2, 3] [0, 1, 2, 3] ⟨(by simp only [wD_eq, List.flatten_cons, List.flatten_nil, List.append_nil, List.append_assoc, List.cons_append, List.nil_append]), (by simp only [wD_eq, List.flatten_cons, List.flatten_nil, List.append_nil, List.append_assoc, List.cons_append, List.nil_append]), (by simp only [wD_eq, List.flatten_cons, List.flatten_nil, List.append_nil, List.append_assoc, List.cons_append, List.nil_append]), (by simp only [wD_eq, List.flatten_cons, List.flatten_nil, List.append_nil, List.append_assoc, List.cons_append, List.nil_append]), rfl, (show List.Perm [0, 1, 2, 3] (List.range 4) from by decide), rfl, (show List.Perm [0, 1, 2, 3] (List.range 4) from by decide)⟩ rfl rfl (Nat.le_of_ble_eq_true rfl) ⟨by decide, by decide⟩ dX8_fullestBehind_23 ?_
  exact r_iret hK (congrArg (fun z9 => z9.1) (Option.some.inj hf)) (congrArg (fun z9 => (kdo A :: (wH cy (sh A 10) hn ++ wD cy (sh A 50) z9.2))) (Option.some.inj hf)) dX8_fullestBehind_26
def f_X8_fullestCarrying (hn : HS) (dr : DS) (x1 : Int32) (x2 : Int32) (x3 : Int32) (x4 : Int32) : Option (Int32 × DS) :=
  ((f_X1_copy (D_house dr) hn).bind fun q11 => ((f_X1_carry q11 x1 x2 x3).bind fun q24 => ((f_X0_ready (D_set_house dr q24)).bind fun q31 => ((f_X0_run q31 x4).bind fun q40 => ((f_X0_fullest q40).bind fun q47 => (some (q47, q40)))))))
theorem kv_X8_fullestCarrying : KV RX8 yX8_fullestCarrying cX8_fullestCarrying 5 (some .int) 4 := ⟨mw_661, mw_8, mw_55, mw_662, by decide +kernel⟩
set_option maxHeartbeats 8000000 in
set_option maxRecDepth 100000 in
theorem c_X8_fullestCarrying {l : Launch} {E : va_G} {cy : Nat → ClassId} (A : Nat → Nat) (hn : HS) (dr : DS) (x1 : Int32) (x2 : Int32) (x3 : Int32) (x4 : Int32) (q : Int32 × DS) (hf : f_X8_fullestCarrying hn dr x1 x2 x3 x4 = some q) : Ci l yX8_fullestCarrying cX8_fullestCarrying 5 (some .int) 6 176 E cy [.ref (A 0), .int x1, .int x2, .int x3, .int x4] (kdo A :: (wH cy (sh A 10) hn ++ wD cy (sh A 50) dr)) q.1 (kdo A :: (wH cy (sh A 10) hn ++ wD cy (sh A 50) q.2)) := by
  refine Ci.of RX8 (by decide) rfl (Nat.le_of_ble_eq_true rfl) ?_
  intro K hK
  have hc := hK.cq
  show V K (kdo A :: (wH cy (sh A 10) hn ++ wD cy (sh A 50) dr)) 0 [(0, .ref (A 0)), (1, .int x1), (2, .int x2), (3, .int x3), (4, .int x4)] []
  unfold f_X8_fullestCarrying at hf
  refine r_aload_n hc 0 dX8_fullestCarrying_0 rfl ?_
  refine r_get (v := .ref ((sh A 50) 0)) hc iw_X8 0 rfl rfl 4 (by decide) mw_299 rfl dX8_fullestCarrying_1 ?_
  refine r_get (v := .ref ((sh (sh A 50) 5) 0)) hc iw_X0 11 rfl rfl 0 (by decide) mw_171 rfl dX8_fullestCarrying_4 ?_
  refine r_aload_n hc 0 dX8_fullestCarrying_7 rfl ?_
  refine r_get (v := .ref ((sh A 10) 0)) hc iw_X8 0 rfl rfl 0 (by decide) mw_295 rfl dX8_fullestCarrying_8 ?_
  obtain ⟨q11, hq11, hf⟩ := o_bind hf
  refine r_callVBv (ws' := (kdo A :: (wH cy (sh A 10) hn ++ wD cy (sh A 50) (D_set_house dr q11)))) (As := [.ref ((sh A 10) 0)]) (rest := []) hc (c_X1_copy (sh (sh A 50) 5) (sh A 10) (D_house dr) hn q11 hq11) kv_X1_copy mw_569 0 rfl rfl [[kdo A], wH cy (sh A 10) hn, wDo cy (sh A 50) dr, wH cy (sh (sh A 50) 5) (D_house dr)] [[kdo A], wDo cy (sh A 50) dr] [wH cy (sh (sh A 50) 5) (D_house dr), wH cy (sh A 10) hn] [wH cy (sh (sh A 50) 5) q11, wH cy (sh A 10) hn] [[kdo A], wH cy (sh A 10) hn, wDo cy (sh A 50) (D_set_house dr q11), wH cy (sh (sh A 50) 5) (D_house (D_set_house dr q11))] [0, 2, 3, 1] [0, 3, 1, 2] ⟨(by simp only [wD_eq, List.flatten_cons, List.flatten_nil, List.append_nil, List.append_assoc, List.cons_append, List.nil_append]), (by simp only [wD_eq, List.flatten_cons, List.flatten_nil, List.append_nil, List.append_assoc, List.cons_append, List.nil_append]), (by simp only [wD_eq, List.flatten_cons, List.flatten_nil, List.append_nil, List.append_assoc, List.cons_append, List.nil_append]), (by simp only [wD_eq, List.flatten_cons, List.flatten_nil, List.append_nil, List.append_assoc, List.cons_append, List.nil_append]), rfl, (show List.Perm [0, 2, 3, 1] (List.range 4) from by decide), rfl, (show List.Perm [0, 3, 1, 2] (List.range 4) from by decide)⟩ rfl rfl (Nat.le_of_ble_eq_true rfl) ⟨by decide, by decide⟩ dX8_fullestCarrying_11 ?_
  refine r_aload_n hc 0 dX8_fullestCarrying_14 rfl ?_
  refine r_get (v := .ref ((sh A 50) 0)) hc iw_X8 0 rfl rfl 4 (by decide) mw_299 rfl dX8_fullestCarrying_15 ?_
  refine r_get (v := .ref ((sh (sh A 50) 5) 0)) hc iw_X0 11 rfl rfl 0 (by decide) mw_171 rfl dX8_fullestCarrying_18 ?_
  refine r_iload_n hc 1 dX8_fullestCarrying_21 rfl ?_
  refine r_iload_n hc 2 dX8_fullestCarrying_22 rfl ?_
  refine r_iload_n hc 3 dX8_fullestCarrying_23 rfl ?_
  obtain ⟨q24, hq24, hf⟩ := o_bind hf
  refine r_callVBv (ws' := (kdo A :: (wH cy (sh A 10) hn ++ wD cy (sh A 50) (D_set_house dr q24)))) (As := [.int x1, .int x2, .int x3]) (rest := []) hc (c_X1_carry (sh (sh A 50) 5) q11 x1 x2 x3 q24 hq24) kv_X1_carry mw_663 0 rfl rfl [[kdo A], wH cy (sh A 10) hn, wDo cy (sh A 50) (D_set_house dr q11), wH cy (sh (sh A 50) 5) (D_house (D_set_house dr q11))] [[kdo A], wH cy (sh A 10) hn, wDo cy (sh A 50) (D_set_house dr q11)] [wH cy (sh (sh A 50) 5) q11] [wH cy (sh (sh A 50) 5) q24] [[kdo A], wH cy (sh A 10) hn, wDo cy (sh A 50) (D_set_house dr q24), wH cy (sh (sh A 50) 5) (D_house (D_set_house dr q24))] [0, 1, 2, 3] [0, 1, 2, 3] ⟨(by simp only [wD_eq, List.flatten_cons, List.flatten_nil, List.append_nil, List.append_assoc, List.cons_append, List.nil_append]), (by simp only [wD_eq, List.flatten_cons, List.flatten_nil, List.append_nil, List.append_assoc, List.cons_append, List.nil_append]), (by simp only [wD_eq, List.flatten_cons, List.flatten_nil, List.append_nil, List.append_assoc, List.cons_append, List.nil_append]), (by simp only [wD_eq, List.flatten_cons, List.flatten_nil, List.append_nil, List.append_assoc, List.cons_append, List.nil_append]), rfl, (show List.Perm [0, 1, 2, 3] (List.range 4) from by decide), rfl, (show List.Perm [0, 1, 2, 3] (List.range 4) from by decide)⟩ rfl rfl (Nat.le_of_ble_eq_true rfl) ⟨by decide, by decide⟩ dX8_fullestCarrying_24 ?_
  refine r_aload_n hc 0 dX8_fullestCarrying_27 rfl ?_
  refine r_get (v := .ref ((sh A 50) 0)) hc iw_X8 0 rfl rfl 4 (by decide) mw_299 rfl dX8_fullestCarrying_28 ?_
  obtain ⟨q31, hq31, hf⟩ := o_bind hf
  refine r_callVBv (ws' := (kdo A :: (wH cy (sh A 10) hn ++ wD cy (sh A 50) q31))) (As := []) (rest := []) hc (c_X0_ready (sh A 50) (D_set_house dr q24) q31 hq31) kv_X0_ready mw_664 0 rfl rfl [[kdo A], wH cy (sh A 10) hn, wDo cy (sh A 50) (D_set_house dr q24), wH cy (sh (sh A 50) 5) (D_house (D_set_house dr q24))] [[kdo A], wH cy (sh A 10) hn] [wDo cy (sh A 50) (D_set_house dr q24), wH cy (sh (sh A 50) 5) (D_house (D_set_house dr q24))] [wDo cy (sh A 50) q31, wH cy (sh (sh A 50) 5) (D_house q31)] [[kdo A], wH cy (sh A 10) hn, wDo cy (sh A 50) q31, wH cy (sh (sh A 50) 5) (D_house q31)] [0, 1, 2, 3] [0, 1, 2, 3] ⟨(by simp only [wD_eq, List.flatten_cons, List.flatten_nil, List.append_nil, List.append_assoc, List.cons_append, List.nil_append]), (by simp only [wD_eq, List.flatten_cons, List.flatten_nil, List.append_nil, List.append_assoc, List.cons_append, List.nil_append]), (by simp only [wD_eq, List.flatten_cons, List.flatten_nil, List.append_nil, List.append_assoc, List.cons_append, List.nil_append]), (by simp only [wD_eq, List.flatten_cons, List.flatten_nil, List.append_nil, List.append_assoc, List.cons_append, List.nil_append]), rfl, (show List.Perm [0, 1, 2, 3] (List.range 4) from by decide), rfl, (show List.Perm [0, 1, 2, 3] (List.range 4) from by decide)⟩ rfl rfl (Nat.le_of_ble_eq_true rfl) ⟨by decide, by decide⟩ dX8_fullestCarrying_31 ?_
  refine r_aload_n hc 0 dX8_fullestCarrying_34 rfl ?_
  refine r_get (v := .ref ((sh A 50) 0)) hc iw_X8 0 rfl rfl 4 (by decide) mw_299 rfl dX8_fullestCarrying_35 ?_
  refine r_iload hc 4 dX8_fullestCarrying_38 rfl ?_
  obtain ⟨q40, hq40, hf⟩ := o_bind hf
  refine r_callVBv (ws' := (kdo A :: (wH cy (sh A 10) hn ++ wD cy (sh A 50) q40))) (As := [.int x4]) (rest := []) hc (c_X0_run (sh A 50) q31 x4 q40 hq40) kv_X0_run mw_602 0 rfl rfl [[kdo A], wH cy (sh A 10) hn, wDo cy (sh A 50) q31, wH cy (sh (sh A 50) 5) (D_house q31)] [[kdo A], wH cy (sh A 10) hn] [wDo cy (sh A 50) q31, wH cy (sh (sh A 50) 5) (D_house q31)] [wDo cy (sh A 50) q40, wH cy (sh (sh A 50) 5) (D_house q40)] [[kdo A], wH cy (sh A 10) hn, wDo cy (sh A 50) q40, wH cy (sh (sh A 50) 5) (D_house q40)] [0, 1, 2, 3] [0, 1, 2, 3] ⟨(by simp only [wD_eq, List.flatten_cons, List.flatten_nil, List.append_nil, List.append_assoc, List.cons_append, List.nil_append]), (by simp only [wD_eq, List.flatten_cons, List.flatten_nil, List.append_nil, List.append_assoc, List.cons_append, List.nil_append]), (by simp only [wD_eq, List.flatten_cons, List.flatten_nil, List.append_nil, List.append_assoc, List.cons_append, List.nil_append]), (by simp only [wD_eq, List.flatten_cons, List.flatten_nil, List.append_nil, List.append_assoc, List.cons_append, List.nil_append]), rfl, (show List.Perm [0, 1, 2, 3] (List.range 4) from by decide), rfl, (show List.Perm [0, 1, 2, 3] (List.range 4) from by decide)⟩ rfl rfl (Nat.le_of_ble_eq_true rfl) ⟨by decide, by decide⟩ dX8_fullestCarrying_40 ?_
  refine r_aload_n hc 0 dX8_fullestCarrying_43 rfl ?_
  refine r_get (v := .ref ((sh A 50) 0)) hc iw_X8 0 rfl rfl 4 (by decide) mw_299 rfl dX8_fullestCarrying_44 ?_
  obtain ⟨q47, hq47, hf⟩ := o_bind hf
  refine r_callVBi (ws' := (kdo A :: (wH cy (sh A 10) hn ++ wD cy (sh A 50) q40))) (As := []) (rest := []) hc (c_X0_fullest (sh A 50) q40 q47 hq47) kv_X0_fullest mw_642 0 rfl rfl [[kdo A], wH cy (sh A 10) hn, wDo cy (sh A 50) q40, wH cy (sh (sh A 50) 5) (D_house q40)] [[kdo A], wH cy (sh A 10) hn] [wDo cy (sh A 50) q40, wH cy (sh (sh A 50) 5) (D_house q40)] [wDo cy (sh A 50) q40, wH cy (sh (sh A 50) 5) (D_house q40)] [[kdo A], wH cy (sh A 10) hn, wDo cy (sh A 50) q40, wH cy (sh (sh A 50) 5) (D_house q40)] [0, 1, 2, 3] [0, 1, 2, 3] ⟨(by simp only [wD_eq, List.flatten_cons, List.flatten_nil, List.append_nil, List.append_assoc, List.cons_append, List.nil_append]), (by simp only [wD_eq, List.flatten_cons, List.flatten_nil, List.append_nil, List.append_assoc, List.cons_append, List.nil_append]), (by simp only [wD_eq, List.flatten_cons, List.flatten_nil, List.append_nil, List.append_assoc, List.cons_append, List.nil_append]), (by simp only [wD_eq, List.flatten_cons, List.flatten_nil, List.append_nil, List.append_assoc, List.cons_append, List.nil_append]), rfl, (show List.Perm [0, 1, 2, 3] (List.range 4) from by decide), rfl, (show List.Perm [0, 1, 2, 3] (List.range 4) from by decide)⟩ rfl rfl (Nat.le_of_ble_eq_true rfl) ⟨by decide, by decide⟩ dX8_fullestCarrying_47 ?_
  exact r_iret hK (congrArg (fun z9 => z9.1) (Option.some.inj hf)) (congrArg (fun z9 => (kdo A :: (wH cy (sh A 10) hn ++ wD cy (sh A 50) z9.2))) (Option.some.inj hf)) dX8_fullestCarrying_50
def f_X8_fullestUnhinged (hn : HS) (dr : DS) (x1 : Int32) (x2 : Int32) (x3 : Int32) : Option (Int32 × DS) :=
  ((f_X0_begin dr hn).bind fun q8 => ((f_X0_unhinge q8 x1 x2).bind fun q17 => ((f_X0_run q17 x3).bind fun q25 => ((f_X0_fullest q25).bind fun q32 => (some (q32, q25))))))
theorem kv_X8_fullestUnhinged : KV RX8 yX8_fullestUnhinged cX8_fullestUnhinged 4 (some .int) 3 := ⟨mw_671, mw_9, mw_55, mw_672, by decide +kernel⟩
set_option maxHeartbeats 8000000 in
set_option maxRecDepth 100000 in
theorem c_X8_fullestUnhinged {l : Launch} {E : va_G} {cy : Nat → ClassId} (A : Nat → Nat) (hn : HS) (dr : DS) (x1 : Int32) (x2 : Int32) (x3 : Int32) (q : Int32 × DS) (hf : f_X8_fullestUnhinged hn dr x1 x2 x3 = some q) : Ci l yX8_fullestUnhinged cX8_fullestUnhinged 4 (some .int) 6 176 E cy [.ref (A 0), .int x1, .int x2, .int x3] (kdo A :: (wH cy (sh A 10) hn ++ wD cy (sh A 50) dr)) q.1 (kdo A :: (wH cy (sh A 10) hn ++ wD cy (sh A 50) q.2)) := by
  refine Ci.of RX8 (by decide) rfl (Nat.le_of_ble_eq_true rfl) ?_
  intro K hK
  have hc := hK.cq
  show V K (kdo A :: (wH cy (sh A 10) hn ++ wD cy (sh A 50) dr)) 0 [(0, .ref (A 0)), (1, .int x1), (2, .int x2), (3, .int x3)] []
  unfold f_X8_fullestUnhinged at hf
  refine r_aload_n hc 0 dX8_fullestUnhinged_0 rfl ?_
  refine r_get (v := .ref ((sh A 50) 0)) hc iw_X8 0 rfl rfl 4 (by decide) mw_299 rfl dX8_fullestUnhinged_1 ?_
  refine r_aload_n hc 0 dX8_fullestUnhinged_4 rfl ?_
  refine r_get (v := .ref ((sh A 10) 0)) hc iw_X8 0 rfl rfl 0 (by decide) mw_295 rfl dX8_fullestUnhinged_5 ?_
  obtain ⟨q8, hq8, hf⟩ := o_bind hf
  refine r_callVBv (ws' := (kdo A :: (wH cy (sh A 10) hn ++ wD cy (sh A 50) q8))) (As := [.ref ((sh A 10) 0)]) (rest := []) hc (c_X0_begin (sh A 50) (sh A 10) dr hn q8 hq8) kv_X0_begin mw_596 0 rfl rfl [[kdo A], wH cy (sh A 10) hn, wDo cy (sh A 50) dr, wH cy (sh (sh A 50) 5) (D_house dr)] [[kdo A]] [wDo cy (sh A 50) dr, wH cy (sh (sh A 50) 5) (D_house dr), wH cy (sh A 10) hn] [wDo cy (sh A 50) q8, wH cy (sh (sh A 50) 5) (D_house q8), wH cy (sh A 10) hn] [[kdo A], wH cy (sh A 10) hn, wDo cy (sh A 50) q8, wH cy (sh (sh A 50) 5) (D_house q8)] [0, 2, 3, 1] [0, 3, 1, 2] ⟨(by simp only [wD_eq, List.flatten_cons, List.flatten_nil, List.append_nil, List.append_assoc, List.cons_append, List.nil_append]), (by simp only [wD_eq, List.flatten_cons, List.flatten_nil, List.append_nil, List.append_assoc, List.cons_append, List.nil_append]), (by simp only [wD_eq, List.flatten_cons, List.flatten_nil, List.append_nil, List.append_assoc, List.cons_append, List.nil_append]), (by simp only [wD_eq, List.flatten_cons, List.flatten_nil, List.append_nil, List.append_assoc, List.cons_append, List.nil_append]), rfl, (show List.Perm [0, 2, 3, 1] (List.range 4) from by decide), rfl, (show List.Perm [0, 3, 1, 2] (List.range 4) from by decide)⟩ rfl rfl (Nat.le_of_ble_eq_true rfl) ⟨by decide, by decide⟩ dX8_fullestUnhinged_8 ?_
  refine r_aload_n hc 0 dX8_fullestUnhinged_11 rfl ?_
  refine r_get (v := .ref ((sh A 50) 0)) hc iw_X8 0 rfl rfl 4 (by decide) mw_299 rfl dX8_fullestUnhinged_12 ?_
  refine r_iload_n hc 1 dX8_fullestUnhinged_15 rfl ?_
  refine r_iload_n hc 2 dX8_fullestUnhinged_16 rfl ?_
  obtain ⟨q17, hq17, hf⟩ := o_bind hf
  refine r_callVBv (ws' := (kdo A :: (wH cy (sh A 10) hn ++ wD cy (sh A 50) q17))) (As := [.int x1, .int x2]) (rest := []) hc (c_X0_unhinge (sh A 50) q8 x1 x2 q17 hq17) kv_X0_unhinge mw_673 0 rfl rfl [[kdo A], wH cy (sh A 10) hn, wDo cy (sh A 50) q8, wH cy (sh (sh A 50) 5) (D_house q8)] [[kdo A], wH cy (sh A 10) hn] [wDo cy (sh A 50) q8, wH cy (sh (sh A 50) 5) (D_house q8)] [wDo cy (sh A 50) q17, wH cy (sh (sh A 50) 5) (D_house q17)] [[kdo A], wH cy (sh A 10) hn, wDo cy (sh A 50) q17, wH cy (sh (sh A 50) 5) (D_house q17)] [0, 1, 2, 3] [0, 1, 2, 3] ⟨(by simp only [wD_eq, List.flatten_cons, List.flatten_nil, List.append_nil, List.append_assoc, List.cons_append, List.nil_append]), (by simp only [wD_eq, List.flatten_cons, List.flatten_nil, List.append_nil, List.append_assoc, List.cons_append, List.nil_append]), (by simp only [wD_eq, List.flatten_cons, List.flatten_nil, List.append_nil, List.append_assoc, List.cons_append, List.nil_append]), (by simp only [wD_eq, List.flatten_cons, List.flatten_nil, List.append_nil, List.append_assoc, List.cons_append, List.nil_append]), rfl, (show List.Perm [0, 1, 2, 3] (List.range 4) from by decide), rfl, (show List.Perm [0, 1, 2, 3] (List.range 4) from by decide)⟩ rfl rfl (Nat.le_of_ble_eq_true rfl) ⟨by decide, by decide⟩ dX8_fullestUnhinged_17 ?_
  refine r_aload_n hc 0 dX8_fullestUnhinged_20 rfl ?_
  refine r_get (v := .ref ((sh A 50) 0)) hc iw_X8 0 rfl rfl 4 (by decide) mw_299 rfl dX8_fullestUnhinged_21 ?_
  refine r_iload_n hc 3 dX8_fullestUnhinged_24 rfl ?_
  obtain ⟨q25, hq25, hf⟩ := o_bind hf
  refine r_callVBv (ws' := (kdo A :: (wH cy (sh A 10) hn ++ wD cy (sh A 50) q25))) (As := [.int x3]) (rest := []) hc (c_X0_run (sh A 50) q17 x3 q25 hq25) kv_X0_run mw_602 0 rfl rfl [[kdo A], wH cy (sh A 10) hn, wDo cy (sh A 50) q17, wH cy (sh (sh A 50) 5) (D_house q17)] [[kdo A], wH cy (sh A 10) hn] [wDo cy (sh A 50) q17, wH cy (sh (sh A 50) 5) (D_house q17)] [wDo cy (sh A 50) q25, wH cy (sh (sh A 50) 5) (D_house q25)] [[kdo A], wH cy (sh A 10) hn, wDo cy (sh A 50) q25, wH cy (sh (sh A 50) 5) (D_house q25)] [0, 1, 2, 3] [0, 1, 2, 3] ⟨(by simp only [wD_eq, List.flatten_cons, List.flatten_nil, List.append_nil, List.append_assoc, List.cons_append, List.nil_append]), (by simp only [wD_eq, List.flatten_cons, List.flatten_nil, List.append_nil, List.append_assoc, List.cons_append, List.nil_append]), (by simp only [wD_eq, List.flatten_cons, List.flatten_nil, List.append_nil, List.append_assoc, List.cons_append, List.nil_append]), (by simp only [wD_eq, List.flatten_cons, List.flatten_nil, List.append_nil, List.append_assoc, List.cons_append, List.nil_append]), rfl, (show List.Perm [0, 1, 2, 3] (List.range 4) from by decide), rfl, (show List.Perm [0, 1, 2, 3] (List.range 4) from by decide)⟩ rfl rfl (Nat.le_of_ble_eq_true rfl) ⟨by decide, by decide⟩ dX8_fullestUnhinged_25 ?_
  refine r_aload_n hc 0 dX8_fullestUnhinged_28 rfl ?_
  refine r_get (v := .ref ((sh A 50) 0)) hc iw_X8 0 rfl rfl 4 (by decide) mw_299 rfl dX8_fullestUnhinged_29 ?_
  obtain ⟨q32, hq32, hf⟩ := o_bind hf
  refine r_callVBi (ws' := (kdo A :: (wH cy (sh A 10) hn ++ wD cy (sh A 50) q25))) (As := []) (rest := []) hc (c_X0_fullest (sh A 50) q25 q32 hq32) kv_X0_fullest mw_642 0 rfl rfl [[kdo A], wH cy (sh A 10) hn, wDo cy (sh A 50) q25, wH cy (sh (sh A 50) 5) (D_house q25)] [[kdo A], wH cy (sh A 10) hn] [wDo cy (sh A 50) q25, wH cy (sh (sh A 50) 5) (D_house q25)] [wDo cy (sh A 50) q25, wH cy (sh (sh A 50) 5) (D_house q25)] [[kdo A], wH cy (sh A 10) hn, wDo cy (sh A 50) q25, wH cy (sh (sh A 50) 5) (D_house q25)] [0, 1, 2, 3] [0, 1, 2, 3] ⟨(by simp only [wD_eq, List.flatten_cons, List.flatten_nil, List.append_nil, List.append_assoc, List.cons_append, List.nil_append]), (by simp only [wD_eq, List.flatten_cons, List.flatten_nil, List.append_nil, List.append_assoc, List.cons_append, List.nil_append]), (by simp only [wD_eq, List.flatten_cons, List.flatten_nil, List.append_nil, List.append_assoc, List.cons_append, List.nil_append]), (by simp only [wD_eq, List.flatten_cons, List.flatten_nil, List.append_nil, List.append_assoc, List.cons_append, List.nil_append]), rfl, (show List.Perm [0, 1, 2, 3] (List.range 4) from by decide), rfl, (show List.Perm [0, 1, 2, 3] (List.range 4) from by decide)⟩ rfl rfl (Nat.le_of_ble_eq_true rfl) ⟨by decide, by decide⟩ dX8_fullestUnhinged_32 ?_
  exact r_iret hK (congrArg (fun z9 => z9.1) (Option.some.inj hf)) (congrArg (fun z9 => (kdo A :: (wH cy (sh A 10) hn ++ wD cy (sh A 50) z9.2))) (Option.some.inj hf)) dX8_fullestUnhinged_35
def X8_carried_J160 (k34 : HS → DS → Int32 → Int32 → Int32 → Int32 → Int32 → Option (Int32 × DS)) (hn : HS) (dr : DS) (x1 : Int32) (x2 : Int32) (x3 : Int32) (x4 : Int32) (x5 : Int32) : Option (Int32 × DS) :=
  (k34 hn dr x1 x2 x3 x4 (x5 + (1 : Int32)))
def X8_carried_J131 (k34 : HS → DS → Int32 → Int32 → Int32 → Int32 → Int32 → Option (Int32 × DS)) (hn : HS) (dr : DS) (x1 : Int32) (x2 : Int32) (x3 : Int32) (x4 : Int32) (x5 : Int32) (x6 : Int32) (x7 : Int32) (x8 : Int32) (s0 : Int32) : Option (Int32 × DS) :=
  (if x3 ≤ s0 then (X8_carried_J160 k34 hn dr x1 x2 x3 x4 x5) else (X8_carried_J160 k34 hn dr x1 x2 s0 ((((100 : Int32) * (x6 + (1 : Int32))) + ((10 : Int32) * x7)) + x8) x5))
def X8_carried_J109 (k34 : HS → DS → Int32 → Int32 → Int32 → Int32 → Int32 → Option (Int32 × DS)) (hn : HS) (dr : DS) (x1 : Int32) (x2 : Int32) (x3 : Int32) (x4 : Int32) (x5 : Int32) (x6 : Int32) (x7 : Int32) (x8 : Int32) (s0 : Int32) : Option (Int32 × DS) :=
  (if s0 = 0 then (X8_carried_J131 k34 hn dr x1 x2 x3 x4 x5 x6 x7 x8 x3) else ((f_X8_fullestCarrying hn dr x6 x7 x8 x1).bind fun q124 => (X8_carried_J131 k34 hn q124.2 x1 x2 x3 x4 x5 x6 x7 x8 q124.1)))
def X8_carried_J108 (k34 : HS → DS → Int32 → Int32 → Int32 → Int32 → Int32 → Option (Int32 × DS)) (hn : HS) (dr : DS) (x1 : Int32) (x2 : Int32) (x3 : Int32) (x4 : Int32) (x5 : Int32) (x6 : Int32) (x7 : Int32) (x8 : Int32) : Option (Int32 × DS) :=
  (X8_carried_J109 k34 hn dr x1 x2 x3 x4 x5 x6 x7 x8 (0 : Int32))
def X8_carried_B34 (k34 : HS → DS → Int32 → Int32 → Int32 → Int32 → Int32 → Option (Int32 × DS)) (hn : HS) (dr : DS) (x1 : Int32) (x2 : Int32) (x3 : Int32) (x4 : Int32) (x5 : Int32) : Option (Int32 × DS) :=
  (if (144 : Int32) ≤ x5 then (if x2 = 0 then (some (x3, dr)) else (some (x4, dr))) else ((f_X1_isRoom hn (x5 / (24 : Int32))).bind fun q70 => (if q70 = 0 then (X8_carried_J108 k34 hn dr x1 x2 x3 x4 x5 (x5 / (24 : Int32)) ((x5 / (4 : Int32)) - (x5 / (4 : Int32)) / (6 : Int32) * (6 : Int32)) (x5 - x5 / (4 : Int32) * (4 : Int32))) else ((f_X1_isRoom hn ((x5 / (4 : Int32)) - (x5 / (4 : Int32)) / (6 : Int32) * (6 : Int32))).bind fun q82 => (if q82 = 0 then (X8_carried_J108 k34 hn dr x1 x2 x3 x4 x5 (x5 / (24 : Int32)) ((x5 / (4 : Int32)) - (x5 / (4 : Int32)) / (6 : Int32) * (6 : Int32)) (x5 - x5 / (4 : Int32) * (4 : Int32))) else ((f_X1_whyNotCarry hn (x5 / (24 : Int32)) ((x5 / (4 : Int32)) - (x5 / (4 : Int32)) / (6 : Int32) * (6 : Int32)) (x5 - x5 / (4 : Int32) * (4 : Int32))).bind fun q98 => (if q98 = 0 then (X8_carried_J109 k34 hn dr x1 x2 x3 x4 x5 (x5 / (24 : Int32)) ((x5 / (4 : Int32)) - (x5 / (4 : Int32)) / (6 : Int32) * (6 : Int32)) (x5 - x5 / (4 : Int32) * (4 : Int32)) (1 : Int32)) else (X8_carried_J108 k34 hn dr x1 x2 x3 x4 x5 (x5 / (24 : Int32)) ((x5 / (4 : Int32)) - (x5 / (4 : Int32)) / (6 : Int32) * (6 : Int32)) (x5 - x5 / (4 : Int32) * (4 : Int32))))))))))
def f_X8_carried (hn : HS) (dr : DS) (x1 : Int32) (x2 : Int32) : Option (Int32 × DS) :=
  (if x1 < 0 then (some ((-2 : Int32), dr)) else (if (20 : Int32) < x1 then (some ((-2 : Int32), dr)) else (if x2 < 0 then (some ((-2 : Int32), dr)) else (if x2 ≤ (1 : Int32) then ((f_X8_fullestBehind hn dr x1).bind fun q24 => (it X8_carried_B34 (fun _ _ _ _ _ _ _ => none) FU hn q24.2 x1 x2 q24.1 (0 : Int32) (0 : Int32))) else (some ((-2 : Int32), dr))))))
theorem kv_X8_carried : KV RX8 yX8_carried cX8_carried 11 (some .int) 2 := ⟨mw_651, mw_652, mw_55, mw_653, by decide +kernel⟩
set_option maxHeartbeats 8000000 in
set_option maxRecDepth 100000 in
theorem c_X8_carried {l : Launch} {E : va_G} {cy : Nat → ClassId} (A : Nat → Nat) (hn : HS) (dr : DS) (x1 : Int32) (x2 : Int32) (q : Int32 × DS) (hf : f_X8_carried hn dr x1 x2 = some q) : Ci l yX8_carried cX8_carried 11 (some .int) 7 200 E cy [.ref (A 0), .int x1, .int x2] (kdo A :: (wH cy (sh A 10) hn ++ wD cy (sh A 50) dr)) q.1 (kdo A :: (wH cy (sh A 10) hn ++ wD cy (sh A 50) q.2)) := by
  refine Ci.of RX8 (by decide) rfl (Nat.le_of_ble_eq_true rfl) ?_
  intro K hK
  have hc := hK.cq
  have L34 : ∀ (n34 : Nat) (dr : DS) (x1 : Int32) (x2 : Int32) (x3 : Int32) (x4 : Int32) (x5 : Int32), it X8_carried_B34 (fun _ _ _ _ _ _ _ => none) n34 hn dr x1 x2 x3 x4 x5 = some q → V K (kdo A :: (wH cy (sh A 10) hn ++ wD cy (sh A 50) dr)) 34 [(0, .ref (A 0)), (1, .int x1), (2, .int x2), (3, .int x3), (4, .int x4), (5, .int x5)] [] := by
    intro n34
    induction n34 with
    | zero => intro dr x1 x2 x3 x4 x5 hf; exact (o_none hf).elim
    | succ n34 ih34 =>
      have J160 : ∀ (dr : DS) (x1 : Int32) (x2 : Int32) (x3 : Int32) (x4 : Int32) (x5 : Int32), X8_carried_J160 (it X8_carried_B34 (fun _ _ _ _ _ _ _ => none) n34) hn dr x1 x2 x3 x4 x5 = some q → V K (kdo A :: (wH cy (sh A 10) hn ++ wD cy (sh A 50) dr)) 160 [(0, .ref (A 0)), (1, .int x1), (2, .int x2), (3, .int x3), (4, .int x4), (5, .int x5)] [] := by
        intro dr x1 x2 x3 x4 x5 hf
        unfold X8_carried_J160 at hf
        refine r_iinc hc 5 [(5, .int (x5 + (1 : Int32))), (0, .ref (A 0)), (1, .int x1), (2, .int x2), (3, .int x3), (4, .int x4)] (x5 + (1 : Int32)) dX8_carried_160 rfl rfl (by decide) rfl ?_
        refine r_goto hc 34 dX8_carried_163 (by decide) ?_
        exact V.sub [1, 2, 3, 4, 5, 0] rfl (ih34 dr x1 x2 x3 x4 (x5 + (1 : Int32)) hf)
      have J131 : ∀ (dr : DS) (x1 : Int32) (x2 : Int32) (x3 : Int32) (x4 : Int32) (x5 : Int32) (x6 : Int32) (x7 : Int32) (x8 : Int32) (s0 : Int32), X8_carried_J131 (it X8_carried_B34 (fun _ _ _ _ _ _ _ => none) n34) hn dr x1 x2 x3 x4 x5 x6 x7 x8 s0 = some q → V K (kdo A :: (wH cy (sh A 10) hn ++ wD cy (sh A 50) dr)) 131 [(0, .ref (A 0)), (1, .int x1), (2, .int x2), (3, .int x3), (4, .int x4), (5, .int x5), (6, .int x6), (7, .int x7), (8, .int x8)] [.int s0] := by
        intro dr x1 x2 x3 x4 x5 x6 x7 x8 s0 hf
        unfold X8_carried_J131 at hf
        refine r_istore hc [(10, .int s0), (0, .ref (A 0)), (1, .int x1), (2, .int x2), (3, .int x3), (4, .int x4), (5, .int x5), (6, .int x6), (7, .int x7), (8, .int x8)] dX8_carried_131 (by decide) rfl ?_
        refine r_iload hc 0 dX8_carried_133 rfl ?_
        refine r_iload_n hc 4 dX8_carried_135 rfl ?_
        refine r_icmp_ge hc 160 dX8_carried_136 (by decide) (fun c_11 => ?_) (fun c_11 => ?_)
        · have hf := o_pos c_11 hf
          exact V.sub [1, 2, 3, 4, 5, 6] rfl (J160 dr x1 x2 x3 x4 x5 hf)
        · have hf := o_neg c_11 hf
          refine r_iload hc 0 dX8_carried_139 rfl ?_
          refine r_istore_n hc [(3, .int s0), (10, .int s0), (0, .ref (A 0)), (1, .int x1), (2, .int x2), (4, .int x4), (5, .int x5), (6, .int x6), (7, .int x7), (8, .int x8)] dX8_carried_141 (by decide) rfl ?_
          refine r_bipush hc (100 : Int32) dX8_carried_142 rfl ?_
          refine r_iload hc 7 dX8_carried_144 rfl ?_
          refine r_iconst hc (1 : Int32) dX8_carried_146 rfl ?_
          refine r_iadd hc dX8_carried_147 ?_
          refine r_imul hc dX8_carried_148 ?_
          refine r_bipush hc (10 : Int32) dX8_carried_149 rfl ?_
          refine r_iload hc 8 dX8_carried_151 rfl ?_
          refine r_imul hc dX8_carried_153 ?_
          refine r_iadd hc dX8_carried_154 ?_
          refine r_iload hc 9 dX8_carried_155 rfl ?_
          refine r_iadd hc dX8_carried_157 ?_
          refine r_istore hc [(4, .int ((((100 : Int32) * (x6 + (1 : Int32))) + ((10 : Int32) * x7)) + x8)), (3, .int s0), (10, .int s0), (0, .ref (A 0)), (1, .int x1), (2, .int x2), (5, .int x5), (6, .int x6), (7, .int x7), (8, .int x8)] dX8_carried_158 (by decide) rfl ?_
          exact V.sub [3, 4, 5, 1, 0, 6] rfl (J160 dr x1 x2 s0 ((((100 : Int32) * (x6 + (1 : Int32))) + ((10 : Int32) * x7)) + x8) x5 hf)
      have J109 : ∀ (dr : DS) (x1 : Int32) (x2 : Int32) (x3 : Int32) (x4 : Int32) (x5 : Int32) (x6 : Int32) (x7 : Int32) (x8 : Int32) (s0 : Int32), X8_carried_J109 (it X8_carried_B34 (fun _ _ _ _ _ _ _ => none) n34) hn dr x1 x2 x3 x4 x5 x6 x7 x8 s0 = some q → V K (kdo A :: (wH cy (sh A 10) hn ++ wD cy (sh A 50) dr)) 109 [(0, .ref (A 0)), (1, .int x1), (2, .int x2), (3, .int x3), (4, .int x4), (5, .int x5), (6, .int x6), (7, .int x7), (8, .int x8)] [.int s0] := by
        intro dr x1 x2 x3 x4 x5 x6 x7 x8 s0 hf
        unfold X8_carried_J109 at hf
        refine r_istore hc [(9, .int s0), (0, .ref (A 0)), (1, .int x1), (2, .int x2), (3, .int x3), (4, .int x4), (5, .int x5), (6, .int x6), (7, .int x7), (8, .int x8)] dX8_carried_109 (by decide) rfl ?_
        refine r_iload hc 0 dX8_carried_111 rfl ?_
        refine r_if_eq hc 130 dX8_carried_113 (by decide) (fun c_10 => ?_) (fun c_10 => ?_)
        · have hf := o_pos c_10 hf
          refine r_iload_n hc 4 dX8_carried_130 rfl ?_
          exact V.sub [1, 2, 3, 4, 5, 6, 7, 8, 9] rfl (J131 dr x1 x2 x3 x4 x5 x6 x7 x8 x3 hf)
        · have hf := o_neg c_10 hf
          refine r_aload_n hc 1 dX8_carried_116 rfl ?_
          refine r_iload hc 7 dX8_carried_117 rfl ?_
          refine r_iload hc 8 dX8_carried_119 rfl ?_
          refine r_iload hc 9 dX8_carried_121 rfl ?_
          refine r_iload_n hc 2 dX8_carried_123 rfl ?_
          obtain ⟨q124, hq124, hf⟩ := o_bind hf
          refine r_callVi (ws' := (kdo A :: (wH cy (sh A 10) hn ++ wD cy (sh A 50) q124.2))) (As := [.int x6, .int x7, .int x8, .int x1]) (rest := []) hc (c_X8_fullestCarrying A hn dr x6 x7 x8 x1 q124 hq124) kv_X8_fullestCarrying mw_659 0 rfl rfl _ _ _ (Sp_all _ _) rfl rfl (Nat.le_of_ble_eq_true rfl) ⟨by decide, by decide⟩ dX8_carried_124 ?_
          refine r_goto hc 131 dX8_carried_127 (by decide) ?_
          exact V.sub [1, 2, 3, 4, 5, 6, 7, 8, 9] rfl (J131 q124.2 x1 x2 x3 x4 x5 x6 x7 x8 q124.1 hf)
      have J108 : ∀ (dr : DS) (x1 : Int32) (x2 : Int32) (x3 : Int32) (x4 : Int32) (x5 : Int32) (x6 : Int32) (x7 : Int32) (x8 : Int32), X8_carried_J108 (it X8_carried_B34 (fun _ _ _ _ _ _ _ => none) n34) hn dr x1 x2 x3 x4 x5 x6 x7 x8 = some q → V K (kdo A :: (wH cy (sh A 10) hn ++ wD cy (sh A 50) dr)) 108 [(0, .ref (A 0)), (1, .int x1), (2, .int x2), (3, .int x3), (4, .int x4), (5, .int x5), (6, .int x6), (7, .int x7), (8, .int x8)] [] := by
        intro dr x1 x2 x3 x4 x5 x6 x7 x8 hf
        unfold X8_carried_J108 at hf
        refine r_iconst hc (0 : Int32) dX8_carried_108 rfl ?_
        exact V.sub [0, 1, 2, 3, 4, 5, 6, 7, 8] rfl (J109 dr x1 x2 x3 x4 x5 x6 x7 x8 (0 : Int32) hf)
      intro dr x1 x2 x3 x4 x5 hf
      replace hf : X8_carried_B34 (it X8_carried_B34 (fun _ _ _ _ _ _ _ => none) n34) hn dr x1 x2 x3 x4 x5 = some q := hf
      unfold X8_carried_B34 at hf
      refine r_iload hc 5 dX8_carried_34 rfl ?_
      refine r_sipush hc (144 : Int32) dX8_carried_36 rfl ?_
      refine r_icmp_ge hc 166 dX8_carried_39 (by decide) (fun c_5 => ?_) (fun c_5 => ?_)
      · have hf := o_pos c_5 hf
        refine r_iload_n hc 2 dX8_carried_166 rfl ?_
        refine r_if_ne hc 174 dX8_carried_167 (by decide) (fun c_6 => ?_) (fun c_6 => ?_)
        · have hf := o_neg c_6 hf
          refine r_iload hc 4 dX8_carried_174 rfl ?_
          exact r_iret hK (congrArg (fun z9 => z9.1) (Option.some.inj hf)) (congrArg (fun z9 => (kdo A :: (wH cy (sh A 10) hn ++ wD cy (sh A 50) z9.2))) (Option.some.inj hf)) dX8_carried_176
        · have hf := o_pos c_6 hf
          refine r_iload_n hc 3 dX8_carried_170 rfl ?_
          refine r_goto hc 176 dX8_carried_171 (by decide) ?_
          exact r_iret hK (congrArg (fun z9 => z9.1) (Option.some.inj hf)) (congrArg (fun z9 => (kdo A :: (wH cy (sh A 10) hn ++ wD cy (sh A 50) z9.2))) (Option.some.inj hf)) dX8_carried_176
      · have hf := o_neg c_5 hf
        refine r_iload hc 5 dX8_carried_42 rfl ?_
        refine r_bipush hc (24 : Int32) dX8_carried_44 rfl ?_
        refine r_idiv hc dX8_carried_46 (by decide) ?_
        refine r_istore hc [(6, .int (x5 / (24 : Int32))), (0, .ref (A 0)), (1, .int x1), (2, .int x2), (3, .int x3), (4, .int x4), (5, .int x5)] dX8_carried_47 (by decide) rfl ?_
        refine r_iload hc 6 dX8_carried_49 rfl ?_
        refine r_iconst hc (4 : Int32) dX8_carried_51 rfl ?_
        refine r_idiv hc dX8_carried_52 (by decide) ?_
        refine r_bipush hc (6 : Int32) dX8_carried_53 rfl ?_
        refine r_irem hc dX8_carried_55 (by decide) ?_
        refine r_istore hc [(7, .int ((x5 / (4 : Int32)) - (x5 / (4 : Int32)) / (6 : Int32) * (6 : Int32))), (6, .int (x5 / (24 : Int32))), (0, .ref (A 0)), (1, .int x1), (2, .int x2), (3, .int x3), (4, .int x4), (5, .int x5)] dX8_carried_56 (by decide) rfl ?_
        refine r_iload hc 7 dX8_carried_58 rfl ?_
        refine r_iconst hc (4 : Int32) dX8_carried_60 rfl ?_
        refine r_irem hc dX8_carried_61 (by decide) ?_
        refine r_istore hc [(8, .int (x5 - x5 / (4 : Int32) * (4 : Int32))), (7, .int ((x5 / (4 : Int32)) - (x5 / (4 : Int32)) / (6 : Int32) * (6 : Int32))), (6, .int (x5 / (24 : Int32))), (0, .ref (A 0)), (1, .int x1), (2, .int x2), (3, .int x3), (4, .int x4), (5, .int x5)] dX8_carried_62 (by decide) rfl ?_
        refine r_aload_n hc 3 dX8_carried_64 rfl ?_
        refine r_get (v := .ref ((sh A 10) 0)) hc iw_X8 0 rfl rfl 0 (by decide) mw_295 rfl dX8_carried_65 ?_
        refine r_iload hc 2 dX8_carried_68 rfl ?_
        obtain ⟨q70, hq70, hf⟩ := o_bind hf
        refine r_callVBi (ws' := (kdo A :: (wH cy (sh A 10) hn ++ wD cy (sh A 50) dr))) (As := [.int (x5 / (24 : Int32))]) (rest := []) hc (c_X1_isRoom (sh A 10) hn (x5 / (24 : Int32)) q70 hq70) kv_X1_isRoom mw_337 0 rfl rfl [[kdo A], wH cy (sh A 10) hn, wDo cy (sh A 50) dr, wH cy (sh (sh A 50) 5) (D_house dr)] [[kdo A], wDo cy (sh A 50) dr, wH cy (sh (sh A 50) 5) (D_house dr)] [wH cy (sh A 10) hn] [wH cy (sh A 10) hn] [[kdo A], wH cy (sh A 10) hn, wDo cy (sh A 50) dr, wH cy (sh (sh A 50) 5) (D_house dr)] [0, 2, 3, 1] [0, 3, 1, 2] ⟨(by simp only [wD_eq, List.flatten_cons, List.flatten_nil, List.append_nil, List.append_assoc, List.cons_append, List.nil_append]), (by simp only [wD_eq, List.flatten_cons, List.flatten_nil, List.append_nil, List.append_assoc, List.cons_append, List.nil_append]), (by simp only [wD_eq, List.flatten_cons, List.flatten_nil, List.append_nil, List.append_assoc, List.cons_append, List.nil_append]), (by simp only [wD_eq, List.flatten_cons, List.flatten_nil, List.append_nil, List.append_assoc, List.cons_append, List.nil_append]), rfl, (show List.Perm [0, 2, 3, 1] (List.range 4) from by decide), rfl, (show List.Perm [0, 3, 1, 2] (List.range 4) from by decide)⟩ rfl rfl (Nat.le_of_ble_eq_true rfl) ⟨by decide, by decide⟩ dX8_carried_70 ?_
        refine r_if_eq hc 108 dX8_carried_73 (by decide) (fun c_7 => ?_) (fun c_7 => ?_)
        · have hf := o_pos c_7 hf
          exact V.sub [3, 4, 5, 6, 7, 8, 2, 1, 0] rfl (J108 dr x1 x2 x3 x4 x5 (x5 / (24 : Int32)) ((x5 / (4 : Int32)) - (x5 / (4 : Int32)) / (6 : Int32) * (6 : Int32)) (x5 - x5 / (4 : Int32) * (4 : Int32)) hf)
        · have hf := o_neg c_7 hf
          refine r_aload_n hc 3 dX8_carried_76 rfl ?_
          refine r_get (v := .ref ((sh A 10) 0)) hc iw_X8 0 rfl rfl 0 (by decide) mw_295 rfl dX8_carried_77 ?_
          refine r_iload hc 1 dX8_carried_80 rfl ?_
          obtain ⟨q82, hq82, hf⟩ := o_bind hf
          refine r_callVBi (ws' := (kdo A :: (wH cy (sh A 10) hn ++ wD cy (sh A 50) dr))) (As := [.int ((x5 / (4 : Int32)) - (x5 / (4 : Int32)) / (6 : Int32) * (6 : Int32))]) (rest := []) hc (c_X1_isRoom (sh A 10) hn ((x5 / (4 : Int32)) - (x5 / (4 : Int32)) / (6 : Int32) * (6 : Int32)) q82 hq82) kv_X1_isRoom mw_337 0 rfl rfl [[kdo A], wH cy (sh A 10) hn, wDo cy (sh A 50) dr, wH cy (sh (sh A 50) 5) (D_house dr)] [[kdo A], wDo cy (sh A 50) dr, wH cy (sh (sh A 50) 5) (D_house dr)] [wH cy (sh A 10) hn] [wH cy (sh A 10) hn] [[kdo A], wH cy (sh A 10) hn, wDo cy (sh A 50) dr, wH cy (sh (sh A 50) 5) (D_house dr)] [0, 2, 3, 1] [0, 3, 1, 2] ⟨(by simp only [wD_eq, List.flatten_cons, List.flatten_nil, List.append_nil, List.append_assoc, List.cons_append, List.nil_append]), (by simp only [wD_eq, List.flatten_cons, List.flatten_nil, List.append_nil, List.append_assoc, List.cons_append, List.nil_append]), (by simp only [wD_eq, List.flatten_cons, List.flatten_nil, List.append_nil, List.append_assoc, List.cons_append, List.nil_append]), (by simp only [wD_eq, List.flatten_cons, List.flatten_nil, List.append_nil, List.append_assoc, List.cons_append, List.nil_append]), rfl, (show List.Perm [0, 2, 3, 1] (List.range 4) from by decide), rfl, (show List.Perm [0, 3, 1, 2] (List.range 4) from by decide)⟩ rfl rfl (Nat.le_of_ble_eq_true rfl) ⟨by decide, by decide⟩ dX8_carried_82 ?_
          refine r_if_eq hc 108 dX8_carried_85 (by decide) (fun c_8 => ?_) (fun c_8 => ?_)
          · have hf := o_pos c_8 hf
            exact V.sub [3, 4, 5, 6, 7, 8, 2, 1, 0] rfl (J108 dr x1 x2 x3 x4 x5 (x5 / (24 : Int32)) ((x5 / (4 : Int32)) - (x5 / (4 : Int32)) / (6 : Int32) * (6 : Int32)) (x5 - x5 / (4 : Int32) * (4 : Int32)) hf)
          · have hf := o_neg c_8 hf
            refine r_aload_n hc 3 dX8_carried_88 rfl ?_
            refine r_get (v := .ref ((sh A 10) 0)) hc iw_X8 0 rfl rfl 0 (by decide) mw_295 rfl dX8_carried_89 ?_
            refine r_iload hc 2 dX8_carried_92 rfl ?_
            refine r_iload hc 1 dX8_carried_94 rfl ?_
            refine r_iload hc 0 dX8_carried_96 rfl ?_
            obtain ⟨q98, hq98, hf⟩ := o_bind hf
            refine r_callVBi (ws' := (kdo A :: (wH cy (sh A 10) hn ++ wD cy (sh A 50) dr))) (As := [.int (x5 / (24 : Int32)), .int ((x5 / (4 : Int32)) - (x5 / (4 : Int32)) / (6 : Int32) * (6 : Int32)), .int (x5 - x5 / (4 : Int32) * (4 : Int32))]) (rest := []) hc (c_X1_whyNotCarry (sh A 10) hn (x5 / (24 : Int32)) ((x5 / (4 : Int32)) - (x5 / (4 : Int32)) / (6 : Int32) * (6 : Int32)) (x5 - x5 / (4 : Int32) * (4 : Int32)) q98 hq98) kv_X1_whyNotCarry mw_658 0 rfl rfl [[kdo A], wH cy (sh A 10) hn, wDo cy (sh A 50) dr, wH cy (sh (sh A 50) 5) (D_house dr)] [[kdo A], wDo cy (sh A 50) dr, wH cy (sh (sh A 50) 5) (D_house dr)] [wH cy (sh A 10) hn] [wH cy (sh A 10) hn] [[kdo A], wH cy (sh A 10) hn, wDo cy (sh A 50) dr, wH cy (sh (sh A 50) 5) (D_house dr)] [0, 2, 3, 1] [0, 3, 1, 2] ⟨(by simp only [wD_eq, List.flatten_cons, List.flatten_nil, List.append_nil, List.append_assoc, List.cons_append, List.nil_append]), (by simp only [wD_eq, List.flatten_cons, List.flatten_nil, List.append_nil, List.append_assoc, List.cons_append, List.nil_append]), (by simp only [wD_eq, List.flatten_cons, List.flatten_nil, List.append_nil, List.append_assoc, List.cons_append, List.nil_append]), (by simp only [wD_eq, List.flatten_cons, List.flatten_nil, List.append_nil, List.append_assoc, List.cons_append, List.nil_append]), rfl, (show List.Perm [0, 2, 3, 1] (List.range 4) from by decide), rfl, (show List.Perm [0, 3, 1, 2] (List.range 4) from by decide)⟩ rfl rfl (Nat.le_of_ble_eq_true rfl) ⟨by decide, by decide⟩ dX8_carried_98 ?_
            refine r_if_ne hc 108 dX8_carried_101 (by decide) (fun c_9 => ?_) (fun c_9 => ?_)
            · have hf := o_neg c_9 hf
              exact V.sub [3, 4, 5, 6, 7, 8, 2, 1, 0] rfl (J108 dr x1 x2 x3 x4 x5 (x5 / (24 : Int32)) ((x5 / (4 : Int32)) - (x5 / (4 : Int32)) / (6 : Int32) * (6 : Int32)) (x5 - x5 / (4 : Int32) * (4 : Int32)) hf)
            · have hf := o_pos c_9 hf
              refine r_iconst hc (1 : Int32) dX8_carried_104 rfl ?_
              refine r_goto hc 109 dX8_carried_105 (by decide) ?_
              exact V.sub [3, 4, 5, 6, 7, 8, 2, 1, 0] rfl (J109 dr x1 x2 x3 x4 x5 (x5 / (24 : Int32)) ((x5 / (4 : Int32)) - (x5 / (4 : Int32)) / (6 : Int32) * (6 : Int32)) (x5 - x5 / (4 : Int32) * (4 : Int32)) (1 : Int32) hf)
  show V K (kdo A :: (wH cy (sh A 10) hn ++ wD cy (sh A 50) dr)) 0 [(0, .ref (A 0)), (1, .int x1), (2, .int x2)] []
  unfold f_X8_carried at hf
  refine r_iload_n hc 1 dX8_carried_0 rfl ?_
  refine r_if_lt hc 19 dX8_carried_1 (by decide) (fun c_1 => ?_) (fun c_1 => ?_)
  · have hf := o_pos c_1 hf
    refine r_bipush hc (-2 : Int32) dX8_carried_19 rfl ?_
    exact r_iret hK (congrArg (fun z9 => z9.1) (Option.some.inj hf)) (congrArg (fun z9 => (kdo A :: (wH cy (sh A 10) hn ++ wD cy (sh A 50) z9.2))) (Option.some.inj hf)) dX8_carried_21
  · have hf := o_neg c_1 hf
    refine r_iload_n hc 1 dX8_carried_4 rfl ?_
    refine r_bipush hc (20 : Int32) dX8_carried_5 rfl ?_
    refine r_icmp_gt hc 19 dX8_carried_7 (by decide) (fun c_2 => ?_) (fun c_2 => ?_)
    · have hf := o_pos c_2 hf
      refine r_bipush hc (-2 : Int32) dX8_carried_19 rfl ?_
      exact r_iret hK (congrArg (fun z9 => z9.1) (Option.some.inj hf)) (congrArg (fun z9 => (kdo A :: (wH cy (sh A 10) hn ++ wD cy (sh A 50) z9.2))) (Option.some.inj hf)) dX8_carried_21
    · have hf := o_neg c_2 hf
      refine r_iload_n hc 2 dX8_carried_10 rfl ?_
      refine r_if_lt hc 19 dX8_carried_11 (by decide) (fun c_3 => ?_) (fun c_3 => ?_)
      · have hf := o_pos c_3 hf
        refine r_bipush hc (-2 : Int32) dX8_carried_19 rfl ?_
        exact r_iret hK (congrArg (fun z9 => z9.1) (Option.some.inj hf)) (congrArg (fun z9 => (kdo A :: (wH cy (sh A 10) hn ++ wD cy (sh A 50) z9.2))) (Option.some.inj hf)) dX8_carried_21
      · have hf := o_neg c_3 hf
        refine r_iload_n hc 2 dX8_carried_14 rfl ?_
        refine r_iconst hc (1 : Int32) dX8_carried_15 rfl ?_
        refine r_icmp_le hc 22 dX8_carried_16 (by decide) (fun c_4 => ?_) (fun c_4 => ?_)
        · have hf := o_pos c_4 hf
          refine r_aload_n hc 0 dX8_carried_22 rfl ?_
          refine r_iload_n hc 1 dX8_carried_23 rfl ?_
          obtain ⟨q24, hq24, hf⟩ := o_bind hf
          refine r_callVi (ws' := (kdo A :: (wH cy (sh A 10) hn ++ wD cy (sh A 50) q24.2))) (As := [.int x1]) (rest := []) hc (c_X8_fullestBehind A hn dr x1 q24 hq24) kv_X8_fullestBehind mw_654 0 rfl rfl _ _ _ (Sp_all _ _) rfl rfl (Nat.le_of_ble_eq_true rfl) ⟨by decide, by decide⟩ dX8_carried_24 ?_
          refine r_istore_n hc [(3, .int q24.1), (0, .ref (A 0)), (1, .int x1), (2, .int x2)] dX8_carried_27 (by decide) rfl ?_
          refine r_iconst hc (0 : Int32) dX8_carried_28 rfl ?_
          refine r_istore hc [(4, .int (0 : Int32)), (3, .int q24.1), (0, .ref (A 0)), (1, .int x1), (2, .int x2)] dX8_carried_29 (by decide) rfl ?_
          refine r_iconst hc (0 : Int32) dX8_carried_31 rfl ?_
          refine r_istore hc [(5, .int (0 : Int32)), (4, .int (0 : Int32)), (3, .int q24.1), (0, .ref (A 0)), (1, .int x1), (2, .int x2)] dX8_carried_32 (by decide) rfl ?_
          exact V.sub [3, 4, 5, 2, 1, 0] rfl (L34 FU q24.2 x1 x2 q24.1 (0 : Int32) (0 : Int32) hf)
        · have hf := o_neg c_4 hf
          refine r_bipush hc (-2 : Int32) dX8_carried_19 rfl ?_
          exact r_iret hK (congrArg (fun z9 => z9.1) (Option.some.inj hf)) (congrArg (fun z9 => (kdo A :: (wH cy (sh A 10) hn ++ wD cy (sh A 50) z9.2))) (Option.some.inj hf)) dX8_carried_21
def X8_hinges_J113 (k35 : HS → DS → Int32 → Int32 → Int32 → Int32 → Int32 → Option (Int32 × DS)) (k53 : HS → DS → Int32 → Int32 → Int32 → Int32 → Int32 → Int32 → Option (Int32 × DS)) (hn : HS) (dr : DS) (x1 : Int32) (x2 : Int32) (x3 : Int32) (x4 : Int32) (x5 : Int32) (x6 : Int32) : Option (Int32 × DS) :=
  (k53 hn dr x1 x2 x3 x4 x5 (x6 + (1 : Int32)))
def X8_hinges_J92 (k35 : HS → DS → Int32 → Int32 → Int32 → Int32 → Int32 → Option (Int32 × DS)) (k53 : HS → DS → Int32 → Int32 → Int32 → Int32 → Int32 → Int32 → Option (Int32 × DS)) (hn : HS) (dr : DS) (x1 : Int32) (x2 : Int32) (x3 : Int32) (x4 : Int32) (x5 : Int32) (x6 : Int32) (s0 : Int32) : Option (Int32 × DS) :=
  (if x3 ≤ s0 then (X8_hinges_J113 k35 k53 hn dr x1 x2 x3 x4 x5 x6) else (X8_hinges_J113 k35 k53 hn dr x1 x2 s0 (((10 : Int32) * x5) + x6) x5 x6))
def X8_hinges_B53 (k35 : HS → DS → Int32 → Int32 → Int32 → Int32 → Int32 → Option (Int32 × DS)) (k53 : HS → DS → Int32 → Int32 → Int32 → Int32 → Int32 → Int32 → Option (Int32 × DS)) (hn : HS) (dr : DS) (x1 : Int32) (x2 : Int32) (x3 : Int32) (x4 : Int32) (x5 : Int32) (x6 : Int32) : Option (Int32 × DS) :=
  (if (H_rooms hn) ≤ x6 then (k35 hn dr x1 x2 x3 x4 (x5 + (1 : Int32))) else ((f_X1_widthOf hn x5 x6).bind fun q73 => (if q73 ≤ 0 then (X8_hinges_J92 k35 k53 hn dr x1 x2 x3 x4 x5 x6 x3) else ((f_X8_fullestUnhinged hn dr x5 x6 x1).bind fun q85 => (X8_hinges_J92 k35 k53 hn q85.2 x1 x2 x3 x4 x5 x6 q85.1)))))
def X8_hinges_B35 (k35 : HS → DS → Int32 → Int32 → Int32 → Int32 → Int32 → Option (Int32 × DS)) (hn : HS) (dr : DS) (x1 : Int32) (x2 : Int32) (x3 : Int32) (x4 : Int32) (x5 : Int32) : Option (Int32 × DS) :=
  (if (H_rooms hn) ≤ x5 then (if x2 = 0 then (some (x3, dr)) else (some (x4, dr))) else (it (X8_hinges_B53 k35) (fun _ _ _ _ _ _ _ _ => none) FU hn dr x1 x2 x3 x4 x5 (x5 + (1 : Int32))))
def f_X8_hinges (hn : HS) (dr : DS) (x1 : Int32) (x2 : Int32) : Option (Int32 × DS) :=
  (if x1 < 0 then (some ((-2 : Int32), dr)) else (if (20 : Int32) < x1 then (some ((-2 : Int32), dr)) else (if x2 < 0 then (some ((-2 : Int32), dr)) else (if x2 ≤ (1 : Int32) then ((f_X8_fullestBehind hn dr x1).bind fun q24 => (it X8_hinges_B35 (fun _ _ _ _ _ _ _ => none) FU hn q24.2 x1 x2 q24.1 (-6 : Int32) (0 : Int32))) else (some ((-2 : Int32), dr))))))
theorem kv_X8_hinges : KV RX8 yX8_hinges cX8_hinges 8 (some .int) 2 := ⟨mw_666, mw_667, mw_55, mw_668, by decide +kernel⟩
set_option maxHeartbeats 8000000 in
set_option maxRecDepth 100000 in
theorem c_X8_hinges {l : Launch} {E : va_G} {cy : Nat → ClassId} (A : Nat → Nat) (hn : HS) (dr : DS) (x1 : Int32) (x2 : Int32) (q : Int32 × DS) (hf : f_X8_hinges hn dr x1 x2 = some q) : Ci l yX8_hinges cX8_hinges 8 (some .int) 7 199 E cy [.ref (A 0), .int x1, .int x2] (kdo A :: (wH cy (sh A 10) hn ++ wD cy (sh A 50) dr)) q.1 (kdo A :: (wH cy (sh A 10) hn ++ wD cy (sh A 50) q.2)) := by
  refine Ci.of RX8 (by decide) rfl (Nat.le_of_ble_eq_true rfl) ?_
  intro K hK
  have hc := hK.cq
  have L35 : ∀ (n35 : Nat) (dr : DS) (x1 : Int32) (x2 : Int32) (x3 : Int32) (x4 : Int32) (x5 : Int32), it X8_hinges_B35 (fun _ _ _ _ _ _ _ => none) n35 hn dr x1 x2 x3 x4 x5 = some q → V K (kdo A :: (wH cy (sh A 10) hn ++ wD cy (sh A 50) dr)) 35 [(0, .ref (A 0)), (1, .int x1), (2, .int x2), (3, .int x3), (4, .int x4), (5, .int x5)] [] := by
    intro n35
    induction n35 with
    | zero => intro dr x1 x2 x3 x4 x5 hf; exact (o_none hf).elim
    | succ n35 ih35 =>
      have L53 : ∀ (n53 : Nat) (dr : DS) (x1 : Int32) (x2 : Int32) (x3 : Int32) (x4 : Int32) (x5 : Int32) (x6 : Int32), it (X8_hinges_B53 (it X8_hinges_B35 (fun _ _ _ _ _ _ _ => none) n35)) (fun _ _ _ _ _ _ _ _ => none) n53 hn dr x1 x2 x3 x4 x5 x6 = some q → V K (kdo A :: (wH cy (sh A 10) hn ++ wD cy (sh A 50) dr)) 53 [(0, .ref (A 0)), (1, .int x1), (2, .int x2), (3, .int x3), (4, .int x4), (5, .int x5), (6, .int x6)] [] := by
        intro n53
        induction n53 with
        | zero => intro dr x1 x2 x3 x4 x5 x6 hf; exact (o_none hf).elim
        | succ n53 ih53 =>
          have J113 : ∀ (dr : DS) (x1 : Int32) (x2 : Int32) (x3 : Int32) (x4 : Int32) (x5 : Int32) (x6 : Int32), X8_hinges_J113 (it X8_hinges_B35 (fun _ _ _ _ _ _ _ => none) n35) (it (X8_hinges_B53 (it X8_hinges_B35 (fun _ _ _ _ _ _ _ => none) n35)) (fun _ _ _ _ _ _ _ _ => none) n53) hn dr x1 x2 x3 x4 x5 x6 = some q → V K (kdo A :: (wH cy (sh A 10) hn ++ wD cy (sh A 50) dr)) 113 [(0, .ref (A 0)), (1, .int x1), (2, .int x2), (3, .int x3), (4, .int x4), (5, .int x5), (6, .int x6)] [] := by
            intro dr x1 x2 x3 x4 x5 x6 hf
            unfold X8_hinges_J113 at hf
            refine r_iinc hc 6 [(6, .int (x6 + (1 : Int32))), (0, .ref (A 0)), (1, .int x1), (2, .int x2), (3, .int x3), (4, .int x4), (5, .int x5)] (x6 + (1 : Int32)) dX8_hinges_113 rfl rfl (by decide) rfl ?_
            refine r_goto hc 53 dX8_hinges_116 (by decide) ?_
            exact V.sub [1, 2, 3, 4, 5, 6, 0] rfl (ih53 dr x1 x2 x3 x4 x5 (x6 + (1 : Int32)) hf)
          have J92 : ∀ (dr : DS) (x1 : Int32) (x2 : Int32) (x3 : Int32) (x4 : Int32) (x5 : Int32) (x6 : Int32) (s0 : Int32), X8_hinges_J92 (it X8_hinges_B35 (fun _ _ _ _ _ _ _ => none) n35) (it (X8_hinges_B53 (it X8_hinges_B35 (fun _ _ _ _ _ _ _ => none) n35)) (fun _ _ _ _ _ _ _ _ => none) n53) hn dr x1 x2 x3 x4 x5 x6 s0 = some q → V K (kdo A :: (wH cy (sh A 10) hn ++ wD cy (sh A 50) dr)) 92 [(0, .ref (A 0)), (1, .int x1), (2, .int x2), (3, .int x3), (4, .int x4), (5, .int x5), (6, .int x6)] [.int s0] := by
            intro dr x1 x2 x3 x4 x5 x6 s0 hf
            unfold X8_hinges_J92 at hf
            refine r_istore hc [(7, .int s0), (0, .ref (A 0)), (1, .int x1), (2, .int x2), (3, .int x3), (4, .int x4), (5, .int x5), (6, .int x6)] dX8_hinges_92 (by decide) rfl ?_
            refine r_iload hc 0 dX8_hinges_94 rfl ?_
            refine r_iload_n hc 4 dX8_hinges_96 rfl ?_
            refine r_icmp_ge hc 113 dX8_hinges_97 (by decide) (fun c_9 => ?_) (fun c_9 => ?_)
            · have hf := o_pos c_9 hf
              exact V.sub [1, 2, 3, 4, 5, 6, 7] rfl (J113 dr x1 x2 x3 x4 x5 x6 hf)
            · have hf := o_neg c_9 hf
              refine r_iload hc 0 dX8_hinges_100 rfl ?_
              refine r_istore_n hc [(3, .int s0), (7, .int s0), (0, .ref (A 0)), (1, .int x1), (2, .int x2), (4, .int x4), (5, .int x5), (6, .int x6)] dX8_hinges_102 (by decide) rfl ?_
              refine r_bipush hc (10 : Int32) dX8_hinges_103 rfl ?_
              refine r_iload hc 6 dX8_hinges_105 rfl ?_
              refine r_imul hc dX8_hinges_107 ?_
              refine r_iload hc 7 dX8_hinges_108 rfl ?_
              refine r_iadd hc dX8_hinges_110 ?_
              refine r_istore hc [(4, .int (((10 : Int32) * x5) + x6)), (3, .int s0), (7, .int s0), (0, .ref (A 0)), (1, .int x1), (2, .int x2), (5, .int x5), (6, .int x6)] dX8_hinges_111 (by decide) rfl ?_
              exact V.sub [3, 4, 5, 1, 0, 6, 7] rfl (J113 dr x1 x2 s0 (((10 : Int32) * x5) + x6) x5 x6 hf)
          intro dr x1 x2 x3 x4 x5 x6 hf
          replace hf : X8_hinges_B53 (it X8_hinges_B35 (fun _ _ _ _ _ _ _ => none) n35) (it (X8_hinges_B53 (it X8_hinges_B35 (fun _ _ _ _ _ _ _ => none) n35)) (fun _ _ _ _ _ _ _ _ => none) n53) hn dr x1 x2 x3 x4 x5 x6 = some q := hf
          unfold X8_hinges_B53 at hf
          refine r_iload hc 6 dX8_hinges_53 rfl ?_
          refine r_aload_n hc 0 dX8_hinges_55 rfl ?_
          refine r_get (v := .ref ((sh A 10) 0)) hc iw_X8 0 rfl rfl 0 (by decide) mw_295 rfl dX8_hinges_56 ?_
          refine r_get (v := .int (H_rooms hn)) hc iw_X1 1 rfl rfl 0 (by decide) mw_86 rfl dX8_hinges_59 ?_
          refine r_icmp_ge hc 119 dX8_hinges_62 (by decide) (fun c_7 => ?_) (fun c_7 => ?_)
          · have hf := o_pos c_7 hf
            refine r_iinc hc 5 [(5, .int (x5 + (1 : Int32))), (0, .ref (A 0)), (1, .int x1), (2, .int x2), (3, .int x3), (4, .int x4), (6, .int x6)] (x5 + (1 : Int32)) dX8_hinges_119 rfl rfl (by decide) rfl ?_
            refine r_goto hc 35 dX8_hinges_122 (by decide) ?_
            exact V.sub [1, 2, 3, 4, 5, 0] rfl (ih35 dr x1 x2 x3 x4 (x5 + (1 : Int32)) hf)
          · have hf := o_neg c_7 hf
            refine r_aload_n hc 0 dX8_hinges_65 rfl ?_
            refine r_get (v := .ref ((sh A 10) 0)) hc iw_X8 0 rfl rfl 0 (by decide) mw_295 rfl dX8_hinges_66 ?_
            refine r_iload hc 5 dX8_hinges_69 rfl ?_
            refine r_iload hc 6 dX8_hinges_71 rfl ?_
            obtain ⟨q73, hq73, hf⟩ := o_bind hf
            refine r_callVBi (ws' := (kdo A :: (wH cy (sh A 10) hn ++ wD cy (sh A 50) dr))) (As := [.int x5, .int x6]) (rest := []) hc (c_X1_widthOf (sh A 10) hn x5 x6 q73 hq73) kv_X1_widthOf mw_371 0 rfl rfl [[kdo A], wH cy (sh A 10) hn, wDo cy (sh A 50) dr, wH cy (sh (sh A 50) 5) (D_house dr)] [[kdo A], wDo cy (sh A 50) dr, wH cy (sh (sh A 50) 5) (D_house dr)] [wH cy (sh A 10) hn] [wH cy (sh A 10) hn] [[kdo A], wH cy (sh A 10) hn, wDo cy (sh A 50) dr, wH cy (sh (sh A 50) 5) (D_house dr)] [0, 2, 3, 1] [0, 3, 1, 2] ⟨(by simp only [wD_eq, List.flatten_cons, List.flatten_nil, List.append_nil, List.append_assoc, List.cons_append, List.nil_append]), (by simp only [wD_eq, List.flatten_cons, List.flatten_nil, List.append_nil, List.append_assoc, List.cons_append, List.nil_append]), (by simp only [wD_eq, List.flatten_cons, List.flatten_nil, List.append_nil, List.append_assoc, List.cons_append, List.nil_append]), (by simp only [wD_eq, List.flatten_cons, List.flatten_nil, List.append_nil, List.append_assoc, List.cons_append, List.nil_append]), rfl, (show List.Perm [0, 2, 3, 1] (List.range 4) from by decide), rfl, (show List.Perm [0, 3, 1, 2] (List.range 4) from by decide)⟩ rfl rfl (Nat.le_of_ble_eq_true rfl) ⟨by decide, by decide⟩ dX8_hinges_73 ?_
            refine r_if_le hc 91 dX8_hinges_76 (by decide) (fun c_8 => ?_) (fun c_8 => ?_)
            · have hf := o_pos c_8 hf
              refine r_iload_n hc 3 dX8_hinges_91 rfl ?_
              exact V.sub [0, 1, 2, 3, 4, 5, 6] rfl (J92 dr x1 x2 x3 x4 x5 x6 x3 hf)
            · have hf := o_neg c_8 hf
              refine r_aload_n hc 0 dX8_hinges_79 rfl ?_
              refine r_iload hc 5 dX8_hinges_80 rfl ?_
              refine r_iload hc 6 dX8_hinges_82 rfl ?_
              refine r_iload_n hc 1 dX8_hinges_84 rfl ?_
              obtain ⟨q85, hq85, hf⟩ := o_bind hf
              refine r_callVi (ws' := (kdo A :: (wH cy (sh A 10) hn ++ wD cy (sh A 50) q85.2))) (As := [.int x5, .int x6, .int x1]) (rest := []) hc (c_X8_fullestUnhinged A hn dr x5 x6 x1 q85 hq85) kv_X8_fullestUnhinged mw_669 0 rfl rfl _ _ _ (Sp_all _ _) rfl rfl (Nat.le_of_ble_eq_true rfl) ⟨by decide, by decide⟩ dX8_hinges_85 ?_
              refine r_goto hc 92 dX8_hinges_88 (by decide) ?_
              exact V.sub [0, 1, 2, 3, 4, 5, 6] rfl (J92 q85.2 x1 x2 x3 x4 x5 x6 q85.1 hf)
      intro dr x1 x2 x3 x4 x5 hf
      replace hf : X8_hinges_B35 (it X8_hinges_B35 (fun _ _ _ _ _ _ _ => none) n35) hn dr x1 x2 x3 x4 x5 = some q := hf
      unfold X8_hinges_B35 at hf
      refine r_iload hc 5 dX8_hinges_35 rfl ?_
      refine r_aload_n hc 0 dX8_hinges_37 rfl ?_
      refine r_get (v := .ref ((sh A 10) 0)) hc iw_X8 0 rfl rfl 0 (by decide) mw_295 rfl dX8_hinges_38 ?_
      refine r_get (v := .int (H_rooms hn)) hc iw_X1 1 rfl rfl 0 (by decide) mw_86 rfl dX8_hinges_41 ?_
      refine r_icmp_ge hc 125 dX8_hinges_44 (by decide) (fun c_5 => ?_) (fun c_5 => ?_)
      · have hf := o_pos c_5 hf
        refine r_iload_n hc 2 dX8_hinges_125 rfl ?_
        refine r_if_ne hc 133 dX8_hinges_126 (by decide) (fun c_6 => ?_) (fun c_6 => ?_)
        · have hf := o_neg c_6 hf
          refine r_iload hc 4 dX8_hinges_133 rfl ?_
          exact r_iret hK (congrArg (fun z9 => z9.1) (Option.some.inj hf)) (congrArg (fun z9 => (kdo A :: (wH cy (sh A 10) hn ++ wD cy (sh A 50) z9.2))) (Option.some.inj hf)) dX8_hinges_135
        · have hf := o_pos c_6 hf
          refine r_iload_n hc 3 dX8_hinges_129 rfl ?_
          refine r_goto hc 135 dX8_hinges_130 (by decide) ?_
          exact r_iret hK (congrArg (fun z9 => z9.1) (Option.some.inj hf)) (congrArg (fun z9 => (kdo A :: (wH cy (sh A 10) hn ++ wD cy (sh A 50) z9.2))) (Option.some.inj hf)) dX8_hinges_135
      · have hf := o_neg c_5 hf
        refine r_iload hc 5 dX8_hinges_47 rfl ?_
        refine r_iconst hc (1 : Int32) dX8_hinges_49 rfl ?_
        refine r_iadd hc dX8_hinges_50 ?_
        refine r_istore hc [(6, .int (x5 + (1 : Int32))), (0, .ref (A 0)), (1, .int x1), (2, .int x2), (3, .int x3), (4, .int x4), (5, .int x5)] dX8_hinges_51 (by decide) rfl ?_
        exact V.sub [1, 2, 3, 4, 5, 6, 0] rfl (L53 FU dr x1 x2 x3 x4 x5 (x5 + (1 : Int32)) hf)
  show V K (kdo A :: (wH cy (sh A 10) hn ++ wD cy (sh A 50) dr)) 0 [(0, .ref (A 0)), (1, .int x1), (2, .int x2)] []
  unfold f_X8_hinges at hf
  refine r_iload_n hc 1 dX8_hinges_0 rfl ?_
  refine r_if_lt hc 19 dX8_hinges_1 (by decide) (fun c_1 => ?_) (fun c_1 => ?_)
  · have hf := o_pos c_1 hf
    refine r_bipush hc (-2 : Int32) dX8_hinges_19 rfl ?_
    exact r_iret hK (congrArg (fun z9 => z9.1) (Option.some.inj hf)) (congrArg (fun z9 => (kdo A :: (wH cy (sh A 10) hn ++ wD cy (sh A 50) z9.2))) (Option.some.inj hf)) dX8_hinges_21
  · have hf := o_neg c_1 hf
    refine r_iload_n hc 1 dX8_hinges_4 rfl ?_
    refine r_bipush hc (20 : Int32) dX8_hinges_5 rfl ?_
    refine r_icmp_gt hc 19 dX8_hinges_7 (by decide) (fun c_2 => ?_) (fun c_2 => ?_)
    · have hf := o_pos c_2 hf
      refine r_bipush hc (-2 : Int32) dX8_hinges_19 rfl ?_
      exact r_iret hK (congrArg (fun z9 => z9.1) (Option.some.inj hf)) (congrArg (fun z9 => (kdo A :: (wH cy (sh A 10) hn ++ wD cy (sh A 50) z9.2))) (Option.some.inj hf)) dX8_hinges_21
    · have hf := o_neg c_2 hf
      refine r_iload_n hc 2 dX8_hinges_10 rfl ?_
      refine r_if_lt hc 19 dX8_hinges_11 (by decide) (fun c_3 => ?_) (fun c_3 => ?_)
      · have hf := o_pos c_3 hf
        refine r_bipush hc (-2 : Int32) dX8_hinges_19 rfl ?_
        exact r_iret hK (congrArg (fun z9 => z9.1) (Option.some.inj hf)) (congrArg (fun z9 => (kdo A :: (wH cy (sh A 10) hn ++ wD cy (sh A 50) z9.2))) (Option.some.inj hf)) dX8_hinges_21
      · have hf := o_neg c_3 hf
        refine r_iload_n hc 2 dX8_hinges_14 rfl ?_
        refine r_iconst hc (1 : Int32) dX8_hinges_15 rfl ?_
        refine r_icmp_le hc 22 dX8_hinges_16 (by decide) (fun c_4 => ?_) (fun c_4 => ?_)
        · have hf := o_pos c_4 hf
          refine r_aload_n hc 0 dX8_hinges_22 rfl ?_
          refine r_iload_n hc 1 dX8_hinges_23 rfl ?_
          obtain ⟨q24, hq24, hf⟩ := o_bind hf
          refine r_callVi (ws' := (kdo A :: (wH cy (sh A 10) hn ++ wD cy (sh A 50) q24.2))) (As := [.int x1]) (rest := []) hc (c_X8_fullestBehind A hn dr x1 q24 hq24) kv_X8_fullestBehind mw_654 0 rfl rfl _ _ _ (Sp_all _ _) rfl rfl (Nat.le_of_ble_eq_true rfl) ⟨by decide, by decide⟩ dX8_hinges_24 ?_
          refine r_istore_n hc [(3, .int q24.1), (0, .ref (A 0)), (1, .int x1), (2, .int x2)] dX8_hinges_27 (by decide) rfl ?_
          refine r_bipush hc (-6 : Int32) dX8_hinges_28 rfl ?_
          refine r_istore hc [(4, .int (-6 : Int32)), (3, .int q24.1), (0, .ref (A 0)), (1, .int x1), (2, .int x2)] dX8_hinges_30 (by decide) rfl ?_
          refine r_iconst hc (0 : Int32) dX8_hinges_32 rfl ?_
          refine r_istore hc [(5, .int (0 : Int32)), (4, .int (-6 : Int32)), (3, .int q24.1), (0, .ref (A 0)), (1, .int x1), (2, .int x2)] dX8_hinges_33 (by decide) rfl ?_
          exact V.sub [3, 4, 5, 2, 1, 0] rfl (L35 FU q24.2 x1 x2 q24.1 (-6 : Int32) (0 : Int32) hf)
        · have hf := o_neg c_4 hf
          refine r_bipush hc (-2 : Int32) dX8_hinges_19 rfl ?_
          exact r_iret hK (congrArg (fun z9 => z9.1) (Option.some.inj hf)) (congrArg (fun z9 => (kdo A :: (wH cy (sh A 10) hn ++ wD cy (sh A 50) z9.2))) (Option.some.inj hf)) dX8_hinges_21
def X8_best_J72 (k36 : HS → Int32 → Int32 → Int32 → Int32 → Option (Int32)) (hn : HS) (x1 : Int32) (x2 : Int32) (x3 : Int32) (x4 : Int32) : Option (Int32) :=
  (k36 hn x1 x2 x3 (x4 + (1 : Int32)))
def X8_best_B36 (k36 : HS → Int32 → Int32 → Int32 → Int32 → Option (Int32)) (hn : HS) (x1 : Int32) (x2 : Int32) (x3 : Int32) (x4 : Int32) : Option (Int32) :=
  (if (H_rooms hn) ≤ x4 then (some (x2)) else ((f_X1_pull hn x1 x4).bind fun q55 => (if q55 ≤ x3 then (X8_best_J72 k36 hn x1 x2 x3 x4) else (X8_best_J72 k36 hn x1 x4 q55 x4))))
def f_X8_best (hn : HS) (x1 : Int32) : Option (Int32) :=
  ((f_X1_isThere hn x1).bind fun q5 => (if q5 = 0 then (some ((-1 : Int32))) else (chk x1 8 ((f_X1_pull hn x1 ((H_place hn) (x1).toNatClampNeg)).bind fun q29 => (it X8_best_B36 (fun _ _ _ _ _ => none) FU hn x1 ((H_place hn) (x1).toNatClampNeg) q29 (0 : Int32))))))
theorem kv_X8_best : KV RX8 yX8_best cX8_best 6 (some .int) 1 := ⟨mw_678, mw_679, mw_55, mw_680, by decide +kernel⟩
set_option maxHeartbeats 8000000 in
set_option maxRecDepth 100000 in
theorem c_X8_best {l : Launch} {E : va_G} {cy : Nat → ClassId} (A : Nat → Nat) (hn : HS) (x1 : Int32) (q : Int32) (hf : f_X8_best hn x1 = some q) : Ci l yX8_best cX8_best 6 (some .int) 5 148 E cy [.ref (A 0), .int x1] (kdo A :: (wH cy (sh A 10) hn)) q (kdo A :: (wH cy (sh A 10) hn)) := by
  refine Ci.of RX8 (by decide) rfl (Nat.le_of_ble_eq_true rfl) ?_
  intro K hK
  have hc := hK.cq
  have L36 : ∀ (n36 : Nat) (x1 : Int32) (x2 : Int32) (x3 : Int32) (x4 : Int32), it X8_best_B36 (fun _ _ _ _ _ => none) n36 hn x1 x2 x3 x4 = some q → V K (kdo A :: (wH cy (sh A 10) hn)) 36 [(0, .ref (A 0)), (1, .int x1), (2, .int x2), (3, .int x3), (4, .int x4)] [] := by
    intro n36
    induction n36 with
    | zero => intro x1 x2 x3 x4 hf; exact (o_none hf).elim
    | succ n36 ih36 =>
      have J72 : ∀ (x1 : Int32) (x2 : Int32) (x3 : Int32) (x4 : Int32), X8_best_J72 (it X8_best_B36 (fun _ _ _ _ _ => none) n36) hn x1 x2 x3 x4 = some q → V K (kdo A :: (wH cy (sh A 10) hn)) 72 [(0, .ref (A 0)), (1, .int x1), (2, .int x2), (3, .int x3), (4, .int x4)] [] := by
        intro x1 x2 x3 x4 hf
        unfold X8_best_J72 at hf
        refine r_iinc hc 4 [(4, .int (x4 + (1 : Int32))), (0, .ref (A 0)), (1, .int x1), (2, .int x2), (3, .int x3)] (x4 + (1 : Int32)) dX8_best_72 rfl rfl (by decide) rfl ?_
        refine r_goto hc 36 dX8_best_75 (by decide) ?_
        exact V.sub [1, 2, 3, 4, 0] rfl (ih36 x1 x2 x3 (x4 + (1 : Int32)) hf)
      intro x1 x2 x3 x4 hf
      replace hf : X8_best_B36 (it X8_best_B36 (fun _ _ _ _ _ => none) n36) hn x1 x2 x3 x4 = some q := hf
      unfold X8_best_B36 at hf
      refine r_iload hc 4 dX8_best_36 rfl ?_
      refine r_aload_n hc 0 dX8_best_38 rfl ?_
      refine r_get (v := .ref ((sh A 10) 0)) hc iw_X8 0 rfl rfl 0 (by decide) mw_295 rfl dX8_best_39 ?_
      refine r_get (v := .int (H_rooms hn)) hc iw_X1 1 rfl rfl 0 (by decide) mw_86 rfl dX8_best_42 ?_
      refine r_icmp_ge hc 78 dX8_best_45 (by decide) (fun c_3 => ?_) (fun c_3 => ?_)
      · have hf := o_pos c_3 hf
        refine r_iload_n hc 2 dX8_best_78 rfl ?_
        exact r_iret hK (Option.some.inj hf) rfl dX8_best_79
      · have hf := o_neg c_3 hf
        refine r_aload_n hc 0 dX8_best_48 rfl ?_
        refine r_get (v := .ref ((sh A 10) 0)) hc iw_X8 0 rfl rfl 0 (by decide) mw_295 rfl dX8_best_49 ?_
        refine r_iload_n hc 1 dX8_best_52 rfl ?_
        refine r_iload hc 4 dX8_best_53 rfl ?_
        obtain ⟨q55, hq55, hf⟩ := o_bind hf
        refine r_callVi (ws' := (kdo A :: (wH cy (sh A 10) hn))) (As := [.int x1, .int x4]) (rest := []) hc (c_X1_pull (sh A 10) hn x1 x4 q55 hq55) kv_X1_pull mw_586 0 rfl rfl [1, 2, 3, 4, 5, 6, 7, 8, 9, 10] [0] [0, 1, 2, 3, 4, 5, 6, 7, 8, 9, 10] ⟨rfl, rfl, rfl, rfl, rfl, rfl, rfl⟩ rfl rfl (Nat.le_of_ble_eq_true rfl) ⟨by decide, by decide⟩ dX8_best_55 ?_
        refine r_istore hc [(5, .int q55), (0, .ref (A 0)), (1, .int x1), (2, .int x2), (3, .int x3), (4, .int x4)] dX8_best_58 (by decide) rfl ?_
        refine r_iload hc 0 dX8_best_60 rfl ?_
        refine r_iload_n hc 4 dX8_best_62 rfl ?_
        refine r_icmp_le hc 72 dX8_best_63 (by decide) (fun c_4 => ?_) (fun c_4 => ?_)
        · have hf := o_pos c_4 hf
          exact V.sub [1, 2, 3, 4, 5] rfl (J72 x1 x2 x3 x4 hf)
        · have hf := o_neg c_4 hf
          refine r_iload hc 0 dX8_best_66 rfl ?_
          refine r_istore_n hc [(3, .int q55), (5, .int q55), (0, .ref (A 0)), (1, .int x1), (2, .int x2), (4, .int x4)] dX8_best_68 (by decide) rfl ?_
          refine r_iload hc 5 dX8_best_69 rfl ?_
          refine r_istore_n hc [(2, .int x4), (3, .int q55), (5, .int q55), (0, .ref (A 0)), (1, .int x1), (4, .int x4)] dX8_best_71 (by decide) rfl ?_
          exact V.sub [3, 4, 0, 1, 5] rfl (J72 x1 x4 q55 x4 hf)
  show V K (kdo A :: (wH cy (sh A 10) hn)) 0 [(0, .ref (A 0)), (1, .int x1)] []
  unfold f_X8_best at hf
  refine r_aload_n hc 0 dX8_best_0 rfl ?_
  refine r_get (v := .ref ((sh A 10) 0)) hc iw_X8 0 rfl rfl 0 (by decide) mw_295 rfl dX8_best_1 ?_
  refine r_iload_n hc 1 dX8_best_4 rfl ?_
  obtain ⟨q5, hq5, hf⟩ := o_bind hf
  refine r_callVi (ws' := (kdo A :: (wH cy (sh A 10) hn))) (As := [.int x1]) (rest := []) hc (c_X1_isThere (sh A 10) hn x1 q5 hq5) kv_X1_isThere mw_404 0 rfl rfl [1, 2, 3, 4, 5, 6, 7, 8, 9, 10] [0] [0, 1, 2, 3, 4, 5, 6, 7, 8, 9, 10] ⟨rfl, rfl, rfl, rfl, rfl, rfl, rfl⟩ rfl rfl (Nat.le_of_ble_eq_true rfl) ⟨by decide, by decide⟩ dX8_best_5 ?_
  refine r_if_ne hc 13 dX8_best_8 (by decide) (fun c_1 => ?_) (fun c_1 => ?_)
  · have hf := o_neg c_1 hf
    refine r_aload_n hc 0 dX8_best_13 rfl ?_
    refine r_get (v := .ref ((sh A 10) 0)) hc iw_X8 0 rfl rfl 0 (by decide) mw_295 rfl dX8_best_14 ?_
    refine r_get (v := .ref ((sh A 10) 3)) hc iw_X1 1 rfl rfl 5 (by decide) mw_102 rfl dX8_best_17 ?_
    refine r_iload_n hc 1 dX8_best_20 rfl ?_
    obtain ⟨i_2, hf⟩ := chk_some hf
    refine r_iald (f := (H_place hn)) hc 4 rfl i_2 dX8_best_21 ?_
    refine r_istore_n hc [(2, .int ((H_place hn) (x1).toNatClampNeg)), (0, .ref (A 0)), (1, .int x1)] dX8_best_22 (by decide) rfl ?_
    refine r_aload_n hc 1 dX8_best_23 rfl ?_
    refine r_get (v := .ref ((sh A 10) 0)) hc iw_X8 0 rfl rfl 0 (by decide) mw_295 rfl dX8_best_24 ?_
    refine r_iload_n hc 2 dX8_best_27 rfl ?_
    refine r_iload_n hc 0 dX8_best_28 rfl ?_
    obtain ⟨q29, hq29, hf⟩ := o_bind hf
    refine r_callVi (ws' := (kdo A :: (wH cy (sh A 10) hn))) (As := [.int x1, .int ((H_place hn) (x1).toNatClampNeg)]) (rest := []) hc (c_X1_pull (sh A 10) hn x1 ((H_place hn) (x1).toNatClampNeg) q29 hq29) kv_X1_pull mw_586 0 rfl rfl [1, 2, 3, 4, 5, 6, 7, 8, 9, 10] [0] [0, 1, 2, 3, 4, 5, 6, 7, 8, 9, 10] ⟨rfl, rfl, rfl, rfl, rfl, rfl, rfl⟩ rfl rfl (Nat.le_of_ble_eq_true rfl) ⟨by decide, by decide⟩ dX8_best_29 ?_
    refine r_istore_n hc [(3, .int q29), (2, .int ((H_place hn) (x1).toNatClampNeg)), (0, .ref (A 0)), (1, .int x1)] dX8_best_32 (by decide) rfl ?_
    refine r_iconst hc (0 : Int32) dX8_best_33 rfl ?_
    refine r_istore hc [(4, .int (0 : Int32)), (3, .int q29), (2, .int ((H_place hn) (x1).toNatClampNeg)), (0, .ref (A 0)), (1, .int x1)] dX8_best_34 (by decide) rfl ?_
    exact V.sub [3, 4, 2, 1, 0] rfl (L36 FU x1 ((H_place hn) (x1).toNatClampNeg) q29 (0 : Int32) hf)
  · have hf := o_pos c_1 hf
    refine r_iconst hc (-1 : Int32) dX8_best_11 rfl ?_
    exact r_iret hK (Option.some.inj hf) rfl dX8_best_12
