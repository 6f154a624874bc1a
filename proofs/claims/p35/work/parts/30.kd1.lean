def f_X8_rooms (hn : HS) (x1 : Int32) : Option (Int32 × HS) :=
  (if x1 < (2 : Int32) then (some ((-2 : Int32), hn)) else (if x1 ≤ (6 : Int32) then ((f_X1_clear hn x1).bind fun q27 => (some ((H_rooms hn), q27))) else (some ((-2 : Int32), hn))))
theorem kv_X8_rooms : KV RX8 yX8_rooms cX8_rooms 3 (some .int) 1 := ⟨mw_330, mw_331, mw_55, mw_332, by decide +kernel⟩
set_option maxHeartbeats 8000000 in
set_option maxRecDepth 100000 in
theorem c_X8_rooms {l : Launch} {E : va_G} {cy : Nat → ClassId} (A : Nat → Nat) (hn : HS) (x1 : Int32) (q : Int32 × HS) (hf : f_X8_rooms hn x1 = some q) : Ci l yX8_rooms cX8_rooms 3 (some .int) 3 105 E cy [.ref (A 0), .int x1] (kdo A :: (wH cy (sh A 10) hn)) q.1 (kdo A :: (wH cy (sh A 10) q.2)) := by
  refine Ci.of RX8 (by decide) rfl (Nat.le_of_ble_eq_true rfl) ?_
  intro K hK
  have hc := hK.cq
  show V K (kdo A :: (wH cy (sh A 10) hn)) 0 [(0, .ref (A 0)), (1, .int x1)] []
  unfold f_X8_rooms at hf
  refine r_iload_n hc 1 dX8_rooms_0 rfl ?_
  refine r_iconst hc (2 : Int32) dX8_rooms_1 rfl ?_
  refine r_icmp_lt hc 11 dX8_rooms_2 (by decide) (fun c_1 => ?_) (fun c_1 => ?_)
  · have hf := o_pos c_1 hf
    refine r_bipush hc (-2 : Int32) dX8_rooms_11 rfl ?_
    exact r_iret hK (congrArg (fun z9 => z9.1) (Option.some.inj hf)) (congrArg (fun z9 => (kdo A :: (wH cy (sh A 10) z9.2))) (Option.some.inj hf)) dX8_rooms_13
  · have hf := o_neg c_1 hf
    refine r_iload_n hc 1 dX8_rooms_5 rfl ?_
    refine r_bipush hc (6 : Int32) dX8_rooms_6 rfl ?_
    refine r_icmp_le hc 14 dX8_rooms_8 (by decide) (fun c_2 => ?_) (fun c_2 => ?_)
    · have hf := o_pos c_2 hf
      refine r_aload_n hc 0 dX8_rooms_14 rfl ?_
      refine r_get (v := .ref ((sh A 10) 0)) hc iw_X8 0 rfl rfl 0 (by decide) mw_295 rfl dX8_rooms_15 ?_
      refine r_get (v := .int (H_rooms hn)) hc iw_X1 1 rfl rfl 0 (by decide) mw_86 rfl dX8_rooms_18 ?_
      refine r_istore_n hc [(2, .int (H_rooms hn)), (0, .ref (A 0)), (1, .int x1)] dX8_rooms_21 (by decide) rfl ?_
      refine r_aload_n hc 1 dX8_rooms_22 rfl ?_
      refine r_get (v := .ref ((sh A 10) 0)) hc iw_X8 0 rfl rfl 0 (by decide) mw_295 rfl dX8_rooms_23 ?_
      refine r_iload_n hc 2 dX8_rooms_26 rfl ?_
      obtain ⟨q27, hq27, hf⟩ := o_bind hf
      refine r_callVv (ws' := (kdo A :: (wH cy (sh A 10) q27))) (As := [.int x1]) (rest := []) hc (c_X1_clear (sh A 10) hn x1 q27 hq27) kv_X1_clear mw_288 0 rfl rfl [1, 2, 3, 4, 5, 6, 7, 8, 9, 10] [0] [0, 1, 2, 3, 4, 5, 6, 7, 8, 9, 10] ⟨rfl, rfl, rfl, rfl, rfl, rfl, rfl⟩ rfl rfl (Nat.le_of_ble_eq_true rfl) ⟨by decide, by decide⟩ dX8_rooms_27 ?_
      refine r_iload_n hc 0 dX8_rooms_30 rfl ?_
      exact r_iret hK (congrArg (fun z9 => z9.1) (Option.some.inj hf)) (congrArg (fun z9 => (kdo A :: (wH cy (sh A 10) z9.2))) (Option.some.inj hf)) dX8_rooms_31
    · have hf := o_neg c_2 hf
      refine r_bipush hc (-2 : Int32) dX8_rooms_11 rfl ?_
      exact r_iret hK (congrArg (fun z9 => z9.1) (Option.some.inj hf)) (congrArg (fun z9 => (kdo A :: (wH cy (sh A 10) z9.2))) (Option.some.inj hf)) dX8_rooms_13
def X8_room_J83 (hn : HS) (x1 : Int32) (x2 : Int32) (x3 : Int32) : Option (Int32 × HS) :=
  (chk ((x1 * (6 : Int32)) + x2) 36 (chk ((x1 * (6 : Int32)) + x2) 36 (ltA (upd (H_measure hn) (((x1 * (6 : Int32)) + x2)).toNatClampNeg x3) fun f113 => (some (((H_measure hn) (((x1 * (6 : Int32)) + x2)).toNatClampNeg), (H_set_measure hn f113))))))
def X8_room_J63 (hn : HS) (x1 : Int32) (x2 : Int32) (x3 : Int32) : Option (Int32 × HS) :=
  (if x2 = (5 : Int32) then ((f_X1_sitters hn x1).bind fun q74 => (if q74 ≤ x3 then (X8_room_J83 hn x1 x2 x3) else (some ((-3 : Int32), hn)))) else (X8_room_J83 hn x1 x2 x3))
def X8_room_J34 (hn : HS) (x1 : Int32) (x2 : Int32) (x3 : Int32) (s0 : Int32) (s1 : Int32) : Option (Int32 × HS) :=
  (if s1 < s0 then (some ((-2 : Int32), hn)) else (if x3 ≤ (9 : Int32) then (if x2 = (4 : Int32) then ((f_X1_count hn x1).bind fun q57 => (if x3 < q57 then (some ((-3 : Int32), hn)) else (X8_room_J63 hn x1 x2 x3))) else (X8_room_J63 hn x1 x2 x3)) else (some ((-2 : Int32), hn))))
def f_X8_room (hn : HS) (x1 : Int32) (x2 : Int32) (x3 : Int32) : Option (Int32 × HS) :=
  ((f_X1_isRoom hn x1).bind fun q5 => (if q5 = 0 then (some ((-1 : Int32), hn)) else (if x2 < 0 then (some ((-2 : Int32), hn)) else (if (6 : Int32) ≤ x2 then (some ((-2 : Int32), hn)) else (if x2 = (4 : Int32) then (X8_room_J34 hn x1 x2 x3 (1 : Int32) x3) else (X8_room_J34 hn x1 x2 x3 (0 : Int32) x3))))))
theorem kv_X8_room : KV RX8 yX8_room cX8_room 6 (some .int) 3 := ⟨mw_334, mw_335, mw_55, mw_336, by decide +kernel⟩
set_option maxHeartbeats 8000000 in
set_option maxRecDepth 100000 in
theorem c_X8_room {l : Launch} {E : va_G} {cy : Nat → ClassId} (A : Nat → Nat) (hn : HS) (x1 : Int32) (x2 : Int32) (x3 : Int32) (q : Int32 × HS) (hf : f_X8_room hn x1 x2 x3 = some q) : Ci l yX8_room cX8_room 6 (some .int) 4 125 E cy [.ref (A 0), .int x1, .int x2, .int x3] (kdo A :: (wH cy (sh A 10) hn)) q.1 (kdo A :: (wH cy (sh A 10) q.2)) := by
  refine Ci.of RX8 (by decide) rfl (Nat.le_of_ble_eq_true rfl) ?_
  intro K hK
  have hc := hK.cq
  have J83 : ∀ (hn : HS) (x1 : Int32) (x2 : Int32) (x3 : Int32), X8_room_J83  hn x1 x2 x3 = some q → V K (kdo A :: (wH cy (sh A 10) hn)) 83 [(0, .ref (A 0)), (1, .int x1), (2, .int x2), (3, .int x3)] [] := by
    intro hn x1 x2 x3 hf
    unfold X8_room_J83 at hf
    refine r_iload_n hc 1 dX8_room_83 rfl ?_
    refine r_bipush hc (6 : Int32) dX8_room_84 rfl ?_
    refine r_imul hc dX8_room_86 ?_
    refine r_iload_n hc 2 dX8_room_87 rfl ?_
    refine r_iadd hc dX8_room_88 ?_
    refine r_istore hc [(4, .int ((x1 * (6 : Int32)) + x2)), (0, .ref (A 0)), (1, .int x1), (2, .int x2), (3, .int x3)] dX8_room_89 (by decide) rfl ?_
    refine r_aload_n hc 1 dX8_room_91 rfl ?_
    refine r_get (v := .ref ((sh A 10) 0)) hc iw_X8 0 rfl rfl 0 (by decide) mw_295 rfl dX8_room_92 ?_
    refine r_get (v := .ref ((sh A 10) 1)) hc iw_X1 1 rfl rfl 3 (by decide) mw_94 rfl dX8_room_95 ?_
    refine r_iload hc 0 dX8_room_98 rfl ?_
    obtain ⟨i_11, hf⟩ := chk_some hf
    refine r_iald (f := (H_measure hn)) hc 2 rfl i_11 dX8_room_100 ?_
    refine r_istore hc [(5, .int ((H_measure hn) (((x1 * (6 : Int32)) + x2)).toNatClampNeg)), (4, .int ((x1 * (6 : Int32)) + x2)), (0, .ref (A 0)), (1, .int x1), (2, .int x2), (3, .int x3)] dX8_room_101 (by decide) rfl ?_
    refine r_aload_n hc 2 dX8_room_103 rfl ?_
    refine r_get (v := .ref ((sh A 10) 0)) hc iw_X8 0 rfl rfl 0 (by decide) mw_295 rfl dX8_room_104 ?_
    refine r_get (v := .ref ((sh A 10) 1)) hc iw_X1 1 rfl rfl 3 (by decide) mw_94 rfl dX8_room_107 ?_
    refine r_iload hc 1 dX8_room_110 rfl ?_
    refine r_iload_n hc 5 dX8_room_112 rfl ?_
    obtain ⟨i_12, hf⟩ := chk_some hf
    obtain ⟨f113, ef113, hf⟩ := lt_some hf
    refine r_iast (f := (H_measure hn)) hc 2 rfl i_12 dX8_room_113 f113 ef113 (kdo A :: (wH cy (sh A 10) (H_set_measure hn f113))) rfl ?_
    refine r_iload hc 0 dX8_room_114 rfl ?_
    exact r_iret hK (congrArg (fun z9 => z9.1) (Option.some.inj hf)) (congrArg (fun z9 => (kdo A :: (wH cy (sh A 10) z9.2))) (Option.some.inj hf)) dX8_room_116
  have J63 : ∀ (hn : HS) (x1 : Int32) (x2 : Int32) (x3 : Int32), X8_room_J63  hn x1 x2 x3 = some q → V K (kdo A :: (wH cy (sh A 10) hn)) 63 [(0, .ref (A 0)), (1, .int x1), (2, .int x2), (3, .int x3)] [] := by
    intro hn x1 x2 x3 hf
    unfold X8_room_J63 at hf
    refine r_iload_n hc 2 dX8_room_63 rfl ?_
    refine r_iconst hc (5 : Int32) dX8_room_64 rfl ?_
    refine r_icmp_ne hc 83 dX8_room_65 (by decide) (fun c_9 => ?_) (fun c_9 => ?_)
    · have hf := o_neg c_9 hf
      exact V.sub [0, 1, 2, 3] rfl (J83 hn x1 x2 x3 hf)
    · have hf := o_pos c_9 hf
      refine r_iload_n hc 3 dX8_room_68 rfl ?_
      refine r_aload_n hc 0 dX8_room_69 rfl ?_
      refine r_get (v := .ref ((sh A 10) 0)) hc iw_X8 0 rfl rfl 0 (by decide) mw_295 rfl dX8_room_70 ?_
      refine r_iload_n hc 1 dX8_room_73 rfl ?_
      obtain ⟨q74, hq74, hf⟩ := o_bind hf
      refine r_callVi (ws' := (kdo A :: (wH cy (sh A 10) hn))) (As := [.int x1]) (rest := [.int x3]) hc (c_X1_sitters (sh A 10) hn x1 q74 hq74) kv_X1_sitters mw_359 0 rfl rfl [1, 2, 3, 4, 5, 6, 7, 8, 9, 10] [0] [0, 1, 2, 3, 4, 5, 6, 7, 8, 9, 10] ⟨rfl, rfl, rfl, rfl, rfl, rfl, rfl⟩ rfl rfl (Nat.le_of_ble_eq_true rfl) ⟨by decide, by decide⟩ dX8_room_74 ?_
      refine r_icmp_ge hc 83 dX8_room_77 (by decide) (fun c_10 => ?_) (fun c_10 => ?_)
      · have hf := o_pos c_10 hf
        exact V.sub [0, 1, 2, 3] rfl (J83 hn x1 x2 x3 hf)
      · have hf := o_neg c_10 hf
        refine r_bipush hc (-3 : Int32) dX8_room_80 rfl ?_
        exact r_iret hK (congrArg (fun z9 => z9.1) (Option.some.inj hf)) (congrArg (fun z9 => (kdo A :: (wH cy (sh A 10) z9.2))) (Option.some.inj hf)) dX8_room_82
  have J34 : ∀ (hn : HS) (x1 : Int32) (x2 : Int32) (x3 : Int32) (s0 : Int32) (s1 : Int32), X8_room_J34  hn x1 x2 x3 s0 s1 = some q → V K (kdo A :: (wH cy (sh A 10) hn)) 34 [(0, .ref (A 0)), (1, .int x1), (2, .int x2), (3, .int x3)] [.int s0, .int s1] := by
    intro hn x1 x2 x3 s0 s1 hf
    unfold X8_room_J34 at hf
    refine r_icmp_lt hc 43 dX8_room_34 (by decide) (fun c_5 => ?_) (fun c_5 => ?_)
    · have hf := o_pos c_5 hf
      refine r_bipush hc (-2 : Int32) dX8_room_43 rfl ?_
      exact r_iret hK (congrArg (fun z9 => z9.1) (Option.some.inj hf)) (congrArg (fun z9 => (kdo A :: (wH cy (sh A 10) z9.2))) (Option.some.inj hf)) dX8_room_45
    · have hf := o_neg c_5 hf
      refine r_iload_n hc 3 dX8_room_37 rfl ?_
      refine r_bipush hc (9 : Int32) dX8_room_38 rfl ?_
      refine r_icmp_le hc 46 dX8_room_40 (by decide) (fun c_6 => ?_) (fun c_6 => ?_)
      · have hf := o_pos c_6 hf
        refine r_iload_n hc 2 dX8_room_46 rfl ?_
        refine r_iconst hc (4 : Int32) dX8_room_47 rfl ?_
        refine r_icmp_ne hc 63 dX8_room_48 (by decide) (fun c_7 => ?_) (fun c_7 => ?_)
        · have hf := o_neg c_7 hf
          exact V.sub [0, 1, 2, 3] rfl (J63 hn x1 x2 x3 hf)
        · have hf := o_pos c_7 hf
          refine r_iload_n hc 3 dX8_room_51 rfl ?_
          refine r_aload_n hc 0 dX8_room_52 rfl ?_
          refine r_get (v := .ref ((sh A 10) 0)) hc iw_X8 0 rfl rfl 0 (by decide) mw_295 rfl dX8_room_53 ?_
          refine r_iload_n hc 1 dX8_room_56 rfl ?_
          obtain ⟨q57, hq57, hf⟩ := o_bind hf
          refine r_callVi (ws' := (kdo A :: (wH cy (sh A 10) hn))) (As := [.int x1]) (rest := [.int x3]) hc (c_X1_count (sh A 10) hn x1 q57 hq57) kv_X1_count mw_341 0 rfl rfl [1, 2, 3, 4, 5, 6, 7, 8, 9, 10] [0] [0, 1, 2, 3, 4, 5, 6, 7, 8, 9, 10] ⟨rfl, rfl, rfl, rfl, rfl, rfl, rfl⟩ rfl rfl (Nat.le_of_ble_eq_true rfl) ⟨by decide, by decide⟩ dX8_room_57 ?_
          refine r_icmp_lt hc 80 dX8_room_60 (by decide) (fun c_8 => ?_) (fun c_8 => ?_)
          · have hf := o_pos c_8 hf
            refine r_bipush hc (-3 : Int32) dX8_room_80 rfl ?_
            exact r_iret hK (congrArg (fun z9 => z9.1) (Option.some.inj hf)) (congrArg (fun z9 => (kdo A :: (wH cy (sh A 10) z9.2))) (Option.some.inj hf)) dX8_room_82
          · have hf := o_neg c_8 hf
            exact V.sub [0, 1, 2, 3] rfl (J63 hn x1 x2 x3 hf)
      · have hf := o_neg c_6 hf
        refine r_bipush hc (-2 : Int32) dX8_room_43 rfl ?_
        exact r_iret hK (congrArg (fun z9 => z9.1) (Option.some.inj hf)) (congrArg (fun z9 => (kdo A :: (wH cy (sh A 10) z9.2))) (Option.some.inj hf)) dX8_room_45
  show V K (kdo A :: (wH cy (sh A 10) hn)) 0 [(0, .ref (A 0)), (1, .int x1), (2, .int x2), (3, .int x3)] []
  unfold f_X8_room at hf
  refine r_aload_n hc 0 dX8_room_0 rfl ?_
  refine r_get (v := .ref ((sh A 10) 0)) hc iw_X8 0 rfl rfl 0 (by decide) mw_295 rfl dX8_room_1 ?_
  refine r_iload_n hc 1 dX8_room_4 rfl ?_
  obtain ⟨q5, hq5, hf⟩ := o_bind hf
  refine r_callVi (ws' := (kdo A :: (wH cy (sh A 10) hn))) (As := [.int x1]) (rest := []) hc (c_X1_isRoom (sh A 10) hn x1 q5 hq5) kv_X1_isRoom mw_337 0 rfl rfl [1, 2, 3, 4, 5, 6, 7, 8, 9, 10] [0] [0, 1, 2, 3, 4, 5, 6, 7, 8, 9, 10] ⟨rfl, rfl, rfl, rfl, rfl, rfl, rfl⟩ rfl rfl (Nat.le_of_ble_eq_true rfl) ⟨by decide, by decide⟩ dX8_room_5 ?_
  refine r_if_ne hc 13 dX8_room_8 (by decide) (fun c_1 => ?_) (fun c_1 => ?_)
  · have hf := o_neg c_1 hf
    refine r_iload_n hc 2 dX8_room_13 rfl ?_
    refine r_if_lt hc 43 dX8_room_14 (by decide) (fun c_2 => ?_) (fun c_2 => ?_)
    · have hf := o_pos c_2 hf
      refine r_bipush hc (-2 : Int32) dX8_room_43 rfl ?_
      exact r_iret hK (congrArg (fun z9 => z9.1) (Option.some.inj hf)) (congrArg (fun z9 => (kdo A :: (wH cy (sh A 10) z9.2))) (Option.some.inj hf)) dX8_room_45
    · have hf := o_neg c_2 hf
      refine r_iload_n hc 2 dX8_room_17 rfl ?_
      refine r_bipush hc (6 : Int32) dX8_room_18 rfl ?_
      refine r_icmp_ge hc 43 dX8_room_20 (by decide) (fun c_3 => ?_) (fun c_3 => ?_)
      · have hf := o_pos c_3 hf
        refine r_bipush hc (-2 : Int32) dX8_room_43 rfl ?_
        exact r_iret hK (congrArg (fun z9 => z9.1) (Option.some.inj hf)) (congrArg (fun z9 => (kdo A :: (wH cy (sh A 10) z9.2))) (Option.some.inj hf)) dX8_room_45
      · have hf := o_neg c_3 hf
        refine r_iload_n hc 3 dX8_room_23 rfl ?_
        refine r_iload_n hc 2 dX8_room_24 rfl ?_
        refine r_iconst hc (4 : Int32) dX8_room_25 rfl ?_
        refine r_icmp_ne hc 33 dX8_room_26 (by decide) (fun c_4 => ?_) (fun c_4 => ?_)
        · have hf := o_neg c_4 hf
          refine r_iconst hc (0 : Int32) dX8_room_33 rfl ?_
          exact V.sub [0, 1, 2, 3] rfl (J34 hn x1 x2 x3 (0 : Int32) x3 hf)
        · have hf := o_pos c_4 hf
          refine r_iconst hc (1 : Int32) dX8_room_29 rfl ?_
          refine r_goto hc 34 dX8_room_30 (by decide) ?_
          exact V.sub [0, 1, 2, 3] rfl (J34 hn x1 x2 x3 (1 : Int32) x3 hf)
  · have hf := o_pos c_1 hf
    refine r_iconst hc (-1 : Int32) dX8_room_11 rfl ?_
    exact r_iret hK (congrArg (fun z9 => z9.1) (Option.some.inj hf)) (congrArg (fun z9 => (kdo A :: (wH cy (sh A 10) z9.2))) (Option.some.inj hf)) dX8_room_12
def X8_door_J60 (hn : HS) (x1 : Int32) (x2 : Int32) (x3 : Int32) : Option (Int32 × HS) :=
  ((f_X1_widthOf hn x1 x2).bind fun q66 => (chk ((x1 * (6 : Int32)) + x2) 36 (ltA (upd (H_width hn) (((x1 * (6 : Int32)) + x2)).toNatClampNeg x3) fun f85 => (chk ((x2 * (6 : Int32)) + x1) 36 (ltA (upd f85 (((x2 * (6 : Int32)) + x1)).toNatClampNeg x3) fun f100 => (some (q66, (H_set_width hn f100))))))))
def f_X8_door (hn : HS) (x1 : Int32) (x2 : Int32) (x3 : Int32) : Option (Int32 × HS) :=
  ((f_X1_isRoom hn x1).bind fun q5 => (if q5 = 0 then (some ((-1 : Int32), hn)) else ((f_X1_isRoom hn x2).bind fun q16 => (if q16 = 0 then (some ((-1 : Int32), hn)) else (if x1 = x2 then (some ((-1 : Int32), hn)) else (if x3 < 0 then (some ((-2 : Int32), hn)) else (if x3 ≤ (3 : Int32) then (if x3 = 0 then ((f_X1_jam hn x1 x2).bind fun q51 => (if q51 ≤ 0 then (X8_door_J60 hn x1 x2 x3) else (some ((-3 : Int32), hn)))) else (X8_door_J60 hn x1 x2 x3)) else (some ((-2 : Int32), hn)))))))))
theorem kv_X8_door : KV RX8 yX8_door cX8_door 5 (some .int) 3 := ⟨mw_364, mw_365, mw_55, mw_366, by decide +kernel⟩
set_option maxHeartbeats 8000000 in
set_option maxRecDepth 100000 in
theorem c_X8_door {l : Launch} {E : va_G} {cy : Nat → ClassId} (A : Nat → Nat) (hn : HS) (x1 : Int32) (x2 : Int32) (x3 : Int32) (q : Int32 × HS) (hf : f_X8_door hn x1 x2 x3 = some q) : Ci l yX8_door cX8_door 5 (some .int) 2 85 E cy [.ref (A 0), .int x1, .int x2, .int x3] (kdo A :: (wH cy (sh A 10) hn)) q.1 (kdo A :: (wH cy (sh A 10) q.2)) := by
  refine Ci.of RX8 (by decide) rfl (Nat.le_of_ble_eq_true rfl) ?_
  intro K hK
  have hc := hK.cq
  have J60 : ∀ (hn : HS) (x1 : Int32) (x2 : Int32) (x3 : Int32), X8_door_J60  hn x1 x2 x3 = some q → V K (kdo A :: (wH cy (sh A 10) hn)) 60 [(0, .ref (A 0)), (1, .int x1), (2, .int x2), (3, .int x3)] [] := by
    intro hn x1 x2 x3 hf
    unfold X8_door_J60 at hf
    refine r_aload_n hc 0 dX8_door_60 rfl ?_
    refine r_get (v := .ref ((sh A 10) 0)) hc iw_X8 0 rfl rfl 0 (by decide) mw_295 rfl dX8_door_61 ?_
    refine r_iload_n hc 1 dX8_door_64 rfl ?_
    refine r_iload_n hc 2 dX8_door_65 rfl ?_
    obtain ⟨q66, hq66, hf⟩ := o_bind hf
    refine r_callVi (ws' := (kdo A :: (wH cy (sh A 10) hn))) (As := [.int x1, .int x2]) (rest := []) hc (c_X1_widthOf (sh A 10) hn x1 x2 q66 hq66) kv_X1_widthOf mw_371 0 rfl rfl [1, 2, 3, 4, 5, 6, 7, 8, 9, 10] [0] [0, 1, 2, 3, 4, 5, 6, 7, 8, 9, 10] ⟨rfl, rfl, rfl, rfl, rfl, rfl, rfl⟩ rfl rfl (Nat.le_of_ble_eq_true rfl) ⟨by decide, by decide⟩ dX8_door_66 ?_
    refine r_istore hc [(4, .int q66), (0, .ref (A 0)), (1, .int x1), (2, .int x2), (3, .int x3)] dX8_door_69 (by decide) rfl ?_
    refine r_aload_n hc 1 dX8_door_71 rfl ?_
    refine r_get (v := .ref ((sh A 10) 0)) hc iw_X8 0 rfl rfl 0 (by decide) mw_295 rfl dX8_door_72 ?_
    refine r_get (v := .ref ((sh A 10) 2)) hc iw_X1 1 rfl rfl 4 (by decide) mw_98 rfl dX8_door_75 ?_
    refine r_iload_n hc 2 dX8_door_78 rfl ?_
    refine r_bipush hc (6 : Int32) dX8_door_79 rfl ?_
    refine r_imul hc dX8_door_81 ?_
    refine r_iload_n hc 3 dX8_door_82 rfl ?_
    refine r_iadd hc dX8_door_83 ?_
    refine r_iload_n hc 4 dX8_door_84 rfl ?_
    obtain ⟨i_8, hf⟩ := chk_some hf
    obtain ⟨f85, ef85, hf⟩ := lt_some hf
    refine r_iast (f := (H_width hn)) hc 3 rfl i_8 dX8_door_85 f85 ef85 (kdo A :: (wH cy (sh A 10) (H_set_width hn f85))) rfl ?_
    refine r_aload_n hc 1 dX8_door_86 rfl ?_
    refine r_get (v := .ref ((sh A 10) 0)) hc iw_X8 0 rfl rfl 0 (by decide) mw_295 rfl dX8_door_87 ?_
    refine r_get (v := .ref ((sh A 10) 2)) hc iw_X1 1 rfl rfl 4 (by decide) mw_98 rfl dX8_door_90 ?_
    refine r_iload_n hc 3 dX8_door_93 rfl ?_
    refine r_bipush hc (6 : Int32) dX8_door_94 rfl ?_
    refine r_imul hc dX8_door_96 ?_
    refine r_iload_n hc 2 dX8_door_97 rfl ?_
    refine r_iadd hc dX8_door_98 ?_
    refine r_iload_n hc 4 dX8_door_99 rfl ?_
    obtain ⟨i_9, hf⟩ := chk_some hf
    obtain ⟨f100, ef100, hf⟩ := lt_some hf
    refine r_iast (f := f85) hc 3 rfl i_9 dX8_door_100 f100 ef100 (kdo A :: (wH cy (sh A 10) (H_set_width hn f100))) rfl ?_
    refine r_iload hc 0 dX8_door_101 rfl ?_
    exact r_iret hK (congrArg (fun z9 => z9.1) (Option.some.inj hf)) (congrArg (fun z9 => (kdo A :: (wH cy (sh A 10) z9.2))) (Option.some.inj hf)) dX8_door_103
  show V K (kdo A :: (wH cy (sh A 10) hn)) 0 [(0, .ref (A 0)), (1, .int x1), (2, .int x2), (3, .int x3)] []
  unfold f_X8_door at hf
  refine r_aload_n hc 0 dX8_door_0 rfl ?_
  refine r_get (v := .ref ((sh A 10) 0)) hc iw_X8 0 rfl rfl 0 (by decide) mw_295 rfl dX8_door_1 ?_
  refine r_iload_n hc 1 dX8_door_4 rfl ?_
  obtain ⟨q5, hq5, hf⟩ := o_bind hf
  refine r_callVi (ws' := (kdo A :: (wH cy (sh A 10) hn))) (As := [.int x1]) (rest := []) hc (c_X1_isRoom (sh A 10) hn x1 q5 hq5) kv_X1_isRoom mw_337 0 rfl rfl [1, 2, 3, 4, 5, 6, 7, 8, 9, 10] [0] [0, 1, 2, 3, 4, 5, 6, 7, 8, 9, 10] ⟨rfl, rfl, rfl, rfl, rfl, rfl, rfl⟩ rfl rfl (Nat.le_of_ble_eq_true rfl) ⟨by decide, by decide⟩ dX8_door_5 ?_
  refine r_if_eq hc 27 dX8_door_8 (by decide) (fun c_1 => ?_) (fun c_1 => ?_)
  · have hf := o_pos c_1 hf
    refine r_iconst hc (-1 : Int32) dX8_door_27 rfl ?_
    exact r_iret hK (congrArg (fun z9 => z9.1) (Option.some.inj hf)) (congrArg (fun z9 => (kdo A :: (wH cy (sh A 10) z9.2))) (Option.some.inj hf)) dX8_door_28
  · have hf := o_neg c_1 hf
    refine r_aload_n hc 0 dX8_door_11 rfl ?_
    refine r_get (v := .ref ((sh A 10) 0)) hc iw_X8 0 rfl rfl 0 (by decide) mw_295 rfl dX8_door_12 ?_
    refine r_iload_n hc 2 dX8_door_15 rfl ?_
    obtain ⟨q16, hq16, hf⟩ := o_bind hf
    refine r_callVi (ws' := (kdo A :: (wH cy (sh A 10) hn))) (As := [.int x2]) (rest := []) hc (c_X1_isRoom (sh A 10) hn x2 q16 hq16) kv_X1_isRoom mw_337 0 rfl rfl [1, 2, 3, 4, 5, 6, 7, 8, 9, 10] [0] [0, 1, 2, 3, 4, 5, 6, 7, 8, 9, 10] ⟨rfl, rfl, rfl, rfl, rfl, rfl, rfl⟩ rfl rfl (Nat.le_of_ble_eq_true rfl) ⟨by decide, by decide⟩ dX8_door_16 ?_
    refine r_if_eq hc 27 dX8_door_19 (by decide) (fun c_2 => ?_) (fun c_2 => ?_)
    · have hf := o_pos c_2 hf
      refine r_iconst hc (-1 : Int32) dX8_door_27 rfl ?_
      exact r_iret hK (congrArg (fun z9 => z9.1) (Option.some.inj hf)) (congrArg (fun z9 => (kdo A :: (wH cy (sh A 10) z9.2))) (Option.some.inj hf)) dX8_door_28
    · have hf := o_neg c_2 hf
      refine r_iload_n hc 1 dX8_door_22 rfl ?_
      refine r_iload_n hc 2 dX8_door_23 rfl ?_
      refine r_icmp_ne hc 29 dX8_door_24 (by decide) (fun c_3 => ?_) (fun c_3 => ?_)
      · have hf := o_neg c_3 hf
        refine r_iload_n hc 3 dX8_door_29 rfl ?_
        refine r_if_lt hc 38 dX8_door_30 (by decide) (fun c_4 => ?_) (fun c_4 => ?_)
        · have hf := o_pos c_4 hf
          refine r_bipush hc (-2 : Int32) dX8_door_38 rfl ?_
          exact r_iret hK (congrArg (fun z9 => z9.1) (Option.some.inj hf)) (congrArg (fun z9 => (kdo A :: (wH cy (sh A 10) z9.2))) (Option.some.inj hf)) dX8_door_40
        · have hf := o_neg c_4 hf
          refine r_iload_n hc 3 dX8_door_33 rfl ?_
          refine r_iconst hc (3 : Int32) dX8_door_34 rfl ?_
          refine r_icmp_le hc 41 dX8_door_35 (by decide) (fun c_5 => ?_) (fun c_5 => ?_)
          · have hf := o_pos c_5 hf
            refine r_iload_n hc 3 dX8_door_41 rfl ?_
            refine r_if_ne hc 60 dX8_door_42 (by decide) (fun c_6 => ?_) (fun c_6 => ?_)
            · have hf := o_neg c_6 hf
              exact V.sub [0, 1, 2, 3] rfl (J60 hn x1 x2 x3 hf)
            · have hf := o_pos c_6 hf
              refine r_aload_n hc 0 dX8_door_45 rfl ?_
              refine r_get (v := .ref ((sh A 10) 0)) hc iw_X8 0 rfl rfl 0 (by decide) mw_295 rfl dX8_door_46 ?_
              refine r_iload_n hc 1 dX8_door_49 rfl ?_
              refine r_iload_n hc 2 dX8_door_50 rfl ?_
              obtain ⟨q51, hq51, hf⟩ := o_bind hf
              refine r_callVi (ws' := (kdo A :: (wH cy (sh A 10) hn))) (As := [.int x1, .int x2]) (rest := []) hc (c_X1_jam (sh A 10) hn x1 x2 q51 hq51) kv_X1_jam mw_367 0 rfl rfl [1, 2, 3, 4, 5, 6, 7, 8, 9, 10] [0] [0, 1, 2, 3, 4, 5, 6, 7, 8, 9, 10] ⟨rfl, rfl, rfl, rfl, rfl, rfl, rfl⟩ rfl rfl (Nat.le_of_ble_eq_true rfl) ⟨by decide, by decide⟩ dX8_door_51 ?_
              refine r_if_le hc 60 dX8_door_54 (by decide) (fun c_7 => ?_) (fun c_7 => ?_)
              · have hf := o_pos c_7 hf
                exact V.sub [0, 1, 2, 3] rfl (J60 hn x1 x2 x3 hf)
              · have hf := o_neg c_7 hf
                refine r_bipush hc (-3 : Int32) dX8_door_57 rfl ?_
                exact r_iret hK (congrArg (fun z9 => z9.1) (Option.some.inj hf)) (congrArg (fun z9 => (kdo A :: (wH cy (sh A 10) z9.2))) (Option.some.inj hf)) dX8_door_59
          · have hf := o_neg c_5 hf
            refine r_bipush hc (-2 : Int32) dX8_door_38 rfl ?_
            exact r_iret hK (congrArg (fun z9 => z9.1) (Option.some.inj hf)) (congrArg (fun z9 => (kdo A :: (wH cy (sh A 10) z9.2))) (Option.some.inj hf)) dX8_door_40
      · have hf := o_pos c_3 hf
        refine r_iconst hc (-1 : Int32) dX8_door_27 rfl ?_
        exact r_iret hK (congrArg (fun z9 => z9.1) (Option.some.inj hf)) (congrArg (fun z9 => (kdo A :: (wH cy (sh A 10) z9.2))) (Option.some.inj hf)) dX8_door_28
def f_X8_guest (hn : HS) (x1 : Int32) (x2 : Int32) : Option (Int32 × HS) :=
  (if x1 < 0 then (some ((-1 : Int32), hn)) else (if (8 : Int32) ≤ x1 then (some ((-1 : Int32), hn)) else ((f_X1_isRoom hn x2).bind fun q15 => (if q15 = 0 then (some ((-1 : Int32), hn)) else ((f_X1_others hn x1 x2).bind fun q29 => ((f_X1_sizeOf hn x2).bind fun q37 => (if q29 < q37 then ((f_X1_dismiss hn x1).bind fun q51 => (chk x1 8 (ltA (upd (H_place q51) (x1).toNatClampNeg x2) fun f78 => ((f_J6_bitCount_0f7a4 ((H_there q51) ||| ((1 : Int32) <<< (x1 &&& 31)))).bind fun q86 => (some (q86, (H_set_place (H_set_there q51 ((H_there q51) ||| ((1 : Int32) <<< (x1 &&& 31)))) f78))))))) else (some ((-4 : Int32), hn)))))))))
theorem kv_X8_guest : KV RX8 yX8_guest cX8_guest 3 (some .int) 2 := ⟨mw_376, mw_377, mw_55, mw_378, by decide +kernel⟩
set_option maxHeartbeats 8000000 in
set_option maxRecDepth 100000 in
theorem c_X8_guest {l : Launch} {E : va_G} {cy : Nat → ClassId} (A : Nat → Nat) (hn : HS) (x1 : Int32) (x2 : Int32) (q : Int32 × HS) (hf : f_X8_guest hn x1 x2 = some q) : Ci l yX8_guest cX8_guest 3 (some .int) 4 128 E cy [.ref (A 0), .int x1, .int x2] (kdo A :: (wH cy (sh A 10) hn)) q.1 (kdo A :: (wH cy (sh A 10) q.2)) := by
  refine Ci.of RX8 (by decide) rfl (Nat.le_of_ble_eq_true rfl) ?_
  intro K hK
  have hc := hK.cq
  show V K (kdo A :: (wH cy (sh A 10) hn)) 0 [(0, .ref (A 0)), (1, .int x1), (2, .int x2)] []
  unfold f_X8_guest at hf
  refine r_iload_n hc 1 dX8_guest_0 rfl ?_
  refine r_if_lt hc 21 dX8_guest_1 (by decide) (fun c_1 => ?_) (fun c_1 => ?_)
  · have hf := o_pos c_1 hf
    refine r_iconst hc (-1 : Int32) dX8_guest_21 rfl ?_
    exact r_iret hK (congrArg (fun z9 => z9.1) (Option.some.inj hf)) (congrArg (fun z9 => (kdo A :: (wH cy (sh A 10) z9.2))) (Option.some.inj hf)) dX8_guest_22
  · have hf := o_neg c_1 hf
    refine r_iload_n hc 1 dX8_guest_4 rfl ?_
    refine r_bipush hc (8 : Int32) dX8_guest_5 rfl ?_
    refine r_icmp_ge hc 21 dX8_guest_7 (by decide) (fun c_2 => ?_) (fun c_2 => ?_)
    · have hf := o_pos c_2 hf
      refine r_iconst hc (-1 : Int32) dX8_guest_21 rfl ?_
      exact r_iret hK (congrArg (fun z9 => z9.1) (Option.some.inj hf)) (congrArg (fun z9 => (kdo A :: (wH cy (sh A 10) z9.2))) (Option.some.inj hf)) dX8_guest_22
    · have hf := o_neg c_2 hf
      refine r_aload_n hc 0 dX8_guest_10 rfl ?_
      refine r_get (v := .ref ((sh A 10) 0)) hc iw_X8 0 rfl rfl 0 (by decide) mw_295 rfl dX8_guest_11 ?_
      refine r_iload_n hc 2 dX8_guest_14 rfl ?_
      obtain ⟨q15, hq15, hf⟩ := o_bind hf
      refine r_callVi (ws' := (kdo A :: (wH cy (sh A 10) hn))) (As := [.int x2]) (rest := []) hc (c_X1_isRoom (sh A 10) hn x2 q15 hq15) kv_X1_isRoom mw_337 0 rfl rfl [1, 2, 3, 4, 5, 6, 7, 8, 9, 10] [0] [0, 1, 2, 3, 4, 5, 6, 7, 8, 9, 10] ⟨rfl, rfl, rfl, rfl, rfl, rfl, rfl⟩ rfl rfl (Nat.le_of_ble_eq_true rfl) ⟨by decide, by decide⟩ dX8_guest_15 ?_
      refine r_if_ne hc 23 dX8_guest_18 (by decide) (fun c_3 => ?_) (fun c_3 => ?_)
      · have hf := o_neg c_3 hf
        refine r_aload_n hc 0 dX8_guest_23 rfl ?_
        refine r_get (v := .ref ((sh A 10) 0)) hc iw_X8 0 rfl rfl 0 (by decide) mw_295 rfl dX8_guest_24 ?_
        refine r_iload_n hc 1 dX8_guest_27 rfl ?_
        refine r_iload_n hc 2 dX8_guest_28 rfl ?_
        obtain ⟨q29, hq29, hf⟩ := o_bind hf
        refine r_callVi (ws' := (kdo A :: (wH cy (sh A 10) hn))) (As := [.int x1, .int x2]) (rest := []) hc (c_X1_others (sh A 10) hn x1 x2 q29 hq29) kv_X1_others mw_379 0 rfl rfl [1, 2, 3, 4, 5, 6, 7, 8, 9, 10] [0] [0, 1, 2, 3, 4, 5, 6, 7, 8, 9, 10] ⟨rfl, rfl, rfl, rfl, rfl, rfl, rfl⟩ rfl rfl (Nat.le_of_ble_eq_true rfl) ⟨by decide, by decide⟩ dX8_guest_29 ?_
        refine r_aload_n hc 0 dX8_guest_32 rfl ?_
        refine r_get (v := .ref ((sh A 10) 0)) hc iw_X8 0 rfl rfl 0 (by decide) mw_295 rfl dX8_guest_33 ?_
        refine r_iload_n hc 2 dX8_guest_36 rfl ?_
        obtain ⟨q37, hq37, hf⟩ := o_bind hf
        refine r_callVi (ws' := (kdo A :: (wH cy (sh A 10) hn))) (As := [.int x2]) (rest := [.int q29]) hc (c_X1_sizeOf (sh A 10) hn x2 q37 hq37) kv_X1_sizeOf mw_383 0 rfl rfl [1, 2, 3, 4, 5, 6, 7, 8, 9, 10] [0] [0, 1, 2, 3, 4, 5, 6, 7, 8, 9, 10] ⟨rfl, rfl, rfl, rfl, rfl, rfl, rfl⟩ rfl rfl (Nat.le_of_ble_eq_true rfl) ⟨by decide, by decide⟩ dX8_guest_37 ?_
        refine r_icmp_lt hc 46 dX8_guest_40 (by decide) (fun c_4 => ?_) (fun c_4 => ?_)
        · have hf := o_pos c_4 hf
          refine r_aload_n hc 0 dX8_guest_46 rfl ?_
          refine r_get (v := .ref ((sh A 10) 0)) hc iw_X8 0 rfl rfl 0 (by decide) mw_295 rfl dX8_guest_47 ?_
          refine r_iload_n hc 1 dX8_guest_50 rfl ?_
          obtain ⟨q51, hq51, hf⟩ := o_bind hf
          refine r_callVv (ws' := (kdo A :: (wH cy (sh A 10) q51))) (As := [.int x1]) (rest := []) hc (c_X1_dismiss (sh A 10) hn x1 q51 hq51) kv_X1_dismiss mw_387 0 rfl rfl [1, 2, 3, 4, 5, 6, 7, 8, 9, 10] [0] [0, 1, 2, 3, 4, 5, 6, 7, 8, 9, 10] ⟨rfl, rfl, rfl, rfl, rfl, rfl, rfl⟩ rfl rfl (Nat.le_of_ble_eq_true rfl) ⟨by decide, by decide⟩ dX8_guest_51 ?_
          refine r_aload_n hc 0 dX8_guest_54 rfl ?_
          refine r_get (v := .ref ((sh A 10) 0)) hc iw_X8 0 rfl rfl 0 (by decide) mw_295 rfl dX8_guest_55 ?_
          refine r_dup hc dX8_guest_58 rfl ?_
          refine r_get (v := .int (H_there q51)) hc iw_X1 1 rfl rfl 1 (by decide) mw_90 rfl dX8_guest_59 ?_
          refine r_iconst hc (1 : Int32) dX8_guest_62 rfl ?_
          refine r_iload_n hc 1 dX8_guest_63 rfl ?_
          refine r_ishl hc dX8_guest_64 ?_
          refine r_ior hc dX8_guest_65 ?_
          refine r_put hc iw_X1 tyX1 tyX1_ok nmX1 1 rfl rfl 1 (by decide) mw_90 rfl rfl rfl (Nat.le_of_ble_eq_true rfl) dX8_guest_66 (kdo A :: (wH cy (sh A 10) (H_set_there q51 ((H_there q51) ||| ((1 : Int32) <<< (x1 &&& 31)))))) rfl ?_
          refine r_aload_n hc 0 dX8_guest_69 rfl ?_
          refine r_get (v := .ref ((sh A 10) 0)) hc iw_X8 0 rfl rfl 0 (by decide) mw_295 rfl dX8_guest_70 ?_
          refine r_get (v := .ref ((sh A 10) 3)) hc iw_X1 1 rfl rfl 5 (by decide) mw_102 rfl dX8_guest_73 ?_
          refine r_iload_n hc 1 dX8_guest_76 rfl ?_
          refine r_iload_n hc 2 dX8_guest_77 rfl ?_
          obtain ⟨i_5, hf⟩ := chk_some hf
          obtain ⟨f78, ef78, hf⟩ := lt_some hf
          refine r_iast (f := (H_place q51)) hc 4 rfl i_5 dX8_guest_78 f78 ef78 (kdo A :: (wH cy (sh A 10) (H_set_place (H_set_there q51 ((H_there q51) ||| ((1 : Int32) <<< (x1 &&& 31)))) f78))) rfl ?_
          refine r_aload_n hc 0 dX8_guest_79 rfl ?_
          refine r_get (v := .ref ((sh A 10) 0)) hc iw_X8 0 rfl rfl 0 (by decide) mw_295 rfl dX8_guest_80 ?_
          refine r_get (v := .int ((H_there q51) ||| ((1 : Int32) <<< (x1 &&& 31)))) hc iw_X1 1 rfl rfl 1 (by decide) mw_90 rfl dX8_guest_83 ?_
          obtain ⟨q86, hq86, hf⟩ := o_bind hf
          refine r_callSi (ws' := (kdo A :: (wH cy (sh A 10) (H_set_place (H_set_there q51 ((H_there q51) ||| ((1 : Int32) <<< (x1 &&& 31)))) f78)))) (As := [.int ((H_there q51) ||| ((1 : Int32) <<< (x1 &&& 31)))]) (rest := []) hc (c_J6_bitCount_0f7a4  ((H_there q51) ||| ((1 : Int32) <<< (x1 &&& 31))) q86 hq86) ks_J6_bitCount_0f7a4 mw_399 _ _ _ (Sp_none _) rfl rfl (Nat.le_of_ble_eq_true rfl) ⟨by decide, by decide⟩ dX8_guest_86 ?_
          exact r_iret hK (congrArg (fun z9 => z9.1) (Option.some.inj hf)) (congrArg (fun z9 => (kdo A :: (wH cy (sh A 10) z9.2))) (Option.some.inj hf)) dX8_guest_89
        · have hf := o_neg c_4 hf
          refine r_bipush hc (-4 : Int32) dX8_guest_43 rfl ?_
          exact r_iret hK (congrArg (fun z9 => z9.1) (Option.some.inj hf)) (congrArg (fun z9 => (kdo A :: (wH cy (sh A 10) z9.2))) (Option.some.inj hf)) dX8_guest_45
      · have hf := o_pos c_3 hf
        refine r_iconst hc (-1 : Int32) dX8_guest_21 rfl ?_
        exact r_iret hK (congrArg (fun z9 => z9.1) (Option.some.inj hf)) (congrArg (fun z9 => (kdo A :: (wH cy (sh A 10) z9.2))) (Option.some.inj hf)) dX8_guest_22
def f_X8_likes (hn : HS) (x1 : Int32) (x2 : Int32) (x3 : Int32) : Option (Int32 × HS) :=
  ((f_X1_isThere hn x1).bind fun q5 => (if q5 = 0 then (some ((-1 : Int32), hn)) else (if x2 < 0 then (some ((-2 : Int32), hn)) else (if (5 : Int32) ≤ x2 then (some ((-2 : Int32), hn)) else (if x3 < (-3 : Int32) then (some ((-2 : Int32), hn)) else (if x3 ≤ (3 : Int32) then (chk ((x1 * (5 : Int32)) + x2) 40 (chk ((x1 * (5 : Int32)) + x2) 40 (ltA (upd (H_likes hn) (((x1 * (5 : Int32)) + x2)).toNatClampNeg x3) fun f65 => (some ((((H_likes hn) (((x1 * (5 : Int32)) + x2)).toNatClampNeg) + (10 : Int32)), (H_set_likes hn f65)))))) else (some ((-2 : Int32), hn))))))))
theorem kv_X8_likes : KV RX8 yX8_likes cX8_likes 6 (some .int) 3 := ⟨mw_401, mw_402, mw_55, mw_403, by decide +kernel⟩
set_option maxHeartbeats 8000000 in
set_option maxRecDepth 100000 in
theorem c_X8_likes {l : Launch} {E : va_G} {cy : Nat → ClassId} (A : Nat → Nat) (hn : HS) (x1 : Int32) (x2 : Int32) (x3 : Int32) (q : Int32 × HS) (hf : f_X8_likes hn x1 x2 x3 = some q) : Ci l yX8_likes cX8_likes 6 (some .int) 2 81 E cy [.ref (A 0), .int x1, .int x2, .int x3] (kdo A :: (wH cy (sh A 10) hn)) q.1 (kdo A :: (wH cy (sh A 10) q.2)) := by
  refine Ci.of RX8 (by decide) rfl (Nat.le_of_ble_eq_true rfl) ?_
  intro K hK
  have hc := hK.cq
  show V K (kdo A :: (wH cy (sh A 10) hn)) 0 [(0, .ref (A 0)), (1, .int x1), (2, .int x2), (3, .int x3)] []
  unfold f_X8_likes at hf
  refine r_aload_n hc 0 dX8_likes_0 rfl ?_
  refine r_get (v := .ref ((sh A 10) 0)) hc iw_X8 0 rfl rfl 0 (by decide) mw_295 rfl dX8_likes_1 ?_
  refine r_iload_n hc 1 dX8_likes_4 rfl ?_
  obtain ⟨q5, hq5, hf⟩ := o_bind hf
  refine r_callVi (ws' := (kdo A :: (wH cy (sh A 10) hn))) (As := [.int x1]) (rest := []) hc (c_X1_isThere (sh A 10) hn x1 q5 hq5) kv_X1_isThere mw_404 0 rfl rfl [1, 2, 3, 4, 5, 6, 7, 8, 9, 10] [0] [0, 1, 2, 3, 4, 5, 6, 7, 8, 9, 10] ⟨rfl, rfl, rfl, rfl, rfl, rfl, rfl⟩ rfl rfl (Nat.le_of_ble_eq_true rfl) ⟨by decide, by decide⟩ dX8_likes_5 ?_
  refine r_if_ne hc 13 dX8_likes_8 (by decide) (fun c_1 => ?_) (fun c_1 => ?_)
  · have hf := o_neg c_1 hf
    refine r_iload_n hc 2 dX8_likes_13 rfl ?_
    refine r_if_lt hc 33 dX8_likes_14 (by decide) (fun c_2 => ?_) (fun c_2 => ?_)
    · have hf := o_pos c_2 hf
      refine r_bipush hc (-2 : Int32) dX8_likes_33 rfl ?_
      exact r_iret hK (congrArg (fun z9 => z9.1) (Option.some.inj hf)) (congrArg (fun z9 => (kdo A :: (wH cy (sh A 10) z9.2))) (Option.some.inj hf)) dX8_likes_35
    · have hf := o_neg c_2 hf
      refine r_iload_n hc 2 dX8_likes_17 rfl ?_
      refine r_iconst hc (5 : Int32) dX8_likes_18 rfl ?_
      refine r_icmp_ge hc 33 dX8_likes_19 (by decide) (fun c_3 => ?_) (fun c_3 => ?_)
      · have hf := o_pos c_3 hf
        refine r_bipush hc (-2 : Int32) dX8_likes_33 rfl ?_
        exact r_iret hK (congrArg (fun z9 => z9.1) (Option.some.inj hf)) (congrArg (fun z9 => (kdo A :: (wH cy (sh A 10) z9.2))) (Option.some.inj hf)) dX8_likes_35
      · have hf := o_neg c_3 hf
        refine r_iload_n hc 3 dX8_likes_22 rfl ?_
        refine r_bipush hc (-3 : Int32) dX8_likes_23 rfl ?_
        refine r_icmp_lt hc 33 dX8_likes_25 (by decide) (fun c_4 => ?_) (fun c_4 => ?_)
        · have hf := o_pos c_4 hf
          refine r_bipush hc (-2 : Int32) dX8_likes_33 rfl ?_
          exact r_iret hK (congrArg (fun z9 => z9.1) (Option.some.inj hf)) (congrArg (fun z9 => (kdo A :: (wH cy (sh A 10) z9.2))) (Option.some.inj hf)) dX8_likes_35
        · have hf := o_neg c_4 hf
          refine r_iload_n hc 3 dX8_likes_28 rfl ?_
          refine r_iconst hc (3 : Int32) dX8_likes_29 rfl ?_
          refine r_icmp_le hc 36 dX8_likes_30 (by decide) (fun c_5 => ?_) (fun c_5 => ?_)
          · have hf := o_pos c_5 hf
            refine r_iload_n hc 1 dX8_likes_36 rfl ?_
            refine r_iconst hc (5 : Int32) dX8_likes_37 rfl ?_
            refine r_imul hc dX8_likes_38 ?_
            refine r_iload_n hc 2 dX8_likes_39 rfl ?_
            refine r_iadd hc dX8_likes_40 ?_
            refine r_istore hc [(4, .int ((x1 * (5 : Int32)) + x2)), (0, .ref (A 0)), (1, .int x1), (2, .int x2), (3, .int x3)] dX8_likes_41 (by decide) rfl ?_
            refine r_aload_n hc 1 dX8_likes_43 rfl ?_
            refine r_get (v := .ref ((sh A 10) 0)) hc iw_X8 0 rfl rfl 0 (by decide) mw_295 rfl dX8_likes_44 ?_
            refine r_get (v := .ref ((sh A 10) 7)) hc iw_X1 1 rfl rfl 9 (by decide) mw_111 rfl dX8_likes_47 ?_
            refine r_iload hc 0 dX8_likes_50 rfl ?_
            obtain ⟨i_6, hf⟩ := chk_some hf
            refine r_iald (f := (H_likes hn)) hc 8 rfl i_6 dX8_likes_52 ?_
            refine r_istore hc [(5, .int ((H_likes hn) (((x1 * (5 : Int32)) + x2)).toNatClampNeg)), (4, .int ((x1 * (5 : Int32)) + x2)), (0, .ref (A 0)), (1, .int x1), (2, .int x2), (3, .int x3)] dX8_likes_53 (by decide) rfl ?_
            refine r_aload_n hc 2 dX8_likes_55 rfl ?_
            refine r_get (v := .ref ((sh A 10) 0)) hc iw_X8 0 rfl rfl 0 (by decide) mw_295 rfl dX8_likes_56 ?_
            refine r_get (v := .ref ((sh A 10) 7)) hc iw_X1 1 rfl rfl 9 (by decide) mw_111 rfl dX8_likes_59 ?_
            refine r_iload hc 1 dX8_likes_62 rfl ?_
            refine r_iload_n hc 5 dX8_likes_64 rfl ?_
            obtain ⟨i_7, hf⟩ := chk_some hf
            obtain ⟨f65, ef65, hf⟩ := lt_some hf
            refine r_iast (f := (H_likes hn)) hc 8 rfl i_7 dX8_likes_65 f65 ef65 (kdo A :: (wH cy (sh A 10) (H_set_likes hn f65))) rfl ?_
            refine r_iload hc 0 dX8_likes_66 rfl ?_
            refine r_bipush hc (10 : Int32) dX8_likes_68 rfl ?_
            refine r_iadd hc dX8_likes_70 ?_
            exact r_iret hK (congrArg (fun z9 => z9.1) (Option.some.inj hf)) (congrArg (fun z9 => (kdo A :: (wH cy (sh A 10) z9.2))) (Option.some.inj hf)) dX8_likes_71
          · have hf := o_neg c_5 hf
            refine r_bipush hc (-2 : Int32) dX8_likes_33 rfl ?_
            exact r_iret hK (congrArg (fun z9 => z9.1) (Option.some.inj hf)) (congrArg (fun z9 => (kdo A :: (wH cy (sh A 10) z9.2))) (Option.some.inj hf)) dX8_likes_35
  · have hf := o_pos c_1 hf
    refine r_iconst hc (-1 : Int32) dX8_likes_11 rfl ?_
    exact r_iret hK (congrArg (fun z9 => z9.1) (Option.some.inj hf)) (congrArg (fun z9 => (kdo A :: (wH cy (sh A 10) z9.2))) (Option.some.inj hf)) dX8_likes_12
def f_X8_leave (hn : HS) (x1 : Int32) : Option (Int32 × HS) :=
  ((f_X1_isThere hn x1).bind fun q5 => (if q5 = 0 then (some ((-1 : Int32), hn)) else ((f_X1_dismiss hn x1).bind fun q18 => ((f_J6_bitCount_0f7a4 (H_there q18)).bind fun q28 => (some (q28, q18))))))
theorem kv_X8_leave : KV RX8 yX8_leave cX8_leave 2 (some .int) 1 := ⟨mw_406, mw_407, mw_55, mw_408, by decide +kernel⟩
set_option maxHeartbeats 8000000 in
set_option maxRecDepth 100000 in
theorem c_X8_leave {l : Launch} {E : va_G} {cy : Nat → ClassId} (A : Nat → Nat) (hn : HS) (x1 : Int32) (q : Int32 × HS) (hf : f_X8_leave hn x1 = some q) : Ci l yX8_leave cX8_leave 2 (some .int) 4 128 E cy [.ref (A 0), .int x1] (kdo A :: (wH cy (sh A 10) hn)) q.1 (kdo A :: (wH cy (sh A 10) q.2)) := by
  refine Ci.of RX8 (by decide) rfl (Nat.le_of_ble_eq_true rfl) ?_
  intro K hK
  have hc := hK.cq
  show V K (kdo A :: (wH cy (sh A 10) hn)) 0 [(0, .ref (A 0)), (1, .int x1)] []
  unfold f_X8_leave at hf
  refine r_aload_n hc 0 dX8_leave_0 rfl ?_
  refine r_get (v := .ref ((sh A 10) 0)) hc iw_X8 0 rfl rfl 0 (by decide) mw_295 rfl dX8_leave_1 ?_
  refine r_iload_n hc 1 dX8_leave_4 rfl ?_
  obtain ⟨q5, hq5, hf⟩ := o_bind hf
  refine r_callVi (ws' := (kdo A :: (wH cy (sh A 10) hn))) (As := [.int x1]) (rest := []) hc (c_X1_isThere (sh A 10) hn x1 q5 hq5) kv_X1_isThere mw_404 0 rfl rfl [1, 2, 3, 4, 5, 6, 7, 8, 9, 10] [0] [0, 1, 2, 3, 4, 5, 6, 7, 8, 9, 10] ⟨rfl, rfl, rfl, rfl, rfl, rfl, rfl⟩ rfl rfl (Nat.le_of_ble_eq_true rfl) ⟨by decide, by decide⟩ dX8_leave_5 ?_
  refine r_if_ne hc 13 dX8_leave_8 (by decide) (fun c_1 => ?_) (fun c_1 => ?_)
  · have hf := o_neg c_1 hf
    refine r_aload_n hc 0 dX8_leave_13 rfl ?_
    refine r_get (v := .ref ((sh A 10) 0)) hc iw_X8 0 rfl rfl 0 (by decide) mw_295 rfl dX8_leave_14 ?_
    refine r_iload_n hc 1 dX8_leave_17 rfl ?_
    obtain ⟨q18, hq18, hf⟩ := o_bind hf
    refine r_callVv (ws' := (kdo A :: (wH cy (sh A 10) q18))) (As := [.int x1]) (rest := []) hc (c_X1_dismiss (sh A 10) hn x1 q18 hq18) kv_X1_dismiss mw_387 0 rfl rfl [1, 2, 3, 4, 5, 6, 7, 8, 9, 10] [0] [0, 1, 2, 3, 4, 5, 6, 7, 8, 9, 10] ⟨rfl, rfl, rfl, rfl, rfl, rfl, rfl⟩ rfl rfl (Nat.le_of_ble_eq_true rfl) ⟨by decide, by decide⟩ dX8_leave_18 ?_
    refine r_aload_n hc 0 dX8_leave_21 rfl ?_
    refine r_get (v := .ref ((sh A 10) 0)) hc iw_X8 0 rfl rfl 0 (by decide) mw_295 rfl dX8_leave_22 ?_
    refine r_get (v := .int (H_there q18)) hc iw_X1 1 rfl rfl 1 (by decide) mw_90 rfl dX8_leave_25 ?_
    obtain ⟨q28, hq28, hf⟩ := o_bind hf
    refine r_callSi (ws' := (kdo A :: (wH cy (sh A 10) q18))) (As := [.int (H_there q18)]) (rest := []) hc (c_J6_bitCount_0f7a4  (H_there q18) q28 hq28) ks_J6_bitCount_0f7a4 mw_399 _ _ _ (Sp_none _) rfl rfl (Nat.le_of_ble_eq_true rfl) ⟨by decide, by decide⟩ dX8_leave_28 ?_
    exact r_iret hK (congrArg (fun z9 => z9.1) (Option.some.inj hf)) (congrArg (fun z9 => (kdo A :: (wH cy (sh A 10) z9.2))) (Option.some.inj hf)) dX8_leave_31
  · have hf := o_pos c_1 hf
    refine r_iconst hc (-1 : Int32) dX8_leave_11 rfl ?_
    exact r_iret hK (congrArg (fun z9 => z9.1) (Option.some.inj hf)) (congrArg (fun z9 => (kdo A :: (wH cy (sh A 10) z9.2))) (Option.some.inj hf)) dX8_leave_12
def f_X8_say (pd : PS) (x1 : Int32) : Option (Int32 × PS) :=
  (if x1 < (33 : Int32) then (some ((-2 : Int32), pd)) else (if x1 ≤ (126 : Int32) then ((f_X2_add pd x1).bind fun q20 => (if q20.1 = 0 then (some ((-4 : Int32), q20.2)) else (some ((P_used q20.2), q20.2)))) else (some ((-2 : Int32), pd))))
theorem kv_X8_say : KV RX8 yX8_say cX8_say 2 (some .int) 1 := ⟨mw_410, mw_411, mw_55, mw_412, by decide +kernel⟩
set_option maxHeartbeats 8000000 in
set_option maxRecDepth 100000 in
theorem c_X8_say {l : Launch} {E : va_G} {cy : Nat → ClassId} (A : Nat → Nat) (pd : PS) (x1 : Int32) (q : Int32 × PS) (hf : f_X8_say pd x1 = some q) : Ci l yX8_say cX8_say 2 (some .int) 2 81 E cy [.ref (A 0), .int x1] (kdo A :: (wP cy (sh A 40) pd)) q.1 (kdo A :: (wP cy (sh A 40) q.2)) := by
  refine Ci.of RX8 (by decide) rfl (Nat.le_of_ble_eq_true rfl) ?_
  intro K hK
  have hc := hK.cq
  show V K (kdo A :: (wP cy (sh A 40) pd)) 0 [(0, .ref (A 0)), (1, .int x1)] []
  unfold f_X8_say at hf
  refine r_iload_n hc 1 dX8_say_0 rfl ?_
  refine r_bipush hc (33 : Int32) dX8_say_1 rfl ?_
  refine r_icmp_lt hc 12 dX8_say_3 (by decide) (fun c_1 => ?_) (fun c_1 => ?_)
  · have hf := o_pos c_1 hf
    refine r_bipush hc (-2 : Int32) dX8_say_12 rfl ?_
    exact r_iret hK (congrArg (fun z9 => z9.1) (Option.some.inj hf)) (congrArg (fun z9 => (kdo A :: (wP cy (sh A 40) z9.2))) (Option.some.inj hf)) dX8_say_14
  · have hf := o_neg c_1 hf
    refine r_iload_n hc 1 dX8_say_6 rfl ?_
    refine r_bipush hc (126 : Int32) dX8_say_7 rfl ?_
    refine r_icmp_le hc 15 dX8_say_9 (by decide) (fun c_2 => ?_) (fun c_2 => ?_)
    · have hf := o_pos c_2 hf
      refine r_aload_n hc 0 dX8_say_15 rfl ?_
      refine r_get (v := .ref ((sh A 40) 0)) hc iw_X8 0 rfl rfl 3 (by decide) mw_298 rfl dX8_say_16 ?_
      refine r_iload_n hc 1 dX8_say_19 rfl ?_
      obtain ⟨q20, hq20, hf⟩ := o_bind hf
      refine r_callVi (ws' := (kdo A :: (wP cy (sh A 40) q20.2))) (As := [.int x1]) (rest := []) hc (c_X2_add (sh A 40) pd x1 q20 hq20) kv_X2_add mw_413 0 rfl rfl [1, 2] [0] [0, 1, 2] ⟨rfl, rfl, rfl, rfl, rfl, rfl, rfl⟩ rfl rfl (Nat.le_of_ble_eq_true rfl) ⟨by decide, by decide⟩ dX8_say_20 ?_
      refine r_if_eq hc 36 dX8_say_23 (by decide) (fun c_3 => ?_) (fun c_3 => ?_)
      · have hf := o_pos c_3 hf
        refine r_bipush hc (-4 : Int32) dX8_say_36 rfl ?_
        exact r_iret hK (congrArg (fun z9 => z9.1) (Option.some.inj hf)) (congrArg (fun z9 => (kdo A :: (wP cy (sh A 40) z9.2))) (Option.some.inj hf)) dX8_say_38
      · have hf := o_neg c_3 hf
        refine r_aload_n hc 0 dX8_say_26 rfl ?_
        refine r_get (v := .ref ((sh A 40) 0)) hc iw_X8 0 rfl rfl 3 (by decide) mw_298 rfl dX8_say_27 ?_
        refine r_get (v := .int (P_used q20.2)) hc iw_X2 1 rfl rfl 0 (by decide) mw_152 rfl dX8_say_30 ?_
        refine r_goto hc 38 dX8_say_33 (by decide) ?_
        exact r_iret hK (congrArg (fun z9 => z9.1) (Option.some.inj hf)) (congrArg (fun z9 => (kdo A :: (wP cy (sh A 40) z9.2))) (Option.some.inj hf)) dX8_say_38
    · have hf := o_neg c_2 hf
      refine r_bipush hc (-2 : Int32) dX8_say_12 rfl ?_
      exact r_iret hK (congrArg (fun z9 => z9.1) (Option.some.inj hf)) (congrArg (fun z9 => (kdo A :: (wP cy (sh A 40) z9.2))) (Option.some.inj hf)) dX8_say_14
def f_X8_wipe (pd : PS) : Option (Int32 × PS) :=
  (some ((P_used pd), (P_set_used pd (0 : Int32))))
theorem kv_X8_wipe : KV RX8 yX8_wipe cX8_wipe 2 (some .int) 0 := ⟨mw_418, mw_419, mw_55, mw_420, by decide +kernel⟩
set_option maxHeartbeats 8000000 in
set_option maxRecDepth 100000 in
theorem c_X8_wipe {l : Launch} {E : va_G} {cy : Nat → ClassId} (A : Nat → Nat) (pd : PS) (q : Int32 × PS) (hf : f_X8_wipe pd = some q) : Ci l yX8_wipe cX8_wipe 2 (some .int) 1 60 E cy [.ref (A 0)] (kdo A :: (wP cy (sh A 40) pd)) q.1 (kdo A :: (wP cy (sh A 40) q.2)) := by
  refine Ci.of RX8 (by decide) rfl (Nat.le_of_ble_eq_true rfl) ?_
  intro K hK
  have hc := hK.cq
  show V K (kdo A :: (wP cy (sh A 40) pd)) 0 [(0, .ref (A 0))] []
  unfold f_X8_wipe at hf
  refine r_aload_n hc 0 dX8_wipe_0 rfl ?_
  refine r_get (v := .ref ((sh A 40) 0)) hc iw_X8 0 rfl rfl 3 (by decide) mw_298 rfl dX8_wipe_1 ?_
  refine r_get (v := .int (P_used pd)) hc iw_X2 1 rfl rfl 0 (by decide) mw_152 rfl dX8_wipe_4 ?_
  refine r_istore_n hc [(1, .int (P_used pd)), (0, .ref (A 0))] dX8_wipe_7 (by decide) rfl ?_
  refine r_aload_n hc 1 dX8_wipe_8 rfl ?_
  refine r_get (v := .ref ((sh A 40) 0)) hc iw_X8 0 rfl rfl 3 (by decide) mw_298 rfl dX8_wipe_9 ?_
  refine r_iconst hc (0 : Int32) dX8_wipe_12 rfl ?_
  refine r_put hc iw_X2 tyX2 tyX2_ok nmX2 1 rfl rfl 0 (by decide) mw_152 rfl rfl rfl (Nat.le_of_ble_eq_true rfl) dX8_wipe_13 (kdo A :: (wP cy (sh A 40) (P_set_used pd (0 : Int32)))) rfl ?_
  refine r_iload_n hc 0 dX8_wipe_16 rfl ?_
  exact r_iret hK (congrArg (fun z9 => z9.1) (Option.some.inj hf)) (congrArg (fun z9 => (kdo A :: (wP cy (sh A 40) z9.2))) (Option.some.inj hf)) dX8_wipe_17
def f_X8_fault (hn : HS) (pd : PS) : Option (Int32) :=
  ((f_X2_flaw pd (H_rooms hn)).bind fun q11 => (some (q11)))
theorem kv_X8_fault : KV RX8 yX8_fault cX8_fault 1 (some .int) 0 := ⟨mw_422, mw_423, mw_55, mw_424, by decide +kernel⟩
set_option maxHeartbeats 8000000 in
set_option maxRecDepth 100000 in
theorem c_X8_fault {l : Launch} {E : va_G} {cy : Nat → ClassId} (A : Nat → Nat) (hn : HS) (pd : PS) (q : Int32) (hf : f_X8_fault hn pd = some q) : Ci l yX8_fault cX8_fault 1 (some .int) 5 150 E cy [.ref (A 0)] (kdo A :: (wH cy (sh A 10) hn ++ wP cy (sh A 40) pd)) q (kdo A :: (wH cy (sh A 10) hn ++ wP cy (sh A 40) pd)) := by
  refine Ci.of RX8 (by decide) rfl (Nat.le_of_ble_eq_true rfl) ?_
  intro K hK
  have hc := hK.cq
  show V K (kdo A :: (wH cy (sh A 10) hn ++ wP cy (sh A 40) pd)) 0 [(0, .ref (A 0))] []
  unfold f_X8_fault at hf
  refine r_aload_n hc 0 dX8_fault_0 rfl ?_
  refine r_get (v := .ref ((sh A 40) 0)) hc iw_X8 0 rfl rfl 3 (by decide) mw_298 rfl dX8_fault_1 ?_
  refine r_aload_n hc 0 dX8_fault_4 rfl ?_
  refine r_get (v := .ref ((sh A 10) 0)) hc iw_X8 0 rfl rfl 0 (by decide) mw_295 rfl dX8_fault_5 ?_
  refine r_get (v := .int (H_rooms hn)) hc iw_X1 1 rfl rfl 0 (by decide) mw_86 rfl dX8_fault_8 ?_
  obtain ⟨q11, hq11, hf⟩ := o_bind hf
  refine r_callVi (ws' := (kdo A :: (wH cy (sh A 10) hn ++ wP cy (sh A 40) pd))) (As := [.int (H_rooms hn)]) (rest := []) hc (c_X2_flaw (sh A 40) pd (H_rooms hn) q11 hq11) kv_X2_flaw mw_425 0 rfl rfl [11, 12] [0, 1, 2, 3, 4, 5, 6, 7, 8, 9, 10] [0, 1, 2, 3, 4, 5, 6, 7, 8, 9, 10, 11, 12] ⟨rfl, rfl, rfl, rfl, rfl, rfl, rfl⟩ rfl rfl (Nat.le_of_ble_eq_true rfl) ⟨by decide, by decide⟩ dX8_fault_11 ?_
  exact r_iret hK (Option.some.inj hf) rfl dX8_fault_14
