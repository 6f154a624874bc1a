def X6_spread_J143 (k95 : SS → HS → Int32 → Int32 → Int32 → Int32 → Option (SS)) (sg : SS) (h : HS) (x2 : Int32) (x3 : Int32) (x4 : Int32) (x5 : Int32) : Option (SS) :=
  (k95 sg h x2 x3 x4 (x5 + (1 : Int32)))
def X6_spread_B95 (k95 : SS → HS → Int32 → Int32 → Int32 → Int32 → Option (SS)) (sg : SS) (h : HS) (x2 : Int32) (x3 : Int32) (x4 : Int32) (x5 : Int32) : Option (SS) :=
  (if (H_rooms h) ≤ x5 then (some (sg)) else ((f_X1_widthOf h x2 x5).bind fun q108 => (if q108 ≤ 0 then (X6_spread_J143 k95 sg h x2 x3 x4 x5) else (chk x5 6 (chk x2 6 (nz x4 (chk x5 6 (ltA (vp_updL (S_next sg) (x5).toNatClampNeg (((S_next sg) (x5).toNatClampNeg) + ((((S_chance sg) (x2).toNatClampNeg) * (((60 : Int32) / x4)).toInt64) * (((10 : Int32) - x3)).toInt64))) fun f142 => (X6_spread_J143 k95 (S_set_next sg f142) h x2 x3 x4 x5)))))))))
def X6_spread_J32 (k6 : SS → HS → Int32 → Int32 → Int32 → Int32 → Option (SS)) (sg : SS) (h : HS) (x2 : Int32) (x3 : Int32) (x5 : Int32) (s0 : Int32) (s1 : Int32) : Option (SS) :=
  (k6 sg h x2 x3 (s1 + s0) (x5 + (1 : Int32)))
def X6_spread_B6 (k6 : SS → HS → Int32 → Int32 → Int32 → Int32 → Option (SS)) (sg : SS) (h : HS) (x2 : Int32) (x3 : Int32) (x4 : Int32) (x5 : Int32) : Option (SS) :=
  (if (H_rooms h) ≤ x5 then (if x4 = 0 then (chk x2 6 (chk x2 6 (chk x2 6 (ltA (vp_updL (S_next sg) (x2).toNatClampNeg (((S_next sg) (x2).toNatClampNeg) + ((((S_chance sg) (x2).toNatClampNeg) * (60 : Int64)) * (10 : Int64)))) fun f68 => (some ((S_set_next sg f68))))))) else (chk x2 6 (chk x2 6 (chk x2 6 (ltA (vp_updL (S_next sg) (x2).toNatClampNeg (((S_next sg) (x2).toNatClampNeg) + ((((S_chance sg) (x2).toNatClampNeg) * (60 : Int64)) * (x3).toInt64))) fun f91 => (it X6_spread_B95 (fun _ _ _ _ _ _ => none) FU (S_set_next sg f91) h x2 x3 x4 (0 : Int32))))))) else ((f_X1_widthOf h x2 x5).bind fun q21 => (if q21 ≤ 0 then (X6_spread_J32 k6 sg h x2 x3 x5 (0 : Int32) x4) else (X6_spread_J32 k6 sg h x2 x3 x5 (1 : Int32) x4))))
def f_X6_spread (sg : SS) (h : HS) (x2 : Int32) (x3 : Int32) : Option (SS) :=
  (it X6_spread_B6 (fun _ _ _ _ _ _ => none) FU sg h x2 x3 (0 : Int32) (0 : Int32))
theorem kv_X6_spread : KV RX6 yX6_spread cX6_spread 6 none 3 := ⟨mw_800, mw_19, mw_62, mw_801, by decide +kernel⟩
set_option maxHeartbeats 8000000 in
set_option maxRecDepth 100000 in
theorem c_X6_spread {l : Launch} {E : va_G} {cy : Nat → ClassId} (A : Nat → Nat) (B1 : Nat → Nat) (sg : SS) (h : HS) (x2 : Int32) (x3 : Int32) (q : SS) (hf : f_X6_spread sg h x2 x3 = some q) : Cv l yX6_spread cX6_spread 6 none 2 82 E cy [.ref (A 0), .ref (B1 0), .int x2, .int x3] (wS cy A sg ++ wH cy B1 h) (wS cy A q ++ wH cy B1 h) := by
  refine Cv.of RX6 (by decide) rfl (Nat.le_of_ble_eq_true rfl) ?_
  intro K hK
  have hc := hK.cq
  have L95 : ∀ (n95 : Nat) (sg : SS) (x2 : Int32) (x3 : Int32) (x4 : Int32) (x5 : Int32), it X6_spread_B95 (fun _ _ _ _ _ _ => none) n95 sg h x2 x3 x4 x5 = some q → V K (wS cy A sg ++ wH cy B1 h) 95 [(0, .ref (A 0)), (1, .ref (B1 0)), (2, .int x2), (3, .int x3), (4, .int x4), (5, .int x5)] [] := by
    intro n95
    induction n95 with
    | zero => intro sg x2 x3 x4 x5 hf; exact (o_none hf).elim
    | succ n95 ih95 =>
      have J143 : ∀ (sg : SS) (x2 : Int32) (x3 : Int32) (x4 : Int32) (x5 : Int32), X6_spread_J143 (it X6_spread_B95 (fun _ _ _ _ _ _ => none) n95) sg h x2 x3 x4 x5 = some q → V K (wS cy A sg ++ wH cy B1 h) 143 [(0, .ref (A 0)), (1, .ref (B1 0)), (2, .int x2), (3, .int x3), (4, .int x4), (5, .int x5)] [] := by
        intro sg x2 x3 x4 x5 hf
        unfold X6_spread_J143 at hf
        refine r_iinc hc 5 [(5, .int (x5 + (1 : Int32))), (0, .ref (A 0)), (1, .ref (B1 0)), (2, .int x2), (3, .int x3), (4, .int x4)] (x5 + (1 : Int32)) dX6_spread_143 rfl rfl (by decide) rfl ?_
        refine r_goto hc 95 dX6_spread_146 (by decide) ?_
        exact V.sub [1, 2, 3, 4, 5, 0] rfl (ih95 sg x2 x3 x4 (x5 + (1 : Int32)) hf)
      intro sg x2 x3 x4 x5 hf
      replace hf : X6_spread_B95 (it X6_spread_B95 (fun _ _ _ _ _ _ => none) n95) sg h x2 x3 x4 x5 = some q := hf
      unfold X6_spread_B95 at hf
      refine r_iload hc 5 dX6_spread_95 rfl ?_
      refine r_aload_n hc 1 dX6_spread_97 rfl ?_
      refine r_get (v := .int (H_rooms h)) hc iw_X1 3 rfl rfl 0 (by decide) mw_87 rfl dX6_spread_98 ?_
      refine r_icmp_ge hc 149 dX6_spread_101 (by decide) (fun c_10 => ?_) (fun c_10 => ?_)
      · have hf := o_pos c_10 hf
        exact r_vret hK (congrArg (fun z9 => (wS cy A z9 ++ wH cy B1 h)) (Option.some.inj hf)) dX6_spread_149
      · have hf := o_neg c_10 hf
        refine r_aload_n hc 1 dX6_spread_104 rfl ?_
        refine r_iload_n hc 2 dX6_spread_105 rfl ?_
        refine r_iload hc 5 dX6_spread_106 rfl ?_
        obtain ⟨q108, hq108, hf⟩ := o_bind hf
        refine r_callVi (ws' := (wS cy A sg ++ wH cy B1 h)) (As := [.int x2, .int x5]) (rest := []) hc (c_X1_widthOf B1 h x2 x5 q108 hq108) kv_X1_widthOf mw_802 0 rfl rfl [3, 4, 5, 6, 7, 8, 9, 10, 11, 12] [0, 1, 2] [0, 1, 2, 3, 4, 5, 6, 7, 8, 9, 10, 11, 12] ⟨rfl, rfl, rfl, rfl, rfl, rfl, rfl⟩ rfl rfl (Nat.le_of_ble_eq_true rfl) ⟨by decide, by decide⟩ dX6_spread_108 ?_
        refine r_if_le hc 143 dX6_spread_111 (by decide) (fun c_11 => ?_) (fun c_11 => ?_)
        · have hf := o_pos c_11 hf
          exact V.sub [0, 1, 2, 3, 4, 5] rfl (J143 sg x2 x3 x4 x5 hf)
        · have hf := o_neg c_11 hf
          refine r_aload_n hc 0 dX6_spread_114 rfl ?_
          refine r_get (v := .ref (sw2 A (S_sw sg))) hc iw_X6 0 rfl rfl 2 (by decide) mw_264 rfl dX6_spread_115 ?_
          refine r_iload hc 5 dX6_spread_118 rfl ?_
          refine r_dup2_11 hc dX6_spread_120 rfl rfl ?_
          obtain ⟨i_12, hf⟩ := chk_some hf
          refine r_lald (f := (S_next sg)) hc 2 rfl i_12 dX6_spread_121 ?_
          refine r_aload_n hc 0 dX6_spread_122 rfl ?_
          refine r_get (v := .ref (sw1 A (S_sw sg))) hc iw_X6 0 rfl rfl 1 (by decide) mw_263 rfl dX6_spread_123 ?_
          refine r_iload_n hc 2 dX6_spread_126 rfl ?_
          obtain ⟨i_13, hf⟩ := chk_some hf
          refine r_lald (f := (S_chance sg)) hc 1 rfl i_13 dX6_spread_127 ?_
          refine r_bipush hc (60 : Int32) dX6_spread_128 rfl ?_
          refine r_iload hc 4 dX6_spread_130 rfl ?_
          obtain ⟨z_14, hf⟩ := nz_some hf
          refine r_idiv hc dX6_spread_132 z_14 ?_
          refine r_i2l hc dX6_spread_133 ?_
          refine r_lmul hc dX6_spread_134 ?_
          refine r_bipush hc (10 : Int32) dX6_spread_135 rfl ?_
          refine r_iload_n hc 3 dX6_spread_137 rfl ?_
          refine r_isub hc dX6_spread_138 ?_
          refine r_i2l hc dX6_spread_139 ?_
          refine r_lmul hc dX6_spread_140 ?_
          refine r_ladd hc dX6_spread_141 ?_
          obtain ⟨i_15, hf⟩ := chk_some hf
          obtain ⟨f142, ef142, hf⟩ := lt_some hf
          refine r_last (f := (S_next sg)) hc 2 rfl i_15 dX6_spread_142 f142 ef142 (wS cy A (S_set_next sg f142) ++ wH cy B1 h) rfl ?_
          exact V.sub [0, 1, 2, 3, 4, 5] rfl (J143 (S_set_next sg f142) x2 x3 x4 x5 hf)
  have L6 : ∀ (n6 : Nat) (sg : SS) (x2 : Int32) (x3 : Int32) (x4 : Int32) (x5 : Int32), it X6_spread_B6 (fun _ _ _ _ _ _ => none) n6 sg h x2 x3 x4 x5 = some q → V K (wS cy A sg ++ wH cy B1 h) 6 [(0, .ref (A 0)), (1, .ref (B1 0)), (2, .int x2), (3, .int x3), (4, .int x4), (5, .int x5)] [] := by
    intro n6
    induction n6 with
    | zero => intro sg x2 x3 x4 x5 hf; exact (o_none hf).elim
    | succ n6 ih6 =>
      have J32 : ∀ (sg : SS) (x2 : Int32) (x3 : Int32) (x5 : Int32) (s0 : Int32) (s1 : Int32), X6_spread_J32 (it X6_spread_B6 (fun _ _ _ _ _ _ => none) n6) sg h x2 x3 x5 s0 s1 = some q → V K (wS cy A sg ++ wH cy B1 h) 32 [(0, .ref (A 0)), (1, .ref (B1 0)), (2, .int x2), (3, .int x3), (5, .int x5)] [.int s0, .int s1] := by
        intro sg x2 x3 x5 s0 s1 hf
        unfold X6_spread_J32 at hf
        refine r_iadd hc dX6_spread_32 ?_
        refine r_istore hc [(4, .int (s1 + s0)), (0, .ref (A 0)), (1, .ref (B1 0)), (2, .int x2), (3, .int x3), (5, .int x5)] dX6_spread_33 (by decide) rfl ?_
        refine r_iinc hc 5 [(5, .int (x5 + (1 : Int32))), (4, .int (s1 + s0)), (0, .ref (A 0)), (1, .ref (B1 0)), (2, .int x2), (3, .int x3)] (x5 + (1 : Int32)) dX6_spread_35 rfl rfl (by decide) rfl ?_
        refine r_goto hc 6 dX6_spread_38 (by decide) ?_
        exact V.sub [2, 3, 4, 5, 1, 0] rfl (ih6 sg x2 x3 (s1 + s0) (x5 + (1 : Int32)) hf)
      intro sg x2 x3 x4 x5 hf
      replace hf : X6_spread_B6 (it X6_spread_B6 (fun _ _ _ _ _ _ => none) n6) sg h x2 x3 x4 x5 = some q := hf
      unfold X6_spread_B6 at hf
      refine r_iload hc 5 dX6_spread_6 rfl ?_
      refine r_aload_n hc 1 dX6_spread_8 rfl ?_
      refine r_get (v := .int (H_rooms h)) hc iw_X1 3 rfl rfl 0 (by decide) mw_87 rfl dX6_spread_9 ?_
      refine r_icmp_ge hc 41 dX6_spread_12 (by decide) (fun c_1 => ?_) (fun c_1 => ?_)
      · have hf := o_pos c_1 hf
        refine r_iload hc 4 dX6_spread_41 rfl ?_
        refine r_if_ne hc 70 dX6_spread_43 (by decide) (fun c_2 => ?_) (fun c_2 => ?_)
        · have hf := o_neg c_2 hf
          refine r_aload_n hc 0 dX6_spread_70 rfl ?_
          refine r_get (v := .ref (sw2 A (S_sw sg))) hc iw_X6 0 rfl rfl 2 (by decide) mw_264 rfl dX6_spread_71 ?_
          refine r_iload_n hc 2 dX6_spread_74 rfl ?_
          refine r_dup2_11 hc dX6_spread_75 rfl rfl ?_
          obtain ⟨i_3, hf⟩ := chk_some hf
          refine r_lald (f := (S_next sg)) hc 2 rfl i_3 dX6_spread_76 ?_
          refine r_aload_n hc 0 dX6_spread_77 rfl ?_
          refine r_get (v := .ref (sw1 A (S_sw sg))) hc iw_X6 0 rfl rfl 1 (by decide) mw_263 rfl dX6_spread_78 ?_
          refine r_iload_n hc 2 dX6_spread_81 rfl ?_
          obtain ⟨i_4, hf⟩ := chk_some hf
          refine r_lald (f := (S_chance sg)) hc 1 rfl i_4 dX6_spread_82 ?_
          refine r_ldc2 (v := (60 : Int64)) hc mw_803 dX6_spread_83 ?_
          refine r_lmul hc dX6_spread_86 ?_
          refine r_iload_n hc 3 dX6_spread_87 rfl ?_
          refine r_i2l hc dX6_spread_88 ?_
          refine r_lmul hc dX6_spread_89 ?_
          refine r_ladd hc dX6_spread_90 ?_
          obtain ⟨i_5, hf⟩ := chk_some hf
          obtain ⟨f91, ef91, hf⟩ := lt_some hf
          refine r_last (f := (S_next sg)) hc 2 rfl i_5 dX6_spread_91 f91 ef91 (wS cy A (S_set_next sg f91) ++ wH cy B1 h) rfl ?_
          refine r_iconst hc (0 : Int32) dX6_spread_92 rfl ?_
          refine r_istore hc [(5, .int (0 : Int32)), (0, .ref (A 0)), (1, .ref (B1 0)), (2, .int x2), (3, .int x3), (4, .int x4)] dX6_spread_93 (by decide) rfl ?_
          exact V.sub [1, 2, 3, 4, 5, 0] rfl (L95 FU (S_set_next sg f91) x2 x3 x4 (0 : Int32) hf)
        · have hf := o_pos c_2 hf
          refine r_aload_n hc 0 dX6_spread_46 rfl ?_
          refine r_get (v := .ref (sw2 A (S_sw sg))) hc iw_X6 0 rfl rfl 2 (by decide) mw_264 rfl dX6_spread_47 ?_
          refine r_iload_n hc 2 dX6_spread_50 rfl ?_
          refine r_dup2_11 hc dX6_spread_51 rfl rfl ?_
          obtain ⟨i_6, hf⟩ := chk_some hf
          refine r_lald (f := (S_next sg)) hc 2 rfl i_6 dX6_spread_52 ?_
          refine r_aload_n hc 0 dX6_spread_53 rfl ?_
          refine r_get (v := .ref (sw1 A (S_sw sg))) hc iw_X6 0 rfl rfl 1 (by decide) mw_263 rfl dX6_spread_54 ?_
          refine r_iload_n hc 2 dX6_spread_57 rfl ?_
          obtain ⟨i_7, hf⟩ := chk_some hf
          refine r_lald (f := (S_chance sg)) hc 1 rfl i_7 dX6_spread_58 ?_
          refine r_ldc2 (v := (60 : Int64)) hc mw_803 dX6_spread_59 ?_
          refine r_lmul hc dX6_spread_62 ?_
          refine r_ldc2 (v := (10 : Int64)) hc mw_804 dX6_spread_63 ?_
          refine r_lmul hc dX6_spread_66 ?_
          refine r_ladd hc dX6_spread_67 ?_
          obtain ⟨i_8, hf⟩ := chk_some hf
          obtain ⟨f68, ef68, hf⟩ := lt_some hf
          refine r_last (f := (S_next sg)) hc 2 rfl i_8 dX6_spread_68 f68 ef68 (wS cy A (S_set_next sg f68) ++ wH cy B1 h) rfl ?_
          exact r_vret hK (congrArg (fun z9 => (wS cy A z9 ++ wH cy B1 h)) (Option.some.inj hf)) dX6_spread_69
      · have hf := o_neg c_1 hf
        refine r_iload hc 4 dX6_spread_15 rfl ?_
        refine r_aload_n hc 1 dX6_spread_17 rfl ?_
        refine r_iload_n hc 2 dX6_spread_18 rfl ?_
        refine r_iload hc 5 dX6_spread_19 rfl ?_
        obtain ⟨q21, hq21, hf⟩ := o_bind hf
        refine r_callVi (ws' := (wS cy A sg ++ wH cy B1 h)) (As := [.int x2, .int x5]) (rest := [.int x4]) hc (c_X1_widthOf B1 h x2 x5 q21 hq21) kv_X1_widthOf mw_802 0 rfl rfl [3, 4, 5, 6, 7, 8, 9, 10, 11, 12] [0, 1, 2] [0, 1, 2, 3, 4, 5, 6, 7, 8, 9, 10, 11, 12] ⟨rfl, rfl, rfl, rfl, rfl, rfl, rfl⟩ rfl rfl (Nat.le_of_ble_eq_true rfl) ⟨by decide, by decide⟩ dX6_spread_21 ?_
        refine r_if_le hc 31 dX6_spread_24 (by decide) (fun c_9 => ?_) (fun c_9 => ?_)
        · have hf := o_pos c_9 hf
          refine r_iconst hc (0 : Int32) dX6_spread_31 rfl ?_
          exact V.sub [0, 1, 2, 3, 5] rfl (J32 sg x2 x3 x5 (0 : Int32) x4 hf)
        · have hf := o_neg c_9 hf
          refine r_iconst hc (1 : Int32) dX6_spread_27 rfl ?_
          refine r_goto hc 32 dX6_spread_28 (by decide) ?_
          exact V.sub [0, 1, 2, 3, 5] rfl (J32 sg x2 x3 x5 (1 : Int32) x4 hf)
  show V K (wS cy A sg ++ wH cy B1 h) 0 [(0, .ref (A 0)), (1, .ref (B1 0)), (2, .int x2), (3, .int x3)] []
  unfold f_X6_spread at hf
  refine r_iconst hc (0 : Int32) dX6_spread_0 rfl ?_
  refine r_istore hc [(4, .int (0 : Int32)), (0, .ref (A 0)), (1, .ref (B1 0)), (2, .int x2), (3, .int x3)] dX6_spread_1 (by decide) rfl ?_
  refine r_iconst hc (0 : Int32) dX6_spread_3 rfl ?_
  refine r_istore hc [(5, .int (0 : Int32)), (4, .int (0 : Int32)), (0, .ref (A 0)), (1, .ref (B1 0)), (2, .int x2), (3, .int x3)] dX6_spread_4 (by decide) rfl ?_
  exact V.sub [2, 3, 4, 5, 1, 0] rfl (L6 FU sg x2 x3 (0 : Int32) (0 : Int32) hf)
def X6_walk_B46 (k28 : SS → HS → Int32 → Int32 → Int32 → Option (SS)) (k46 : SS → HS → Int32 → Int32 → Int32 → Int32 → Option (SS)) (sg : SS) (h : HS) (x3 : Int32) (x4 : Int32) (x5 : Int32) (x6 : Int32) : Option (SS) :=
  (if (H_rooms h) ≤ x6 then (k28 (((S_whole sg) * (600 : Int64)), (S_next sg), (S_chance sg), (!(S_sw sg))) h x3 x4 (x5 + (1 : Int32))) else ((f_X6_spread sg h x6 x3).bind fun q60 => (k46 q60 h x3 x4 x5 (x6 + (1 : Int32)))))
def X6_walk_B28 (k28 : SS → HS → Int32 → Int32 → Int32 → Option (SS)) (sg : SS) (h : HS) (x3 : Int32) (x4 : Int32) (x5 : Int32) : Option (SS) :=
  (if x4 ≤ x5 then (some (sg)) else (ltA (fillA 6 (0 : Int64) (S_next sg)) fun f40 => (it (X6_walk_B46 k28) (fun _ _ _ _ _ _ => none) FU (S_set_next sg f40) h x3 x4 x5 (0 : Int32))))
def f_X6_walk (sg : SS) (h : HS) (x2 : Int32) (x3 : Int32) (x4 : Int32) : Option (SS) :=
  (ltA (fillA 6 (0 : Int64) (S_chance sg)) fun f5 => (chk x2 8 (chk ((H_place h) (x2).toNatClampNeg) 6 (ltA (vp_updL f5 (((H_place h) (x2).toNatClampNeg)).toNatClampNeg (1 : Int64)) fun f19 => (it X6_walk_B28 (fun _ _ _ _ _ => none) FU (S_set_whole (S_set_chance sg f19) (1 : Int64)) h x3 x4 (0 : Int32))))))
theorem kv_X6_walk : KV RX6 yX6_walk cX6_walk 7 none 4 := ⟨mw_792, mw_793, mw_62, mw_794, by decide +kernel⟩
set_option maxHeartbeats 8000000 in
set_option maxRecDepth 100000 in
theorem c_X6_walk {l : Launch} {E : va_G} {cy : Nat → ClassId} (A : Nat → Nat) (B1 : Nat → Nat) (sg : SS) (h : HS) (x2 : Int32) (x3 : Int32) (x4 : Int32) (q : SS) (hf : f_X6_walk sg h x2 x3 x4 = some q) : Cv l yX6_walk cX6_walk 7 none 3 107 E cy [.ref (A 0), .ref (B1 0), .int x2, .int x3, .int x4] (wS cy A sg ++ wH cy B1 h) (wS cy A q ++ wH cy B1 h) := by
  refine Cv.of RX6 (by decide) rfl (Nat.le_of_ble_eq_true rfl) ?_
  intro K hK
  have hc := hK.cq
  have L28 : ∀ (n28 : Nat) (sg : SS) (x3 : Int32) (x4 : Int32) (x5 : Int32), it X6_walk_B28 (fun _ _ _ _ _ => none) n28 sg h x3 x4 x5 = some q → V K (wS cy A sg ++ wH cy B1 h) 28 [(0, .ref (A 0)), (1, .ref (B1 0)), (3, .int x3), (4, .int x4), (5, .int x5)] [] := by
    intro n28
    induction n28 with
    | zero => intro sg x3 x4 x5 hf; exact (o_none hf).elim
    | succ n28 ih28 =>
      have L46 : ∀ (n46 : Nat) (sg : SS) (x3 : Int32) (x4 : Int32) (x5 : Int32) (x6 : Int32), it (X6_walk_B46 (it X6_walk_B28 (fun _ _ _ _ _ => none) n28)) (fun _ _ _ _ _ _ => none) n46 sg h x3 x4 x5 x6 = some q → V K (wS cy A sg ++ wH cy B1 h) 46 [(0, .ref (A 0)), (1, .ref (B1 0)), (3, .int x3), (4, .int x4), (5, .int x5), (6, .int x6)] [] := by
        intro n46
        induction n46 with
        | zero => intro sg x3 x4 x5 x6 hf; exact (o_none hf).elim
        | succ n46 ih46 =>
          intro sg x3 x4 x5 x6 hf
          replace hf : X6_walk_B46 (it X6_walk_B28 (fun _ _ _ _ _ => none) n28) (it (X6_walk_B46 (it X6_walk_B28 (fun _ _ _ _ _ => none) n28)) (fun _ _ _ _ _ _ => none) n46) sg h x3 x4 x5 x6 = some q := hf
          unfold X6_walk_B46 at hf
          refine r_iload hc 5 dX6_walk_46 rfl ?_
          refine r_aload_n hc 1 dX6_walk_48 rfl ?_
          refine r_get (v := .int (H_rooms h)) hc iw_X1 3 rfl rfl 0 (by decide) mw_87 rfl dX6_walk_49 ?_
          refine r_icmp_ge hc 69 dX6_walk_52 (by decide) (fun c_4 => ?_) (fun c_4 => ?_)
          · have hf := o_pos c_4 hf
            refine r_aload_n hc 0 dX6_walk_69 rfl ?_
            refine r_get (v := .ref (sw1 A (S_sw sg))) hc iw_X6 0 rfl rfl 1 (by decide) mw_263 rfl dX6_walk_70 ?_
            refine r_astore hc [(6, .ref (sw1 A (S_sw sg))), (0, .ref (A 0)), (1, .ref (B1 0)), (3, .int x3), (4, .int x4), (5, .int x5)] dX6_walk_73 (by decide) rfl ?_
            refine r_aload_n hc 1 dX6_walk_75 rfl ?_
            refine r_aload_n hc 1 dX6_walk_76 rfl ?_
            refine r_get (v := .ref (sw2 A (S_sw sg))) hc iw_X6 0 rfl rfl 2 (by decide) mw_264 rfl dX6_walk_77 ?_
            refine r_put hc iw_X6 tyX6 tyX6_ok nmX6 0 rfl rfl 1 (by decide) mw_263 rfl rfl rfl (Nat.le_of_ble_eq_true rfl) dX6_walk_80 ([(A 0, .inr (6, [.long (S_whole sg), .ref (sw2 A (S_sw sg)), .ref (sw2 A (S_sw sg))])), ((sw1 A (S_sw sg)), .inl (cy 1, 6, .inr (.inl (S_chance sg)))), ((sw2 A (S_sw sg)), .inl (cy 1, 6, .inr (.inl (S_next sg))))] ++ wH cy B1 h) rfl ?_
            refine r_aload_n hc 1 dX6_walk_83 rfl ?_
            refine r_aload hc 0 dX6_walk_84 rfl ?_
            refine r_put hc iw_X6 tyX6 tyX6_ok nmX6 0 rfl rfl 2 (by decide) mw_264 rfl rfl rfl (Nat.le_of_ble_eq_true rfl) dX6_walk_86 ([(A 0, .inr (6, [.long (S_whole sg), .ref (sw2 A (S_sw sg)), .ref (sw1 A (S_sw sg))])), ((sw1 A (S_sw sg)), .inl (cy 1, 6, .inr (.inl (S_chance sg)))), ((sw2 A (S_sw sg)), .inl (cy 1, 6, .inr (.inl (S_next sg))))] ++ wH cy B1 h) rfl ?_
            refine V.sub [1, 2, 3, 4, 5] rfl ?_
            refine V.perm (ws' := ([(A 0, .inr (6, [.long (S_whole sg), .ref (sw2 A (S_sw sg)), .ref (sw1 A (S_sw sg))])), ((sw2 A (S_sw sg)), .inl (cy 1, 6, .inr (.inl (S_next sg)))), ((sw1 A (S_sw sg)), .inl (cy 1, 6, .inr (.inl (S_chance sg))))] ++ wH cy B1 h)) [0, 2, 1, 3, 4, 5, 6, 7, 8, 9, 10, 11, 12] rfl rfl ?_
            refine V.eqw (ws' := (wS cy A ((S_whole sg), (S_next sg), (S_chance sg), (!(S_sw sg))) ++ wH cy B1 h)) (congrArg (fun z9 => (z9 ++ wH cy B1 h)) (wS_swap cy A (S_whole sg) (S_chance sg) (S_next sg) (S_sw sg))) ?_
            refine r_aload_n hc 0 dX6_walk_89 rfl ?_
            refine r_dup hc dX6_walk_90 rfl ?_
            refine r_get (v := .long (S_whole sg)) hc iw_X6 0 rfl rfl 0 (by decide) mw_262 rfl dX6_walk_91 ?_
            refine r_ldc2 (v := (600 : Int64)) hc mw_805 dX6_walk_94 ?_
            refine r_lmul hc dX6_walk_97 ?_
            refine r_put hc iw_X6 tyX6 tyX6_ok nmX6 0 rfl rfl 0 (by decide) mw_262 rfl rfl rfl (Nat.le_of_ble_eq_true rfl) dX6_walk_98 (wS cy A (((S_whole sg) * (600 : Int64)), (S_next sg), (S_chance sg), (!(S_sw sg))) ++ wH cy B1 h) rfl ?_
            refine r_iinc hc 4 [(5, .int (x5 + (1 : Int32))), (0, .ref (A 0)), (1, .ref (B1 0)), (3, .int x3), (4, .int x4)] (x5 + (1 : Int32)) dX6_walk_101 rfl rfl (by decide) rfl ?_
            refine r_goto hc 28 dX6_walk_104 (by decide) ?_
            exact V.sub [1, 2, 3, 4, 0] rfl (ih28 (((S_whole sg) * (600 : Int64)), (S_next sg), (S_chance sg), (!(S_sw sg))) x3 x4 (x5 + (1 : Int32)) hf)
          · have hf := o_neg c_4 hf
            refine r_aload_n hc 0 dX6_walk_55 rfl ?_
            refine r_aload_n hc 1 dX6_walk_56 rfl ?_
            refine r_iload hc 5 dX6_walk_57 rfl ?_
            refine r_iload_n hc 2 dX6_walk_59 rfl ?_
            obtain ⟨q60, hq60, hf⟩ := o_bind hf
            refine r_callVv (ws' := (wS cy A q60 ++ wH cy B1 h)) (As := [.ref (B1 0), .int x6, .int x3]) (rest := []) hc (c_X6_spread A B1 sg h x6 x3 q60 hq60) kv_X6_spread mw_798 0 rfl rfl _ _ _ (Sp_all _ _) rfl rfl (Nat.le_of_ble_eq_true rfl) ⟨by decide, by decide⟩ dX6_walk_60 ?_
            refine r_iinc hc 5 [(6, .int (x6 + (1 : Int32))), (0, .ref (A 0)), (1, .ref (B1 0)), (3, .int x3), (4, .int x4), (5, .int x5)] (x6 + (1 : Int32)) dX6_walk_63 rfl rfl (by decide) rfl ?_
            refine r_goto hc 46 dX6_walk_66 (by decide) ?_
            exact V.sub [1, 2, 3, 4, 5, 0] rfl (ih46 q60 x3 x4 x5 (x6 + (1 : Int32)) hf)
      intro sg x3 x4 x5 hf
      replace hf : X6_walk_B28 (it X6_walk_B28 (fun _ _ _ _ _ => none) n28) sg h x3 x4 x5 = some q := hf
      unfold X6_walk_B28 at hf
      refine r_iload hc 4 dX6_walk_28 rfl ?_
      refine r_iload hc 3 dX6_walk_30 rfl ?_
      refine r_icmp_ge hc 107 dX6_walk_32 (by decide) (fun c_3 => ?_) (fun c_3 => ?_)
      · have hf := o_pos c_3 hf
        exact r_vret hK (congrArg (fun z9 => (wS cy A z9 ++ wH cy B1 h)) (Option.some.inj hf)) dX6_walk_107
      · have hf := o_neg c_3 hf
        refine r_aload_n hc 0 dX6_walk_35 rfl ?_
        refine r_get (v := .ref (sw2 A (S_sw sg))) hc iw_X6 0 rfl rfl 2 (by decide) mw_264 rfl dX6_walk_36 ?_
        refine r_lconst hc (0 : Int64) dX6_walk_39 rfl ?_
        obtain ⟨f40, ef40, hf⟩ := lt_some hf
        refine r_callSv (ws' := (wS cy A (S_set_next sg f40) ++ wH cy B1 h)) (As := [.ref (sw2 A (S_sw sg)), .long (0 : Int64)]) (rest := []) hc (c_fillL (sw2 A (S_sw sg)) 6 (S_next sg) (0 : Int64) f40 ef40 (by decide)) ks_fillL mw_795 [2] [0, 1, 3, 4, 5, 6, 7, 8, 9, 10, 11, 12] [0, 1, 12, 2, 3, 4, 5, 6, 7, 8, 9, 10, 11] ⟨rfl, rfl, rfl, rfl, rfl, rfl, rfl⟩ rfl rfl (Nat.le_of_ble_eq_true rfl) ⟨by decide, by decide⟩ dX6_walk_40 ?_
        refine r_iconst hc (0 : Int32) dX6_walk_43 rfl ?_
        refine r_istore hc [(6, .int (0 : Int32)), (0, .ref (A 0)), (1, .ref (B1 0)), (3, .int x3), (4, .int x4), (5, .int x5)] dX6_walk_44 (by decide) rfl ?_
        exact V.sub [1, 2, 3, 4, 5, 0] rfl (L46 FU (S_set_next sg f40) x3 x4 x5 (0 : Int32) hf)
  show V K (wS cy A sg ++ wH cy B1 h) 0 [(0, .ref (A 0)), (1, .ref (B1 0)), (2, .int x2), (3, .int x3), (4, .int x4)] []
  unfold f_X6_walk at hf
  refine r_aload_n hc 0 dX6_walk_0 rfl ?_
  refine r_get (v := .ref (sw1 A (S_sw sg))) hc iw_X6 0 rfl rfl 1 (by decide) mw_263 rfl dX6_walk_1 ?_
  refine r_lconst hc (0 : Int64) dX6_walk_4 rfl ?_
  obtain ⟨f5, ef5, hf⟩ := lt_some hf
  refine r_callSv (ws' := (wS cy A (S_set_chance sg f5) ++ wH cy B1 h)) (As := [.ref (sw1 A (S_sw sg)), .long (0 : Int64)]) (rest := []) hc (c_fillL (sw1 A (S_sw sg)) 6 (S_chance sg) (0 : Int64) f5 ef5 (by decide)) ks_fillL mw_795 [1] [0, 2, 3, 4, 5, 6, 7, 8, 9, 10, 11, 12] [0, 12, 1, 2, 3, 4, 5, 6, 7, 8, 9, 10, 11] ⟨rfl, rfl, rfl, rfl, rfl, rfl, rfl⟩ rfl rfl (Nat.le_of_ble_eq_true rfl) ⟨by decide, by decide⟩ dX6_walk_5 ?_
  refine r_aload_n hc 0 dX6_walk_8 rfl ?_
  refine r_get (v := .ref (sw1 A (S_sw sg))) hc iw_X6 0 rfl rfl 1 (by decide) mw_263 rfl dX6_walk_9 ?_
  refine r_aload_n hc 1 dX6_walk_12 rfl ?_
  refine r_get (v := .ref (B1 3)) hc iw_X1 3 rfl rfl 5 (by decide) mw_100 rfl dX6_walk_13 ?_
  refine r_iload_n hc 2 dX6_walk_16 rfl ?_
  obtain ⟨i_1, hf⟩ := chk_some hf
  refine r_iald (f := (H_place h)) hc 6 rfl i_1 dX6_walk_17 ?_
  refine r_lconst hc (1 : Int64) dX6_walk_18 rfl ?_
  obtain ⟨i_2, hf⟩ := chk_some hf
  obtain ⟨f19, ef19, hf⟩ := lt_some hf
  refine r_last (f := f5) hc 1 rfl i_2 dX6_walk_19 f19 ef19 (wS cy A (S_set_chance sg f19) ++ wH cy B1 h) rfl ?_
  refine r_aload_n hc 0 dX6_walk_20 rfl ?_
  refine r_lconst hc (1 : Int64) dX6_walk_21 rfl ?_
  refine r_put hc iw_X6 tyX6 tyX6_ok nmX6 0 rfl rfl 0 (by decide) mw_262 rfl rfl rfl (Nat.le_of_ble_eq_true rfl) dX6_walk_22 (wS cy A (S_set_whole (S_set_chance sg f19) (1 : Int64)) ++ wH cy B1 h) rfl ?_
  refine r_iconst hc (0 : Int32) dX6_walk_25 rfl ?_
  refine r_istore hc [(5, .int (0 : Int32)), (0, .ref (A 0)), (1, .ref (B1 0)), (2, .int x2), (3, .int x3), (4, .int x4)] dX6_walk_26 (by decide) rfl ?_
  exact V.sub [1, 2, 4, 5, 0] rfl (L28 FU (S_set_whole (S_set_chance sg f19) (1 : Int64)) x3 x4 (0 : Int32) hf)
def X6_shared_J50 (sg : SS) (x2 : Int64) : Option (Int64) :=
  (if (lg_cmp x2 (0 : Int64)) = 0 then (some ((1 : Int64))) else (some (x2)))
def X6_shared_B16 (k16 : SS → Int64 → Int64 → Int32 → Option (Int64)) (sg : SS) (x2 : Int64) (x4 : Int64) (x6 : Int32) : Option (Int64) :=
  (if (1000 : Int32) ≤ x6 then (X6_shared_J50 sg x2) else (if (lg_cmp x4 (0 : Int64)) = 0 then (X6_shared_J50 sg x2) else (nzl x4 (k16 sg x4 (x2 - x2 / x4 * x4) (x6 + (1 : Int32))))))
def f_X6_shared (sg : SS) (x1 : Int32) : Option (Int64) :=
  (chk x1 6 (it X6_shared_B16 (fun _ _ _ _ => none) FU sg (S_whole sg) ((S_chance sg) (x1).toNatClampNeg) (0 : Int32)))
theorem kv_X6_shared : KV RX6 yX6_shared cX6_shared 9 (some .long) 1 := ⟨mw_812, mw_20, mw_62, mw_813, by decide +kernel⟩
set_option maxHeartbeats 8000000 in
set_option maxRecDepth 100000 in
theorem c_X6_shared {l : Launch} {E : va_G} {cy : Nat → ClassId} (A : Nat → Nat) (sg : SS) (x1 : Int32) (q : Int64) (hf : f_X6_shared sg x1 = some q) : Cl l yX6_shared cX6_shared 9 (some .long) 1 60 E cy [.ref (A 0), .int x1] (wS cy A sg) q (wS cy A sg) := by
  refine Cl.of RX6 (by decide) rfl (Nat.le_of_ble_eq_true rfl) ?_
  intro K hK
  have hc := hK.cq
  have J50 : ∀ (x2 : Int64), X6_shared_J50  sg x2 = some q → V K (wS cy A sg) 50 [(2, .long x2)] [] := by
    intro x2 hf
    unfold X6_shared_J50 at hf
    refine r_lload_n hc 0 dX6_shared_50 rfl ?_
    refine r_lconst hc (0 : Int64) dX6_shared_51 rfl ?_
    refine r_lcmp hc dX6_shared_52 ?_
    refine r_if_ne hc 60 dX6_shared_53 (by decide) (fun c_5 => ?_) (fun c_5 => ?_)
    · have hf := o_neg c_5 hf
      refine r_lload_n hc 0 dX6_shared_60 rfl ?_
      exact r_lret hK (Option.some.inj hf) rfl dX6_shared_61
    · have hf := o_pos c_5 hf
      refine r_lconst hc (1 : Int64) dX6_shared_56 rfl ?_
      refine r_goto hc 61 dX6_shared_57 (by decide) ?_
      exact r_lret hK (Option.some.inj hf) rfl dX6_shared_61
  have L16 : ∀ (n16 : Nat) (x2 : Int64) (x4 : Int64) (x6 : Int32), it X6_shared_B16 (fun _ _ _ _ => none) n16 sg x2 x4 x6 = some q → V K (wS cy A sg) 16 [(2, .long x2), (4, .long x4), (6, .int x6)] [] := by
    intro n16
    induction n16 with
    | zero => intro x2 x4 x6 hf; exact (o_none hf).elim
    | succ n16 ih16 =>
      intro x2 x4 x6 hf
      replace hf : X6_shared_B16 (it X6_shared_B16 (fun _ _ _ _ => none) n16) sg x2 x4 x6 = some q := hf
      unfold X6_shared_B16 at hf
      refine r_iload hc 2 dX6_shared_16 rfl ?_
      refine r_sipush hc (1000 : Int32) dX6_shared_18 rfl ?_
      refine r_icmp_ge hc 50 dX6_shared_21 (by decide) (fun c_2 => ?_) (fun c_2 => ?_)
      · have hf := o_pos c_2 hf
        exact V.sub [0] rfl (J50 x2 hf)
      · have hf := o_neg c_2 hf
        refine r_lload hc 1 dX6_shared_24 rfl ?_
        refine r_lconst hc (0 : Int64) dX6_shared_26 rfl ?_
        refine r_lcmp hc dX6_shared_27 ?_
        refine r_if_eq hc 50 dX6_shared_28 (by decide) (fun c_3 => ?_) (fun c_3 => ?_)
        · have hf := o_pos c_3 hf
          exact V.sub [0] rfl (J50 x2 hf)
        · have hf := o_neg c_3 hf
          refine r_lload_n hc 0 dX6_shared_31 rfl ?_
          refine r_lload hc 1 dX6_shared_32 rfl ?_
          obtain ⟨z_4, hf⟩ := nzl_some hf
          refine r_lrem hc dX6_shared_34 z_4 ?_
          refine r_lstore hc [(7, .long (x2 - x2 / x4 * x4)), (2, .long x2), (4, .long x4), (6, .int x6)] dX6_shared_35 (by decide) rfl ?_
          refine r_lload hc 2 dX6_shared_37 rfl ?_
          refine r_lstore_n hc [(2, .long x4), (7, .long (x2 - x2 / x4 * x4)), (4, .long x4), (6, .int x6)] dX6_shared_39 (by decide) rfl ?_
          refine r_lload hc 1 dX6_shared_40 rfl ?_
          refine r_lstore hc [(4, .long (x2 - x2 / x4 * x4)), (2, .long x4), (7, .long (x2 - x2 / x4 * x4)), (6, .int x6)] dX6_shared_42 (by decide) rfl ?_
          refine r_iinc hc 3 [(6, .int (x6 + (1 : Int32))), (4, .long (x2 - x2 / x4 * x4)), (2, .long x4), (7, .long (x2 - x2 / x4 * x4))] (x6 + (1 : Int32)) dX6_shared_44 rfl rfl (by decide) rfl ?_
          refine r_goto hc 16 dX6_shared_47 (by decide) ?_
          exact V.sub [2, 1, 0] rfl (ih16 x4 (x2 - x2 / x4 * x4) (x6 + (1 : Int32)) hf)
  show V K (wS cy A sg) 0 [(0, .ref (A 0)), (1, .int x1)] []
  unfold f_X6_shared at hf
  refine r_aload_n hc 0 dX6_shared_0 rfl ?_
  refine r_get (v := .long (S_whole sg)) hc iw_X6 0 rfl rfl 0 (by decide) mw_262 rfl dX6_shared_1 ?_
  refine r_lstore_n hc [(2, .long (S_whole sg)), (0, .ref (A 0)), (1, .int x1)] dX6_shared_4 (by decide) rfl ?_
  refine r_aload_n hc 1 dX6_shared_5 rfl ?_
  refine r_get (v := .ref (sw1 A (S_sw sg))) hc iw_X6 0 rfl rfl 1 (by decide) mw_263 rfl dX6_shared_6 ?_
  refine r_iload_n hc 2 dX6_shared_9 rfl ?_
  obtain ⟨i_1, hf⟩ := chk_some hf
  refine r_lald (f := (S_chance sg)) hc 1 rfl i_1 dX6_shared_10 ?_
  refine r_lstore hc [(4, .long ((S_chance sg) (x1).toNatClampNeg)), (2, .long (S_whole sg)), (0, .ref (A 0)), (1, .int x1)] dX6_shared_11 (by decide) rfl ?_
  refine r_iconst hc (0 : Int32) dX6_shared_13 rfl ?_
  refine r_istore hc [(6, .int (0 : Int32)), (4, .long ((S_chance sg) (x1).toNatClampNeg)), (2, .long (S_whole sg)), (0, .ref (A 0)), (1, .int x1)] dX6_shared_14 (by decide) rfl ?_
  exact V.sub [2, 1, 0] rfl (L16 FU (S_whole sg) ((S_chance sg) (x1).toNatClampNeg) (0 : Int32) hf)
def f_X6_upper (sg : SS) (x1 : Int32) : Option (Int64) :=
  (chk x1 6 ((f_X6_shared sg x1).bind fun q8 => (nzl q8 (some ((((S_chance sg) (x1).toNatClampNeg) / q8))))))
theorem kv_X6_upper : KV RX6 yX6_upper cX6_upper 2 (some .long) 1 := ⟨mw_807, mw_808, mw_62, mw_809, by decide +kernel⟩
set_option maxHeartbeats 8000000 in
set_option maxRecDepth 100000 in
theorem c_X6_upper {l : Launch} {E : va_G} {cy : Nat → ClassId} (A : Nat → Nat) (sg : SS) (x1 : Int32) (q : Int64) (hf : f_X6_upper sg x1 = some q) : Cl l yX6_upper cX6_upper 2 (some .long) 2 88 E cy [.ref (A 0), .int x1] (wS cy A sg) q (wS cy A sg) := by
  refine Cl.of RX6 (by decide) rfl (Nat.le_of_ble_eq_true rfl) ?_
  intro K hK
  have hc := hK.cq
  show V K (wS cy A sg) 0 [(0, .ref (A 0)), (1, .int x1)] []
  unfold f_X6_upper at hf
  refine r_aload_n hc 0 dX6_upper_0 rfl ?_
  refine r_get (v := .ref (sw1 A (S_sw sg))) hc iw_X6 0 rfl rfl 1 (by decide) mw_263 rfl dX6_upper_1 ?_
  refine r_iload_n hc 1 dX6_upper_4 rfl ?_
  obtain ⟨i_1, hf⟩ := chk_some hf
  refine r_lald (f := (S_chance sg)) hc 1 rfl i_1 dX6_upper_5 ?_
  refine r_aload_n hc 0 dX6_upper_6 rfl ?_
  refine r_iload_n hc 1 dX6_upper_7 rfl ?_
  obtain ⟨q8, hq8, hf⟩ := o_bind hf
  refine r_callVl (ws' := (wS cy A sg)) (As := [.int x1]) (rest := [.long ((S_chance sg) (x1).toNatClampNeg)]) hc (c_X6_shared A sg x1 q8 hq8) kv_X6_shared mw_810 0 rfl rfl _ _ _ (Sp_all _ _) rfl rfl (Nat.le_of_ble_eq_true rfl) ⟨by decide, by decide⟩ dX6_upper_8 ?_
  obtain ⟨z_2, hf⟩ := nzl_some hf
  refine r_ldiv hc dX6_upper_11 z_2 ?_
  exact r_lret hK (Option.some.inj hf) rfl dX6_upper_12
def f_X6_lower (sg : SS) (x1 : Int32) : Option (Int64) :=
  ((f_X6_shared sg x1).bind fun q6 => (nzl q6 (some (((S_whole sg) / q6)))))
theorem kv_X6_lower : KV RX6 yX6_lower cX6_lower 2 (some .long) 1 := ⟨mw_815, mw_816, mw_62, mw_817, by decide +kernel⟩
set_option maxHeartbeats 8000000 in
set_option maxRecDepth 100000 in
theorem c_X6_lower {l : Launch} {E : va_G} {cy : Nat → ClassId} (A : Nat → Nat) (sg : SS) (x1 : Int32) (q : Int64) (hf : f_X6_lower sg x1 = some q) : Cl l yX6_lower cX6_lower 2 (some .long) 2 88 E cy [.ref (A 0), .int x1] (wS cy A sg) q (wS cy A sg) := by
  refine Cl.of RX6 (by decide) rfl (Nat.le_of_ble_eq_true rfl) ?_
  intro K hK
  have hc := hK.cq
  show V K (wS cy A sg) 0 [(0, .ref (A 0)), (1, .int x1)] []
  unfold f_X6_lower at hf
  refine r_aload_n hc 0 dX6_lower_0 rfl ?_
  refine r_get (v := .long (S_whole sg)) hc iw_X6 0 rfl rfl 0 (by decide) mw_262 rfl dX6_lower_1 ?_
  refine r_aload_n hc 0 dX6_lower_4 rfl ?_
  refine r_iload_n hc 1 dX6_lower_5 rfl ?_
  obtain ⟨q6, hq6, hf⟩ := o_bind hf
  refine r_callVl (ws' := (wS cy A sg)) (As := [.int x1]) (rest := [.long (S_whole sg)]) hc (c_X6_shared A sg x1 q6 hq6) kv_X6_shared mw_810 0 rfl rfl _ _ _ (Sp_all _ _) rfl rfl (Nat.le_of_ble_eq_true rfl) ⟨by decide, by decide⟩ dX6_lower_6 ?_
  obtain ⟨z_1, hf⟩ := nzl_some hf
  refine r_ldiv hc dX6_lower_9 z_1 ?_
  exact r_lret hK (Option.some.inj hf) rfl dX6_lower_10
