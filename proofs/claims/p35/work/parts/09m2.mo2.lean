def X9_faultOf_J202 (k4 : MS → Int32 → Int32 → Option (Int32)) (z : MS) (x1 : Int32) (x2 : Int32) (x6 : Int32) : Option (Int32) :=
  (if x6 = 0 then (some (x2)) else (k4 z x1 (x2 + (1 : Int32))))
def X9_faultOf_J152 (k4 : MS → Int32 → Int32 → Option (Int32)) (z : MS) (x2 : Int32) (x6 : Int32) (s0 : Int32) : Option (Int32) :=
  (X9_faultOf_J202 k4 z s0 x2 x6)
def X9_faultOf_J140 (k4 : MS → Int32 → Int32 → Option (Int32)) (z : MS) (x2 : Int32) (x4 : Int32) (s0 : Int32) : Option (Int32) :=
  (if x4 = 0 then (X9_faultOf_J152 k4 z x2 s0 (0 : Int32)) else (X9_faultOf_J152 k4 z x2 s0 (2 : Int32)))
def X9_faultOf_J135 (k4 : MS → Int32 → Int32 → Option (Int32)) (z : MS) (x2 : Int32) (x4 : Int32) : Option (Int32) :=
  (X9_faultOf_J140 k4 z x2 x4 (1 : Int32))
def X9_faultOf_J118 (k4 : MS → Int32 → Int32 → Option (Int32)) (z : MS) (x2 : Int32) (x3 : Int32) (x4 : Int32) (x5 : Int32) : Option (Int32) :=
  (if x5 = 0 then (if x3 = (95 : Int32) then (X9_faultOf_J135 k4 z x2 x4) else (if x3 = (94 : Int32) then (X9_faultOf_J135 k4 z x2 x4) else (X9_faultOf_J140 k4 z x2 x4 (0 : Int32)))) else (X9_faultOf_J135 k4 z x2 x4))
def X9_faultOf_J92 (k4 : MS → Int32 → Int32 → Option (Int32)) (z : MS) (x2 : Int32) (x6 : Int32) (s0 : Int32) : Option (Int32) :=
  (X9_faultOf_J202 k4 z s0 x2 x6)
def X9_faultOf_J71 (k4 : MS → Int32 → Int32 → Option (Int32)) (z : MS) (x2 : Int32) (x4 : Int32) (x5 : Int32) (s0 : Int32) : Option (Int32) :=
  (if x4 = 0 then (if x5 = 0 then (X9_faultOf_J92 k4 z x2 s0 (0 : Int32)) else (X9_faultOf_J92 k4 z x2 s0 (3 : Int32))) else (X9_faultOf_J92 k4 z x2 s0 (1 : Int32)))
def X9_faultOf_J66 (k4 : MS → Int32 → Int32 → Option (Int32)) (z : MS) (x2 : Int32) (x4 : Int32) (x5 : Int32) : Option (Int32) :=
  (X9_faultOf_J71 k4 z x2 x4 x5 (1 : Int32))
def X9_faultOf_B4 (k4 : MS → Int32 → Int32 → Option (Int32)) (z : MS) (x1 : Int32) (x2 : Int32) : Option (Int32) :=
  (if (M_signs z) ≤ x2 then (if x1 = 0 then (some ((-6 : Int32))) else (some ((M_signs z)))) else (chk x2 60 ((f_X9_in ((M_pad z) (x2).toNatClampNeg) (65 : Int32) (72 : Int32)).bind fun q24 => ((f_X9_in ((M_pad z) (x2).toNatClampNeg) (97 : Int32) (((97 : Int32) + (M_rooms z)) - (1 : Int32))).bind fun q41 => (if x1 = 0 then (if q24 = 0 then (if q41 = 0 then (if ((M_pad z) (x2).toNatClampNeg) = (46 : Int32) then (X9_faultOf_J66 k4 z x2 q24 q41) else (X9_faultOf_J71 k4 z x2 q24 q41 (0 : Int32))) else (X9_faultOf_J66 k4 z x2 q24 q41)) else (X9_faultOf_J66 k4 z x2 q24 q41)) else (if x1 = (1 : Int32) then (if q24 = 0 then (X9_faultOf_J118 k4 z x2 ((M_pad z) (x2).toNatClampNeg) q24 q41) else (chk (x2 - (1 : Int32)) 60 (if ((M_pad z) ((x2 - (1 : Int32))).toNatClampNeg) < ((M_pad z) (x2).toNatClampNeg) then (X9_faultOf_J135 k4 z x2 q24) else (X9_faultOf_J118 k4 z x2 ((M_pad z) (x2).toNatClampNeg) q24 q41)))) else (if x1 = (2 : Int32) then ((f_X9_in ((M_pad z) (x2).toNatClampNeg) (49 : Int32) (57 : Int32)).bind fun q166 => (X9_faultOf_J202 k4 z (0 : Int32) x2 q166)) else (if x1 = (3 : Int32) then (X9_faultOf_J202 k4 z (4 : Int32) x2 q41) else ((f_X9_in ((M_pad z) (x2).toNatClampNeg) (48 : Int32) (51 : Int32)).bind fun q195 => (X9_faultOf_J202 k4 z (0 : Int32) x2 q195))))))))))
def f_X9_faultOf (z : MS) : Option (Int32) :=
  (it X9_faultOf_B4 (fun _ _ _ => none) FU z (0 : Int32) (0 : Int32))
theorem kv_X9_faultOf : KV RX9 yX9_faultOf cX9_faultOf 7 (some .int) 0 := ⟨mw_1018, mw_29, mw_65, mw_1019, by decide +kernel⟩
set_option maxHeartbeats 8000000 in
set_option maxRecDepth 100000 in
theorem c_X9_faultOf {l : Launch} {E : va_G} {cy : Nat → ClassId} (A : Nat → Nat) (z : MS) (q : Int32) (hf : f_X9_faultOf z = some q) : Ci l yX9_faultOf cX9_faultOf 7 (some .int) 2 82 E cy [.ref (A 0)] (wM cy A z) q (wM cy A z) := by
  refine Ci.of RX9 (by decide) rfl (Nat.le_of_ble_eq_true rfl) ?_
  intro K hK
  have hc := hK.cq
  have L4 : ∀ (n4 : Nat) (x1 : Int32) (x2 : Int32), it X9_faultOf_B4 (fun _ _ _ => none) n4 z x1 x2 = some q → V K (wM cy A z) 4 [(0, .ref (A 0)), (1, .int x1), (2, .int x2)] [] := by
    intro n4
    induction n4 with
    | zero => intro x1 x2 hf; exact (o_none hf).elim
    | succ n4 ih4 =>
      have J202 : ∀ (x1 : Int32) (x2 : Int32) (x6 : Int32), X9_faultOf_J202 (it X9_faultOf_B4 (fun _ _ _ => none) n4) z x1 x2 x6 = some q → V K (wM cy A z) 202 [(0, .ref (A 0)), (1, .int x1), (2, .int x2), (6, .int x6)] [] := by
        intro x1 x2 x6 hf
        unfold X9_faultOf_J202 at hf
        refine r_iload hc 3 dX9_faultOf_202 rfl ?_
        refine r_if_ne hc 209 dX9_faultOf_204 (by decide) (fun c_20 => ?_) (fun c_20 => ?_)
        · have hf := o_neg c_20 hf
          refine r_iinc hc 2 [(2, .int (x2 + (1 : Int32))), (0, .ref (A 0)), (1, .int x1), (6, .int x6)] (x2 + (1 : Int32)) dX9_faultOf_209 rfl rfl (by decide) rfl ?_
          refine r_goto hc 4 dX9_faultOf_212 (by decide) ?_
          exact V.sub [1, 2, 0] rfl (ih4 x1 (x2 + (1 : Int32)) hf)
        · have hf := o_pos c_20 hf
          refine r_iload_n hc 2 dX9_faultOf_207 rfl ?_
          exact r_iret hK (Option.some.inj hf) rfl dX9_faultOf_208
      have J152 : ∀ (x2 : Int32) (x6 : Int32) (s0 : Int32), X9_faultOf_J152 (it X9_faultOf_B4 (fun _ _ _ => none) n4) z x2 x6 s0 = some q → V K (wM cy A z) 152 [(0, .ref (A 0)), (2, .int x2), (6, .int x6)] [.int s0] := by
        intro x2 x6 s0 hf
        unfold X9_faultOf_J152 at hf
        refine r_istore_n hc [(1, .int s0), (0, .ref (A 0)), (2, .int x2), (6, .int x6)] dX9_faultOf_152 (by decide) rfl ?_
        refine r_goto hc 202 dX9_faultOf_153 (by decide) ?_
        exact V.sub [1, 0, 2, 3] rfl (J202 s0 x2 x6 hf)
      have J140 : ∀ (x2 : Int32) (x4 : Int32) (s0 : Int32), X9_faultOf_J140 (it X9_faultOf_B4 (fun _ _ _ => none) n4) z x2 x4 s0 = some q → V K (wM cy A z) 140 [(0, .ref (A 0)), (2, .int x2), (4, .int x4)] [.int s0] := by
        intro x2 x4 s0 hf
        unfold X9_faultOf_J140 at hf
        refine r_istore hc [(6, .int s0), (0, .ref (A 0)), (2, .int x2), (4, .int x4)] dX9_faultOf_140 (by decide) rfl ?_
        refine r_iload hc 3 dX9_faultOf_142 rfl ?_
        refine r_if_eq hc 151 dX9_faultOf_144 (by decide) (fun c_16 => ?_) (fun c_16 => ?_)
        · have hf := o_pos c_16 hf
          refine r_iconst hc (0 : Int32) dX9_faultOf_151 rfl ?_
          exact V.sub [1, 2, 0] rfl (J152 x2 s0 (0 : Int32) hf)
        · have hf := o_neg c_16 hf
          refine r_iconst hc (2 : Int32) dX9_faultOf_147 rfl ?_
          refine r_goto hc 152 dX9_faultOf_148 (by decide) ?_
          exact V.sub [1, 2, 0] rfl (J152 x2 s0 (2 : Int32) hf)
      have J135 : ∀ (x2 : Int32) (x4 : Int32), X9_faultOf_J135 (it X9_faultOf_B4 (fun _ _ _ => none) n4) z x2 x4 = some q → V K (wM cy A z) 135 [(0, .ref (A 0)), (2, .int x2), (4, .int x4)] [] := by
        intro x2 x4 hf
        unfold X9_faultOf_J135 at hf
        refine r_iconst hc (1 : Int32) dX9_faultOf_135 rfl ?_
        refine r_goto hc 140 dX9_faultOf_136 (by decide) ?_
        exact V.sub [0, 1, 2] rfl (J140 x2 x4 (1 : Int32) hf)
      have J118 : ∀ (x2 : Int32) (x3 : Int32) (x4 : Int32) (x5 : Int32), X9_faultOf_J118 (it X9_faultOf_B4 (fun _ _ _ => none) n4) z x2 x3 x4 x5 = some q → V K (wM cy A z) 118 [(0, .ref (A 0)), (2, .int x2), (3, .int x3), (4, .int x4), (5, .int x5)] [] := by
        intro x2 x3 x4 x5 hf
        unfold X9_faultOf_J118 at hf
        refine r_iload hc 4 dX9_faultOf_118 rfl ?_
        refine r_if_ne hc 135 dX9_faultOf_120 (by decide) (fun c_17 => ?_) (fun c_17 => ?_)
        · have hf := o_neg c_17 hf
          exact V.sub [0, 1, 3] rfl (J135 x2 x4 hf)
        · have hf := o_pos c_17 hf
          refine r_iload_n hc 2 dX9_faultOf_123 rfl ?_
          refine r_bipush hc (95 : Int32) dX9_faultOf_124 rfl ?_
          refine r_icmp_eq hc 135 dX9_faultOf_126 (by decide) (fun c_18 => ?_) (fun c_18 => ?_)
          · have hf := o_pos c_18 hf
            exact V.sub [0, 1, 3] rfl (J135 x2 x4 hf)
          · have hf := o_neg c_18 hf
            refine r_iload_n hc 2 dX9_faultOf_129 rfl ?_
            refine r_bipush hc (94 : Int32) dX9_faultOf_130 rfl ?_
            refine r_icmp_ne hc 139 dX9_faultOf_132 (by decide) (fun c_19 => ?_) (fun c_19 => ?_)
            · have hf := o_neg c_19 hf
              refine r_iconst hc (0 : Int32) dX9_faultOf_139 rfl ?_
              exact V.sub [0, 1, 3] rfl (J140 x2 x4 (0 : Int32) hf)
            · have hf := o_pos c_19 hf
              exact V.sub [0, 1, 3] rfl (J135 x2 x4 hf)
      have J92 : ∀ (x2 : Int32) (x6 : Int32) (s0 : Int32), X9_faultOf_J92 (it X9_faultOf_B4 (fun _ _ _ => none) n4) z x2 x6 s0 = some q → V K (wM cy A z) 92 [(0, .ref (A 0)), (2, .int x2), (6, .int x6)] [.int s0] := by
        intro x2 x6 s0 hf
        unfold X9_faultOf_J92 at hf
        refine r_istore_n hc [(1, .int s0), (0, .ref (A 0)), (2, .int x2), (6, .int x6)] dX9_faultOf_92 (by decide) rfl ?_
        refine r_goto hc 202 dX9_faultOf_93 (by decide) ?_
        exact V.sub [1, 0, 2, 3] rfl (J202 s0 x2 x6 hf)
      have J71 : ∀ (x2 : Int32) (x4 : Int32) (x5 : Int32) (s0 : Int32), X9_faultOf_J71 (it X9_faultOf_B4 (fun _ _ _ => none) n4) z x2 x4 x5 s0 = some q → V K (wM cy A z) 71 [(0, .ref (A 0)), (2, .int x2), (4, .int x4), (5, .int x5)] [.int s0] := by
        intro x2 x4 x5 s0 hf
        unfold X9_faultOf_J71 at hf
        refine r_istore hc [(6, .int s0), (0, .ref (A 0)), (2, .int x2), (4, .int x4), (5, .int x5)] dX9_faultOf_71 (by decide) rfl ?_
        refine r_iload hc 3 dX9_faultOf_73 rfl ?_
        refine r_if_eq hc 82 dX9_faultOf_75 (by decide) (fun c_14 => ?_) (fun c_14 => ?_)
        · have hf := o_pos c_14 hf
          refine r_iload hc 4 dX9_faultOf_82 rfl ?_
          refine r_if_eq hc 91 dX9_faultOf_84 (by decide) (fun c_15 => ?_) (fun c_15 => ?_)
          · have hf := o_pos c_15 hf
            refine r_iconst hc (0 : Int32) dX9_faultOf_91 rfl ?_
            exact V.sub [1, 2, 0] rfl (J92 x2 s0 (0 : Int32) hf)
          · have hf := o_neg c_15 hf
            refine r_iconst hc (3 : Int32) dX9_faultOf_87 rfl ?_
            refine r_goto hc 92 dX9_faultOf_88 (by decide) ?_
            exact V.sub [1, 2, 0] rfl (J92 x2 s0 (3 : Int32) hf)
        · have hf := o_neg c_14 hf
          refine r_iconst hc (1 : Int32) dX9_faultOf_78 rfl ?_
          refine r_goto hc 92 dX9_faultOf_79 (by decide) ?_
          exact V.sub [1, 2, 0] rfl (J92 x2 s0 (1 : Int32) hf)
      have J66 : ∀ (x2 : Int32) (x4 : Int32) (x5 : Int32), X9_faultOf_J66 (it X9_faultOf_B4 (fun _ _ _ => none) n4) z x2 x4 x5 = some q → V K (wM cy A z) 66 [(0, .ref (A 0)), (2, .int x2), (4, .int x4), (5, .int x5)] [] := by
        intro x2 x4 x5 hf
        unfold X9_faultOf_J66 at hf
        refine r_iconst hc (1 : Int32) dX9_faultOf_66 rfl ?_
        refine r_goto hc 71 dX9_faultOf_67 (by decide) ?_
        exact V.sub [0, 1, 2, 3] rfl (J71 x2 x4 x5 (1 : Int32) hf)
      intro x1 x2 hf
      replace hf : X9_faultOf_B4 (it X9_faultOf_B4 (fun _ _ _ => none) n4) z x1 x2 = some q := hf
      unfold X9_faultOf_B4 at hf
      refine r_iload_n hc 2 dX9_faultOf_4 rfl ?_
      refine r_aload_n hc 0 dX9_faultOf_5 rfl ?_
      refine r_get (v := .int (M_signs z)) hc iw_X9 0 rfl rfl 13 (by decide) mw_873 rfl dX9_faultOf_6 ?_
      refine r_icmp_ge hc 215 dX9_faultOf_9 (by decide) (fun c_1 => ?_) (fun c_1 => ?_)
      · have hf := o_pos c_1 hf
        refine r_iload_n hc 1 dX9_faultOf_215 rfl ?_
        refine r_if_ne hc 224 dX9_faultOf_216 (by decide) (fun c_2 => ?_) (fun c_2 => ?_)
        · have hf := o_neg c_2 hf
          refine r_aload_n hc 0 dX9_faultOf_224 rfl ?_
          refine r_get (v := .int (M_signs z)) hc iw_X9 0 rfl rfl 13 (by decide) mw_873 rfl dX9_faultOf_225 ?_
          exact r_iret hK (Option.some.inj hf) rfl dX9_faultOf_228
        · have hf := o_pos c_2 hf
          refine r_bipush hc (-6 : Int32) dX9_faultOf_219 rfl ?_
          refine r_goto hc 228 dX9_faultOf_221 (by decide) ?_
          exact r_iret hK (Option.some.inj hf) rfl dX9_faultOf_228
      · have hf := o_neg c_1 hf
        refine r_aload_n hc 0 dX9_faultOf_12 rfl ?_
        refine r_get (v := .ref (A 11)) hc iw_X9 0 rfl rfl 14 (by decide) mw_874 rfl dX9_faultOf_13 ?_
        refine r_iload_n hc 2 dX9_faultOf_16 rfl ?_
        obtain ⟨i_3, hf⟩ := chk_some hf
        refine r_iald (f := (M_pad z)) hc 11 rfl i_3 dX9_faultOf_17 ?_
        refine r_istore_n hc [(3, .int ((M_pad z) (x2).toNatClampNeg)), (0, .ref (A 0)), (1, .int x1), (2, .int x2)] dX9_faultOf_18 (by decide) rfl ?_
        refine r_iload_n hc 0 dX9_faultOf_19 rfl ?_
        refine r_bipush hc (65 : Int32) dX9_faultOf_20 rfl ?_
        refine r_bipush hc (72 : Int32) dX9_faultOf_22 rfl ?_
        obtain ⟨q24, hq24, hf⟩ := o_bind hf
        refine r_callSi (ws' := (wM cy A z)) (As := [.int ((M_pad z) (x2).toNatClampNeg), .int (65 : Int32), .int (72 : Int32)]) (rest := []) hc (c_X9_in  ((M_pad z) (x2).toNatClampNeg) (65 : Int32) (72 : Int32) q24 hq24) ks_X9_in mw_955 _ _ _ (Sp_none _) rfl rfl (Nat.le_of_ble_eq_true rfl) ⟨by decide, by decide⟩ dX9_faultOf_24 ?_
        refine r_istore hc [(4, .int q24), (3, .int ((M_pad z) (x2).toNatClampNeg)), (0, .ref (A 0)), (1, .int x1), (2, .int x2)] dX9_faultOf_27 (by decide) rfl ?_
        refine r_iload_n hc 1 dX9_faultOf_29 rfl ?_
        refine r_bipush hc (97 : Int32) dX9_faultOf_30 rfl ?_
        refine r_bipush hc (97 : Int32) dX9_faultOf_32 rfl ?_
        refine r_aload_n hc 2 dX9_faultOf_34 rfl ?_
        refine r_get (v := .int (M_rooms z)) hc iw_X9 0 rfl rfl 0 (by decide) mw_860 rfl dX9_faultOf_35 ?_
        refine r_iadd hc dX9_faultOf_38 ?_
        refine r_iconst hc (1 : Int32) dX9_faultOf_39 rfl ?_
        refine r_isub hc dX9_faultOf_40 ?_
        obtain ⟨q41, hq41, hf⟩ := o_bind hf
        refine r_callSi (ws' := (wM cy A z)) (As := [.int ((M_pad z) (x2).toNatClampNeg), .int (97 : Int32), .int (((97 : Int32) + (M_rooms z)) - (1 : Int32))]) (rest := []) hc (c_X9_in  ((M_pad z) (x2).toNatClampNeg) (97 : Int32) (((97 : Int32) + (M_rooms z)) - (1 : Int32)) q41 hq41) ks_X9_in mw_955 _ _ _ (Sp_none _) rfl rfl (Nat.le_of_ble_eq_true rfl) ⟨by decide, by decide⟩ dX9_faultOf_41 ?_
        refine r_istore hc [(5, .int q41), (4, .int q24), (3, .int ((M_pad z) (x2).toNatClampNeg)), (0, .ref (A 0)), (1, .int x1), (2, .int x2)] dX9_faultOf_44 (by decide) rfl ?_
        refine r_iload_n hc 4 dX9_faultOf_46 rfl ?_
        refine r_if_ne hc 96 dX9_faultOf_47 (by decide) (fun c_4 => ?_) (fun c_4 => ?_)
        · have hf := o_neg c_4 hf
          refine r_iload_n hc 4 dX9_faultOf_96 rfl ?_
          refine r_iconst hc (1 : Int32) dX9_faultOf_97 rfl ?_
          refine r_icmp_ne hc 156 dX9_faultOf_98 (by decide) (fun c_5 => ?_) (fun c_5 => ?_)
          · have hf := o_neg c_5 hf
            refine r_iload_n hc 4 dX9_faultOf_156 rfl ?_
            refine r_iconst hc (2 : Int32) dX9_faultOf_157 rfl ?_
            refine r_icmp_ne hc 176 dX9_faultOf_158 (by decide) (fun c_6 => ?_) (fun c_6 => ?_)
            · have hf := o_neg c_6 hf
              refine r_iload_n hc 4 dX9_faultOf_176 rfl ?_
              refine r_iconst hc (3 : Int32) dX9_faultOf_177 rfl ?_
              refine r_icmp_ne hc 190 dX9_faultOf_178 (by decide) (fun c_7 => ?_) (fun c_7 => ?_)
              · have hf := o_neg c_7 hf
                refine r_iload_n hc 2 dX9_faultOf_190 rfl ?_
                refine r_bipush hc (48 : Int32) dX9_faultOf_191 rfl ?_
                refine r_bipush hc (51 : Int32) dX9_faultOf_193 rfl ?_
                obtain ⟨q195, hq195, hf⟩ := o_bind hf
                refine r_callSi (ws' := (wM cy A z)) (As := [.int ((M_pad z) (x2).toNatClampNeg), .int (48 : Int32), .int (51 : Int32)]) (rest := []) hc (c_X9_in  ((M_pad z) (x2).toNatClampNeg) (48 : Int32) (51 : Int32) q195 hq195) ks_X9_in mw_955 _ _ _ (Sp_none _) rfl rfl (Nat.le_of_ble_eq_true rfl) ⟨by decide, by decide⟩ dX9_faultOf_195 ?_
                refine r_istore hc [(6, .int q195), (5, .int q41), (4, .int q24), (3, .int ((M_pad z) (x2).toNatClampNeg)), (0, .ref (A 0)), (1, .int x1), (2, .int x2)] dX9_faultOf_198 (by decide) rfl ?_
                refine r_iconst hc (0 : Int32) dX9_faultOf_200 rfl ?_
                refine r_istore_n hc [(1, .int (0 : Int32)), (6, .int q195), (5, .int q41), (4, .int q24), (3, .int ((M_pad z) (x2).toNatClampNeg)), (0, .ref (A 0)), (2, .int x2)] dX9_faultOf_201 (by decide) rfl ?_
                exact V.sub [5, 0, 6, 1] rfl (J202 (0 : Int32) x2 q195 hf)
              · have hf := o_pos c_7 hf
                refine r_iload hc 0 dX9_faultOf_181 rfl ?_
                refine r_istore hc [(6, .int q41), (5, .int q41), (4, .int q24), (3, .int ((M_pad z) (x2).toNatClampNeg)), (0, .ref (A 0)), (1, .int x1), (2, .int x2)] dX9_faultOf_183 (by decide) rfl ?_
                refine r_iconst hc (4 : Int32) dX9_faultOf_185 rfl ?_
                refine r_istore_n hc [(1, .int (4 : Int32)), (6, .int q41), (5, .int q41), (4, .int q24), (3, .int ((M_pad z) (x2).toNatClampNeg)), (0, .ref (A 0)), (2, .int x2)] dX9_faultOf_186 (by decide) rfl ?_
                refine r_goto hc 202 dX9_faultOf_187 (by decide) ?_
                exact V.sub [5, 0, 6, 1] rfl (J202 (4 : Int32) x2 q41 hf)
            · have hf := o_pos c_6 hf
              refine r_iload_n hc 2 dX9_faultOf_161 rfl ?_
              refine r_bipush hc (49 : Int32) dX9_faultOf_162 rfl ?_
              refine r_bipush hc (57 : Int32) dX9_faultOf_164 rfl ?_
              obtain ⟨q166, hq166, hf⟩ := o_bind hf
              refine r_callSi (ws' := (wM cy A z)) (As := [.int ((M_pad z) (x2).toNatClampNeg), .int (49 : Int32), .int (57 : Int32)]) (rest := []) hc (c_X9_in  ((M_pad z) (x2).toNatClampNeg) (49 : Int32) (57 : Int32) q166 hq166) ks_X9_in mw_955 _ _ _ (Sp_none _) rfl rfl (Nat.le_of_ble_eq_true rfl) ⟨by decide, by decide⟩ dX9_faultOf_166 ?_
              refine r_istore hc [(6, .int q166), (5, .int q41), (4, .int q24), (3, .int ((M_pad z) (x2).toNatClampNeg)), (0, .ref (A 0)), (1, .int x1), (2, .int x2)] dX9_faultOf_169 (by decide) rfl ?_
              refine r_iconst hc (0 : Int32) dX9_faultOf_171 rfl ?_
              refine r_istore_n hc [(1, .int (0 : Int32)), (6, .int q166), (5, .int q41), (4, .int q24), (3, .int ((M_pad z) (x2).toNatClampNeg)), (0, .ref (A 0)), (2, .int x2)] dX9_faultOf_172 (by decide) rfl ?_
              refine r_goto hc 202 dX9_faultOf_173 (by decide) ?_
              exact V.sub [5, 0, 6, 1] rfl (J202 (0 : Int32) x2 q166 hf)
          · have hf := o_pos c_5 hf
            refine r_iload hc 1 dX9_faultOf_101 rfl ?_
            refine r_if_eq hc 118 dX9_faultOf_103 (by decide) (fun c_8 => ?_) (fun c_8 => ?_)
            · have hf := o_pos c_8 hf
              exact V.sub [3, 5, 2, 1, 0] rfl (J118 x2 ((M_pad z) (x2).toNatClampNeg) q24 q41 hf)
            · have hf := o_neg c_8 hf
              refine r_iload_n hc 2 dX9_faultOf_106 rfl ?_
              refine r_aload_n hc 3 dX9_faultOf_107 rfl ?_
              refine r_get (v := .ref (A 11)) hc iw_X9 0 rfl rfl 14 (by decide) mw_874 rfl dX9_faultOf_108 ?_
              refine r_iload_n hc 5 dX9_faultOf_111 rfl ?_
              refine r_iconst hc (1 : Int32) dX9_faultOf_112 rfl ?_
              refine r_isub hc dX9_faultOf_113 ?_
              obtain ⟨i_9, hf⟩ := chk_some hf
              refine r_iald (f := (M_pad z)) hc 11 rfl i_9 dX9_faultOf_114 ?_
              refine r_icmp_gt hc 135 dX9_faultOf_115 (by decide) (fun c_10 => ?_) (fun c_10 => ?_)
              · have hf := o_pos c_10 hf
                exact V.sub [3, 5, 1] rfl (J135 x2 q24 hf)
              · have hf := o_neg c_10 hf
                exact V.sub [3, 5, 2, 1, 0] rfl (J118 x2 ((M_pad z) (x2).toNatClampNeg) q24 q41 hf)
        · have hf := o_pos c_4 hf
          refine r_iload hc 1 dX9_faultOf_50 rfl ?_
          refine r_if_ne hc 66 dX9_faultOf_52 (by decide) (fun c_11 => ?_) (fun c_11 => ?_)
          · have hf := o_neg c_11 hf
            exact V.sub [3, 5, 1, 0] rfl (J66 x2 q24 q41 hf)
          · have hf := o_pos c_11 hf
            refine r_iload hc 0 dX9_faultOf_55 rfl ?_
            refine r_if_ne hc 66 dX9_faultOf_57 (by decide) (fun c_12 => ?_) (fun c_12 => ?_)
            · have hf := o_neg c_12 hf
              exact V.sub [3, 5, 1, 0] rfl (J66 x2 q24 q41 hf)
            · have hf := o_pos c_12 hf
              refine r_iload_n hc 2 dX9_faultOf_60 rfl ?_
              refine r_bipush hc (46 : Int32) dX9_faultOf_61 rfl ?_
              refine r_icmp_ne hc 70 dX9_faultOf_63 (by decide) (fun c_13 => ?_) (fun c_13 => ?_)
              · have hf := o_neg c_13 hf
                refine r_iconst hc (0 : Int32) dX9_faultOf_70 rfl ?_
                exact V.sub [3, 5, 1, 0] rfl (J71 x2 q24 q41 (0 : Int32) hf)
              · have hf := o_pos c_13 hf
                exact V.sub [3, 5, 1, 0] rfl (J66 x2 q24 q41 hf)
  show V K (wM cy A z) 0 [(0, .ref (A 0))] []
  unfold f_X9_faultOf at hf
  refine r_iconst hc (0 : Int32) dX9_faultOf_0 rfl ?_
  refine r_istore_n hc [(1, .int (0 : Int32)), (0, .ref (A 0))] dX9_faultOf_1 (by decide) rfl ?_
  refine r_iconst hc (0 : Int32) dX9_faultOf_2 rfl ?_
  refine r_istore_n hc [(2, .int (0 : Int32)), (1, .int (0 : Int32)), (0, .ref (A 0))] dX9_faultOf_3 (by decide) rfl ?_
  exact V.sub [2, 1, 0] rfl (L4 FU (0 : Int32) (0 : Int32) hf)
def f_X9_fault (z : MS) : Option (Int32) :=
  ((f_X9_faultOf z).bind fun q1 => (some (q1)))
theorem kv_X9_fault : KV RX9 yX9_fault cX9_fault 1 (some .int) 0 := ⟨mw_1013, mw_1014, mw_65, mw_1015, by decide +kernel⟩
set_option maxHeartbeats 8000000 in
set_option maxRecDepth 100000 in
theorem c_X9_fault {l : Launch} {E : va_G} {cy : Nat → ClassId} (A : Nat → Nat) (z : MS) (q : Int32) (hf : f_X9_fault z = some q) : Ci l yX9_fault cX9_fault 1 (some .int) 3 108 E cy [.ref (A 0)] (wM cy A z) q (wM cy A z) := by
  refine Ci.of RX9 (by decide) rfl (Nat.le_of_ble_eq_true rfl) ?_
  intro K hK
  have hc := hK.cq
  show V K (wM cy A z) 0 [(0, .ref (A 0))] []
  unfold f_X9_fault at hf
  refine r_aload_n hc 0 dX9_fault_0 rfl ?_
  obtain ⟨q1, hq1, hf⟩ := o_bind hf
  refine r_callVi (ws' := (wM cy A z)) (As := []) (rest := []) hc (c_X9_faultOf A z q1 hq1) kv_X9_faultOf mw_1016 0 rfl rfl _ _ _ (Sp_all _ _) rfl rfl (Nat.le_of_ble_eq_true rfl) ⟨by decide, by decide⟩ dX9_fault_1 ?_
  exact r_iret hK (Option.some.inj hf) rfl dX9_fault_4
def X9_asNow_B64 (k64 : MS → Int32 → Option (MS)) (z : MS) (x1 : Int32) : Option (MS) :=
  (if (24 : Int32) ≤ x1 then (ltA (M_set_loose z (-6 : Int32)) fun z91 => (some (z91))) else (chk x1 24 (chk x1 24 (ltA (M_set_thingsNow z (upd (M_thingsNow z) (x1).toNatClampNeg ((M_things z) (x1).toNatClampNeg))) fun z81 => (k64 z81 (x1 + (1 : Int32)))))))
def X9_asNow_B2 (k2 : MS → Int32 → Option (MS)) (z : MS) (x1 : Int32) : Option (MS) :=
  (if (8 : Int32) ≤ x1 then (it X9_asNow_B64 (fun _ _ => none) FU z (0 : Int32)) else (chk x1 8 (chk x1 8 (ltA (M_set_at z (upd (M_at z) (x1).toNatClampNeg ((M_place z) (x1).toNatClampNeg))) fun z19 => (chk x1 8 (chk x1 8 (ltA (M_set_busyNow z19 (upd (M_busyNow z19) (x1).toNatClampNeg ((M_busy z19) (x1).toNatClampNeg))) fun z31 => (chk x1 8 (chk x1 8 (ltA (M_set_withNow z31 (upd (M_withNow z31) (x1).toNatClampNeg ((M_with z31) (x1).toNatClampNeg))) fun z43 => (chk x1 8 (chk x1 8 (ltA (M_set_leftNow z43 (upd (M_leftNow z43) (x1).toNatClampNeg ((M_left z43) (x1).toNatClampNeg))) fun z55 => (k2 z55 (x1 + (1 : Int32))))))))))))))))
def f_X9_asNow (z : MS) : Option (MS) :=
  (it X9_asNow_B2 (fun _ _ => none) FU z (0 : Int32))
theorem kv_X9_asNow : KV RX9 yX9_asNow cX9_asNow 2 none 0 := ⟨mw_1030, mw_31, mw_65, mw_1031, by decide +kernel⟩
set_option maxHeartbeats 8000000 in
set_option maxRecDepth 100000 in
theorem c_X9_asNow {l : Launch} {E : va_G} {cy : Nat → ClassId} (A : Nat → Nat) (z : MS) (q : MS) (hf : f_X9_asNow z = some q) : Cv l yX9_asNow cX9_asNow 2 none 1 60 E cy [.ref (A 0)] (wM cy A z) (wM cy A q) := by
  refine Cv.of RX9 (by decide) rfl (Nat.le_of_ble_eq_true rfl) ?_
  intro K hK
  have hc := hK.cq
  have L64 : ∀ (n64 : Nat) (z : MS) (x1 : Int32), it X9_asNow_B64 (fun _ _ => none) n64 z x1 = some q → V K (wM cy A z) 64 [(0, .ref (A 0)), (1, .int x1)] [] := by
    intro n64
    induction n64 with
    | zero => intro z x1 hf; exact (o_none hf).elim
    | succ n64 ih64 =>
      intro z x1 hf
      replace hf : X9_asNow_B64 (it X9_asNow_B64 (fun _ _ => none) n64) z x1 = some q := hf
      unfold X9_asNow_B64 at hf
      refine r_iload_n hc 1 dX9_asNow_64 rfl ?_
      refine r_bipush hc (24 : Int32) dX9_asNow_65 rfl ?_
      refine r_icmp_ge hc 88 dX9_asNow_67 (by decide) (fun c_10 => ?_) (fun c_10 => ?_)
      · have hf := o_pos c_10 hf
        refine r_aload_n hc 0 dX9_asNow_88 rfl ?_
        refine r_bipush hc (-6 : Int32) dX9_asNow_89 rfl ?_
        obtain ⟨z91, ez91, hf⟩ := lt_some hf
        refine r_put hc iw_X9 tyX9 tyX9_ok nmX9 0 rfl rfl 20 (by decide) mw_880 rfl rfl rfl (Nat.le_of_ble_eq_true rfl) dX9_asNow_91 (wM cy A z91) (wM_s_loose ez91) ?_
        exact r_vret hK (congrArg (fun z9 => (wM cy A z9)) (Option.some.inj hf)) dX9_asNow_94
      · have hf := o_neg c_10 hf
        refine r_aload_n hc 0 dX9_asNow_70 rfl ?_
        refine r_get (v := .ref (A 16)) hc iw_X9 0 rfl rfl 19 (by decide) mw_879 rfl dX9_asNow_71 ?_
        refine r_iload_n hc 1 dX9_asNow_74 rfl ?_
        refine r_aload_n hc 0 dX9_asNow_75 rfl ?_
        refine r_get (v := .ref (A 1)) hc iw_X9 0 rfl rfl 1 (by decide) mw_861 rfl dX9_asNow_76 ?_
        refine r_iload_n hc 1 dX9_asNow_79 rfl ?_
        obtain ⟨i_11, hf⟩ := chk_some hf
        refine r_iald (f := (M_things z)) hc 1 rfl i_11 dX9_asNow_80 ?_
        obtain ⟨i_12, hf⟩ := chk_some hf
        obtain ⟨z81, ez81, hf⟩ := lt_some hf
        refine r_iast (f := (M_thingsNow z)) hc 16 rfl i_12 dX9_asNow_81 _ rfl (wM cy A z81) (wM_s_thingsNow ez81) ?_
        refine r_iinc hc 1 [(1, .int (x1 + (1 : Int32))), (0, .ref (A 0))] (x1 + (1 : Int32)) dX9_asNow_82 rfl rfl (by decide) rfl ?_
        refine r_goto hc 64 dX9_asNow_85 (by decide) ?_
        exact V.sub [1, 0] rfl (ih64 z81 (x1 + (1 : Int32)) hf)
  have L2 : ∀ (n2 : Nat) (z : MS) (x1 : Int32), it X9_asNow_B2 (fun _ _ => none) n2 z x1 = some q → V K (wM cy A z) 2 [(0, .ref (A 0)), (1, .int x1)] [] := by
    intro n2
    induction n2 with
    | zero => intro z x1 hf; exact (o_none hf).elim
    | succ n2 ih2 =>
      intro z x1 hf
      replace hf : X9_asNow_B2 (it X9_asNow_B2 (fun _ _ => none) n2) z x1 = some q := hf
      unfold X9_asNow_B2 at hf
      refine r_iload_n hc 1 dX9_asNow_2 rfl ?_
      refine r_bipush hc (8 : Int32) dX9_asNow_3 rfl ?_
      refine r_icmp_ge hc 62 dX9_asNow_5 (by decide) (fun c_1 => ?_) (fun c_1 => ?_)
      · have hf := o_pos c_1 hf
        refine r_iconst hc (0 : Int32) dX9_asNow_62 rfl ?_
        refine r_istore_n hc [(1, .int (0 : Int32)), (0, .ref (A 0))] dX9_asNow_63 (by decide) rfl ?_
        exact V.sub [1, 0] rfl (L64 FU z (0 : Int32) hf)
      · have hf := o_neg c_1 hf
        refine r_aload_n hc 0 dX9_asNow_8 rfl ?_
        refine r_get (v := .ref (A 12)) hc iw_X9 0 rfl rfl 15 (by decide) mw_875 rfl dX9_asNow_9 ?_
        refine r_iload_n hc 1 dX9_asNow_12 rfl ?_
        refine r_aload_n hc 0 dX9_asNow_13 rfl ?_
        refine r_get (v := .ref (A 6)) hc iw_X9 0 rfl rfl 7 (by decide) mw_867 rfl dX9_asNow_14 ?_
        refine r_iload_n hc 1 dX9_asNow_17 rfl ?_
        obtain ⟨i_2, hf⟩ := chk_some hf
        refine r_iald (f := (M_place z)) hc 6 rfl i_2 dX9_asNow_18 ?_
        obtain ⟨i_3, hf⟩ := chk_some hf
        obtain ⟨z19, ez19, hf⟩ := lt_some hf
        refine r_iast (f := (M_at z)) hc 12 rfl i_3 dX9_asNow_19 _ rfl (wM cy A z19) (wM_s_at ez19) ?_
        refine r_aload_n hc 0 dX9_asNow_20 rfl ?_
        refine r_get (v := .ref (A 13)) hc iw_X9 0 rfl rfl 16 (by decide) mw_876 rfl dX9_asNow_21 ?_
        refine r_iload_n hc 1 dX9_asNow_24 rfl ?_
        refine r_aload_n hc 0 dX9_asNow_25 rfl ?_
        refine r_get (v := .ref (A 7)) hc iw_X9 0 rfl rfl 8 (by decide) mw_868 rfl dX9_asNow_26 ?_
        refine r_iload_n hc 1 dX9_asNow_29 rfl ?_
        obtain ⟨i_4, hf⟩ := chk_some hf
        refine r_iald (f := (M_busy z19)) hc 7 rfl i_4 dX9_asNow_30 ?_
        obtain ⟨i_5, hf⟩ := chk_some hf
        obtain ⟨z31, ez31, hf⟩ := lt_some hf
        refine r_iast (f := (M_busyNow z19)) hc 13 rfl i_5 dX9_asNow_31 _ rfl (wM cy A z31) (wM_s_busyNow ez31) ?_
        refine r_aload_n hc 0 dX9_asNow_32 rfl ?_
        refine r_get (v := .ref (A 14)) hc iw_X9 0 rfl rfl 17 (by decide) mw_877 rfl dX9_asNow_33 ?_
        refine r_iload_n hc 1 dX9_asNow_36 rfl ?_
        refine r_aload_n hc 0 dX9_asNow_37 rfl ?_
        refine r_get (v := .ref (A 8)) hc iw_X9 0 rfl rfl 9 (by decide) mw_869 rfl dX9_asNow_38 ?_
        refine r_iload_n hc 1 dX9_asNow_41 rfl ?_
        obtain ⟨i_6, hf⟩ := chk_some hf
        refine r_iald (f := (M_with z31)) hc 8 rfl i_6 dX9_asNow_42 ?_
        obtain ⟨i_7, hf⟩ := chk_some hf
        obtain ⟨z43, ez43, hf⟩ := lt_some hf
        refine r_iast (f := (M_withNow z31)) hc 14 rfl i_7 dX9_asNow_43 _ rfl (wM cy A z43) (wM_s_withNow ez43) ?_
        refine r_aload_n hc 0 dX9_asNow_44 rfl ?_
        refine r_get (v := .ref (A 15)) hc iw_X9 0 rfl rfl 18 (by decide) mw_878 rfl dX9_asNow_45 ?_
        refine r_iload_n hc 1 dX9_asNow_48 rfl ?_
        refine r_aload_n hc 0 dX9_asNow_49 rfl ?_
        refine r_get (v := .ref (A 9)) hc iw_X9 0 rfl rfl 10 (by decide) mw_870 rfl dX9_asNow_50 ?_
        refine r_iload_n hc 1 dX9_asNow_53 rfl ?_
        obtain ⟨i_8, hf⟩ := chk_some hf
        refine r_iald (f := (M_left z43)) hc 9 rfl i_8 dX9_asNow_54 ?_
        obtain ⟨i_9, hf⟩ := chk_some hf
        obtain ⟨z55, ez55, hf⟩ := lt_some hf
        refine r_iast (f := (M_leftNow z43)) hc 15 rfl i_9 dX9_asNow_55 _ rfl (wM cy A z55) (wM_s_leftNow ez55) ?_
        refine r_iinc hc 1 [(1, .int (x1 + (1 : Int32))), (0, .ref (A 0))] (x1 + (1 : Int32)) dX9_asNow_56 rfl rfl (by decide) rfl ?_
        refine r_goto hc 2 dX9_asNow_59 (by decide) ?_
        exact V.sub [1, 0] rfl (ih2 z55 (x1 + (1 : Int32)) hf)
  show V K (wM cy A z) 0 [(0, .ref (A 0))] []
  unfold f_X9_asNow at hf
  refine r_iconst hc (0 : Int32) dX9_asNow_0 rfl ?_
  refine r_istore_n hc [(1, .int (0 : Int32)), (0, .ref (A 0))] dX9_asNow_1 (by decide) rfl ?_
  exact V.sub [1, 0] rfl (L2 FU z (0 : Int32) hf)
def X9_countIn_J47 (k5 : MS → Int32 → Int32 → Int32 → Int32 → Option (Int32)) (z : MS) (x1 : Int32) (x2 : Int32) (x4 : Int32) (s0 : Int32) (s1 : Int32) : Option (Int32) :=
  (k5 z x1 x2 (s1 + s0) (x4 + (1 : Int32)))
def X9_countIn_J46 (k5 : MS → Int32 → Int32 → Int32 → Int32 → Option (Int32)) (z : MS) (x1 : Int32) (x2 : Int32) (x4 : Int32) (s0 : Int32) : Option (Int32) :=
  (X9_countIn_J47 k5 z x1 x2 x4 (0 : Int32) s0)
def X9_countIn_B5 (k5 : MS → Int32 → Int32 → Int32 → Int32 → Option (Int32)) (z : MS) (x1 : Int32) (x2 : Int32) (x3 : Int32) (x4 : Int32) : Option (Int32) :=
  (if (8 : Int32) ≤ x4 then (some (x3)) else ((f_X9_has (M_there z) x4).bind fun q19 => (if q19 = 0 then (X9_countIn_J46 k5 z x1 x2 x4 x3) else (if x4 = x2 then (X9_countIn_J46 k5 z x1 x2 x4 x3) else (chk x4 8 (if ((M_at z) (x4).toNatClampNeg) = x1 then (X9_countIn_J47 k5 z x1 x2 x4 (1 : Int32) x3) else (X9_countIn_J46 k5 z x1 x2 x4 x3)))))))
def f_X9_countIn (z : MS) (x1 : Int32) (x2 : Int32) : Option (Int32) :=
  (it X9_countIn_B5 (fun _ _ _ _ _ => none) FU z x1 x2 (0 : Int32) (0 : Int32))
theorem kv_X9_countIn : KV RX9 yX9_countIn cX9_countIn 5 (some .int) 2 := ⟨mw_1050, mw_36, mw_65, mw_1051, by decide +kernel⟩
set_option maxHeartbeats 8000000 in
set_option maxRecDepth 100000 in
theorem c_X9_countIn {l : Launch} {E : va_G} {cy : Nat → ClassId} (A : Nat → Nat) (z : MS) (x1 : Int32) (x2 : Int32) (q : Int32) (hf : f_X9_countIn z x1 x2 = some q) : Ci l yX9_countIn cX9_countIn 5 (some .int) 2 81 E cy [.ref (A 0), .int x1, .int x2] (wM cy A z) q (wM cy A z) := by
  refine Ci.of RX9 (by decide) rfl (Nat.le_of_ble_eq_true rfl) ?_
  intro K hK
  have hc := hK.cq
  have L5 : ∀ (n5 : Nat) (x1 : Int32) (x2 : Int32) (x3 : Int32) (x4 : Int32), it X9_countIn_B5 (fun _ _ _ _ _ => none) n5 z x1 x2 x3 x4 = some q → V K (wM cy A z) 5 [(0, .ref (A 0)), (1, .int x1), (2, .int x2), (3, .int x3), (4, .int x4)] [] := by
    intro n5
    induction n5 with
    | zero => intro x1 x2 x3 x4 hf; exact (o_none hf).elim
    | succ n5 ih5 =>
      have J47 : ∀ (x1 : Int32) (x2 : Int32) (x4 : Int32) (s0 : Int32) (s1 : Int32), X9_countIn_J47 (it X9_countIn_B5 (fun _ _ _ _ _ => none) n5) z x1 x2 x4 s0 s1 = some q → V K (wM cy A z) 47 [(0, .ref (A 0)), (1, .int x1), (2, .int x2), (4, .int x4)] [.int s0, .int s1] := by
        intro x1 x2 x4 s0 s1 hf
        unfold X9_countIn_J47 at hf
        refine r_iadd hc dX9_countIn_47 ?_
        refine r_istore_n hc [(3, .int (s1 + s0)), (0, .ref (A 0)), (1, .int x1), (2, .int x2), (4, .int x4)] dX9_countIn_48 (by decide) rfl ?_
        refine r_iinc hc 4 [(4, .int (x4 + (1 : Int32))), (3, .int (s1 + s0)), (0, .ref (A 0)), (1, .int x1), (2, .int x2)] (x4 + (1 : Int32)) dX9_countIn_49 rfl rfl (by decide) rfl ?_
        refine r_goto hc 5 dX9_countIn_52 (by decide) ?_
        exact V.sub [2, 3, 4, 1, 0] rfl (ih5 x1 x2 (s1 + s0) (x4 + (1 : Int32)) hf)
      have J46 : ∀ (x1 : Int32) (x2 : Int32) (x4 : Int32) (s0 : Int32), X9_countIn_J46 (it X9_countIn_B5 (fun _ _ _ _ _ => none) n5) z x1 x2 x4 s0 = some q → V K (wM cy A z) 46 [(0, .ref (A 0)), (1, .int x1), (2, .int x2), (4, .int x4)] [.int s0] := by
        intro x1 x2 x4 s0 hf
        unfold X9_countIn_J46 at hf
        refine r_iconst hc (0 : Int32) dX9_countIn_46 rfl ?_
        exact V.sub [0, 1, 2, 3] rfl (J47 x1 x2 x4 (0 : Int32) s0 hf)
      intro x1 x2 x3 x4 hf
      replace hf : X9_countIn_B5 (it X9_countIn_B5 (fun _ _ _ _ _ => none) n5) z x1 x2 x3 x4 = some q := hf
      unfold X9_countIn_B5 at hf
      refine r_iload hc 4 dX9_countIn_5 rfl ?_
      refine r_bipush hc (8 : Int32) dX9_countIn_7 rfl ?_
      refine r_icmp_ge hc 55 dX9_countIn_9 (by decide) (fun c_1 => ?_) (fun c_1 => ?_)
      · have hf := o_pos c_1 hf
        refine r_iload_n hc 3 dX9_countIn_55 rfl ?_
        exact r_iret hK (Option.some.inj hf) rfl dX9_countIn_56
      · have hf := o_neg c_1 hf
        refine r_iload_n hc 3 dX9_countIn_12 rfl ?_
        refine r_aload_n hc 0 dX9_countIn_13 rfl ?_
        refine r_get (v := .int (M_there z)) hc iw_X9 0 rfl rfl 5 (by decide) mw_865 rfl dX9_countIn_14 ?_
        refine r_iload hc 4 dX9_countIn_17 rfl ?_
        obtain ⟨q19, hq19, hf⟩ := o_bind hf
        refine r_callSi (ws' := (wM cy A z)) (As := [.int (M_there z), .int x4]) (rest := [.int x3]) hc (c_X9_has  (M_there z) x4 q19 hq19) ks_X9_has mw_970 _ _ _ (Sp_none _) rfl rfl (Nat.le_of_ble_eq_true rfl) ⟨by decide, by decide⟩ dX9_countIn_19 ?_
        refine r_if_eq hc 46 dX9_countIn_22 (by decide) (fun c_2 => ?_) (fun c_2 => ?_)
        · have hf := o_pos c_2 hf
          exact V.sub [0, 1, 2, 4] rfl (J46 x1 x2 x4 x3 hf)
        · have hf := o_neg c_2 hf
          refine r_iload hc 4 dX9_countIn_25 rfl ?_
          refine r_iload_n hc 2 dX9_countIn_27 rfl ?_
          refine r_icmp_eq hc 46 dX9_countIn_28 (by decide) (fun c_3 => ?_) (fun c_3 => ?_)
          · have hf := o_pos c_3 hf
            exact V.sub [0, 1, 2, 4] rfl (J46 x1 x2 x4 x3 hf)
          · have hf := o_neg c_3 hf
            refine r_aload_n hc 0 dX9_countIn_31 rfl ?_
            refine r_get (v := .ref (A 12)) hc iw_X9 0 rfl rfl 15 (by decide) mw_875 rfl dX9_countIn_32 ?_
            refine r_iload hc 4 dX9_countIn_35 rfl ?_
            obtain ⟨i_4, hf⟩ := chk_some hf
            refine r_iald (f := (M_at z)) hc 12 rfl i_4 dX9_countIn_37 ?_
            refine r_iload_n hc 1 dX9_countIn_38 rfl ?_
            refine r_icmp_ne hc 46 dX9_countIn_39 (by decide) (fun c_5 => ?_) (fun c_5 => ?_)
            · have hf := o_neg c_5 hf
              exact V.sub [0, 1, 2, 4] rfl (J46 x1 x2 x4 x3 hf)
            · have hf := o_pos c_5 hf
              refine r_iconst hc (1 : Int32) dX9_countIn_42 rfl ?_
              refine r_goto hc 47 dX9_countIn_43 (by decide) ?_
              exact V.sub [0, 1, 2, 4] rfl (J47 x1 x2 x4 (1 : Int32) x3 hf)
  show V K (wM cy A z) 0 [(0, .ref (A 0)), (1, .int x1), (2, .int x2)] []
  unfold f_X9_countIn at hf
  refine r_iconst hc (0 : Int32) dX9_countIn_0 rfl ?_
  refine r_istore_n hc [(3, .int (0 : Int32)), (0, .ref (A 0)), (1, .int x1), (2, .int x2)] dX9_countIn_1 (by decide) rfl ?_
  refine r_iconst hc (0 : Int32) dX9_countIn_2 rfl ?_
  refine r_istore hc [(4, .int (0 : Int32)), (3, .int (0 : Int32)), (0, .ref (A 0)), (1, .int x1), (2, .int x2)] dX9_countIn_3 (by decide) rfl ?_
  exact V.sub [2, 3, 4, 1, 0] rfl (L5 FU x1 x2 (0 : Int32) (0 : Int32) hf)
def X9_drawOf_J62 (k32 : MS → Int32 → Int32 → Int32 → Int32 → Int32 → Int32 → Option (Int32)) (z : MS) (x1 : Int32) (x2 : Int32) (x3 : Int32) (x4 : Int32) (x6 : Int32) (s0 : Int32) (s1 : Int32) : Option (Int32) :=
  (chk (((4 : Int32) * x2) + x6) 24 (k32 z x1 x2 x3 x4 (s1 + (s0 * ((M_thingsNow z) ((((4 : Int32) * x2) + x6)).toNatClampNeg))) (x6 + (1 : Int32))))
def X9_drawOf_B32 (k32 : MS → Int32 → Int32 → Int32 → Int32 → Int32 → Int32 → Option (Int32)) (z : MS) (x1 : Int32) (x2 : Int32) (x3 : Int32) (x4 : Int32) (x5 : Int32) (x6 : Int32) : Option (Int32) :=
  (if (4 : Int32) ≤ x6 then (some (x5)) else (if x3 = x6 then (X9_drawOf_J62 k32 z x1 x2 x3 x4 x6 x4 x5) else (chk (((5 : Int32) * x1) + x6) 40 (X9_drawOf_J62 k32 z x1 x2 x3 x4 x6 ((M_likes z) ((((5 : Int32) * x1) + x6)).toNatClampNeg) x5))))
def X9_drawOf_J20 (z : MS) (x1 : Int32) (x2 : Int32) (x3 : Int32) (x4 : Int32) (s0 : Int32) : Option (Int32) :=
  ((f_X9_countIn z x2 x1).bind fun q23 => (it X9_drawOf_B32 (fun _ _ _ _ _ _ _ => none) FU z x1 x2 x3 x4 (s0 * q23) (0 : Int32)))
def f_X9_drawOf (z : MS) (x1 : Int32) (x2 : Int32) (x3 : Int32) (x4 : Int32) : Option (Int32) :=
  (if x3 = (4 : Int32) then (X9_drawOf_J20 z x1 x2 x3 x4 x4) else (chk (((5 : Int32) * x1) + (4 : Int32)) 40 (X9_drawOf_J20 z x1 x2 x3 x4 ((M_likes z) ((((5 : Int32) * x1) + (4 : Int32))).toNatClampNeg))))
theorem kv_X9_drawOf : KV RX9 yX9_drawOf cX9_drawOf 7 (some .int) 4 := ⟨mw_1046, mw_35, mw_65, mw_1047, by decide +kernel⟩
set_option maxHeartbeats 8000000 in
set_option maxRecDepth 100000 in
theorem c_X9_drawOf {l : Launch} {E : va_G} {cy : Nat → ClassId} (A : Nat → Nat) (z : MS) (x1 : Int32) (x2 : Int32) (x3 : Int32) (x4 : Int32) (q : Int32) (hf : f_X9_drawOf z x1 x2 x3 x4 = some q) : Ci l yX9_drawOf cX9_drawOf 7 (some .int) 3 105 E cy [.ref (A 0), .int x1, .int x2, .int x3, .int x4] (wM cy A z) q (wM cy A z) := by
  refine Ci.of RX9 (by decide) rfl (Nat.le_of_ble_eq_true rfl) ?_
  intro K hK
  have hc := hK.cq
  have L32 : ∀ (n32 : Nat) (x1 : Int32) (x2 : Int32) (x3 : Int32) (x4 : Int32) (x5 : Int32) (x6 : Int32), it X9_drawOf_B32 (fun _ _ _ _ _ _ _ => none) n32 z x1 x2 x3 x4 x5 x6 = some q → V K (wM cy A z) 32 [(0, .ref (A 0)), (1, .int x1), (2, .int x2), (3, .int x3), (4, .int x4), (5, .int x5), (6, .int x6)] [] := by
    intro n32
    induction n32 with
    | zero => intro x1 x2 x3 x4 x5 x6 hf; exact (o_none hf).elim
    | succ n32 ih32 =>
      have J62 : ∀ (x1 : Int32) (x2 : Int32) (x3 : Int32) (x4 : Int32) (x6 : Int32) (s0 : Int32) (s1 : Int32), X9_drawOf_J62 (it X9_drawOf_B32 (fun _ _ _ _ _ _ _ => none) n32) z x1 x2 x3 x4 x6 s0 s1 = some q → V K (wM cy A z) 62 [(0, .ref (A 0)), (1, .int x1), (2, .int x2), (3, .int x3), (4, .int x4), (6, .int x6)] [.int s0, .int s1] := by
        intro x1 x2 x3 x4 x6 s0 s1 hf
        unfold X9_drawOf_J62 at hf
        refine r_aload_n hc 0 dX9_drawOf_62 rfl ?_
        refine r_get (v := .ref (A 16)) hc iw_X9 0 rfl rfl 19 (by decide) mw_879 rfl dX9_drawOf_63 ?_
        refine r_iconst hc (4 : Int32) dX9_drawOf_66 rfl ?_
        refine r_iload_n hc 2 dX9_drawOf_67 rfl ?_
        refine r_imul hc dX9_drawOf_68 ?_
        refine r_iload hc 5 dX9_drawOf_69 rfl ?_
        refine r_iadd hc dX9_drawOf_71 ?_
        obtain ⟨i_6, hf⟩ := chk_some hf
        refine r_iald (f := (M_thingsNow z)) hc 16 rfl i_6 dX9_drawOf_72 ?_
        refine r_imul hc dX9_drawOf_73 ?_
        refine r_iadd hc dX9_drawOf_74 ?_
        refine r_istore hc [(5, .int (s1 + (s0 * ((M_thingsNow z) ((((4 : Int32) * x2) + x6)).toNatClampNeg)))), (0, .ref (A 0)), (1, .int x1), (2, .int x2), (3, .int x3), (4, .int x4), (6, .int x6)] dX9_drawOf_75 (by decide) rfl ?_
        refine r_iinc hc 6 [(6, .int (x6 + (1 : Int32))), (5, .int (s1 + (s0 * ((M_thingsNow z) ((((4 : Int32) * x2) + x6)).toNatClampNeg)))), (0, .ref (A 0)), (1, .int x1), (2, .int x2), (3, .int x3), (4, .int x4)] (x6 + (1 : Int32)) dX9_drawOf_77 rfl rfl (by decide) rfl ?_
        refine r_goto hc 32 dX9_drawOf_80 (by decide) ?_
        exact V.sub [2, 3, 4, 5, 6, 1, 0] rfl (ih32 x1 x2 x3 x4 (s1 + (s0 * ((M_thingsNow z) ((((4 : Int32) * x2) + x6)).toNatClampNeg))) (x6 + (1 : Int32)) hf)
      intro x1 x2 x3 x4 x5 x6 hf
      replace hf : X9_drawOf_B32 (it X9_drawOf_B32 (fun _ _ _ _ _ _ _ => none) n32) z x1 x2 x3 x4 x5 x6 = some q := hf
      unfold X9_drawOf_B32 at hf
      refine r_iload hc 6 dX9_drawOf_32 rfl ?_
      refine r_iconst hc (4 : Int32) dX9_drawOf_34 rfl ?_
      refine r_icmp_ge hc 83 dX9_drawOf_35 (by decide) (fun c_3 => ?_) (fun c_3 => ?_)
      · have hf := o_pos c_3 hf
        refine r_iload hc 5 dX9_drawOf_83 rfl ?_
        exact r_iret hK (Option.some.inj hf) rfl dX9_drawOf_85
      · have hf := o_neg c_3 hf
        refine r_iload hc 5 dX9_drawOf_38 rfl ?_
        refine r_iload_n hc 3 dX9_drawOf_40 rfl ?_
        refine r_iload hc 6 dX9_drawOf_41 rfl ?_
        refine r_icmp_ne hc 51 dX9_drawOf_43 (by decide) (fun c_4 => ?_) (fun c_4 => ?_)
        · have hf := o_neg c_4 hf
          refine r_aload_n hc 0 dX9_drawOf_51 rfl ?_
          refine r_get (v := .ref (A 5)) hc iw_X9 0 rfl rfl 6 (by decide) mw_866 rfl dX9_drawOf_52 ?_
          refine r_iconst hc (5 : Int32) dX9_drawOf_55 rfl ?_
          refine r_iload_n hc 1 dX9_drawOf_56 rfl ?_
          refine r_imul hc dX9_drawOf_57 ?_
          refine r_iload hc 6 dX9_drawOf_58 rfl ?_
          refine r_iadd hc dX9_drawOf_60 ?_
          obtain ⟨i_5, hf⟩ := chk_some hf
          refine r_iald (f := (M_likes z)) hc 5 rfl i_5 dX9_drawOf_61 ?_
          exact V.sub [0, 1, 2, 3, 4, 6] rfl (J62 x1 x2 x3 x4 x6 ((M_likes z) ((((5 : Int32) * x1) + x6)).toNatClampNeg) x5 hf)
        · have hf := o_pos c_4 hf
          refine r_iload hc 4 dX9_drawOf_46 rfl ?_
          refine r_goto hc 62 dX9_drawOf_48 (by decide) ?_
          exact V.sub [0, 1, 2, 3, 4, 6] rfl (J62 x1 x2 x3 x4 x6 x4 x5 hf)
  have J20 : ∀ (x1 : Int32) (x2 : Int32) (x3 : Int32) (x4 : Int32) (s0 : Int32), X9_drawOf_J20  z x1 x2 x3 x4 s0 = some q → V K (wM cy A z) 20 [(0, .ref (A 0)), (1, .int x1), (2, .int x2), (3, .int x3), (4, .int x4)] [.int s0] := by
    intro x1 x2 x3 x4 s0 hf
    unfold X9_drawOf_J20 at hf
    refine r_aload_n hc 0 dX9_drawOf_20 rfl ?_
    refine r_iload_n hc 2 dX9_drawOf_21 rfl ?_
    refine r_iload_n hc 1 dX9_drawOf_22 rfl ?_
    obtain ⟨q23, hq23, hf⟩ := o_bind hf
    refine r_callVi (ws' := (wM cy A z)) (As := [.int x2, .int x1]) (rest := [.int s0]) hc (c_X9_countIn A z x2 x1 q23 hq23) kv_X9_countIn mw_1048 0 rfl rfl _ _ _ (Sp_all _ _) rfl rfl (Nat.le_of_ble_eq_true rfl) ⟨by decide, by decide⟩ dX9_drawOf_23 ?_
    refine r_imul hc dX9_drawOf_26 ?_
    refine r_istore hc [(5, .int (s0 * q23)), (0, .ref (A 0)), (1, .int x1), (2, .int x2), (3, .int x3), (4, .int x4)] dX9_drawOf_27 (by decide) rfl ?_
    refine r_iconst hc (0 : Int32) dX9_drawOf_29 rfl ?_
    refine r_istore hc [(6, .int (0 : Int32)), (5, .int (s0 * q23)), (0, .ref (A 0)), (1, .int x1), (2, .int x2), (3, .int x3), (4, .int x4)] dX9_drawOf_30 (by decide) rfl ?_
    exact V.sub [2, 3, 4, 5, 6, 1, 0] rfl (L32 FU x1 x2 x3 x4 (s0 * q23) (0 : Int32) hf)
  show V K (wM cy A z) 0 [(0, .ref (A 0)), (1, .int x1), (2, .int x2), (3, .int x3), (4, .int x4)] []
  unfold f_X9_drawOf at hf
  refine r_iload_n hc 3 dX9_drawOf_0 rfl ?_
  refine r_iconst hc (4 : Int32) dX9_drawOf_1 rfl ?_
  refine r_icmp_ne hc 10 dX9_drawOf_2 (by decide) (fun c_1 => ?_) (fun c_1 => ?_)
  · have hf := o_neg c_1 hf
    refine r_aload_n hc 0 dX9_drawOf_10 rfl ?_
    refine r_get (v := .ref (A 5)) hc iw_X9 0 rfl rfl 6 (by decide) mw_866 rfl dX9_drawOf_11 ?_
    refine r_iconst hc (5 : Int32) dX9_drawOf_14 rfl ?_
    refine r_iload_n hc 1 dX9_drawOf_15 rfl ?_
    refine r_imul hc dX9_drawOf_16 ?_
    refine r_iconst hc (4 : Int32) dX9_drawOf_17 rfl ?_
    refine r_iadd hc dX9_drawOf_18 ?_
    obtain ⟨i_2, hf⟩ := chk_some hf
    refine r_iald (f := (M_likes z)) hc 5 rfl i_2 dX9_drawOf_19 ?_
    exact V.sub [0, 1, 2, 3, 4] rfl (J20 x1 x2 x3 x4 ((M_likes z) ((((5 : Int32) * x1) + (4 : Int32))).toNatClampNeg) hf)
  · have hf := o_pos c_1 hf
    refine r_iload hc 4 dX9_drawOf_5 rfl ?_
    refine r_goto hc 20 dX9_drawOf_7 (by decide) ?_
    exact V.sub [0, 1, 2, 3, 4] rfl (J20 x1 x2 x3 x4 x4 hf)
def X9_canGo_J183 (z : MS) (x2 : Int32) (s0 : Int32) : Option (Int32) :=
  (if s0 = 0 then (some ((0 : Int32))) else ((f_X9_countIn z x2 (-6 : Int32)).bind fun q194 => (chk x2 6 (if ((M_size z) (x2).toNatClampNeg) ≤ q194 then (some ((0 : Int32))) else (some ((1 : Int32)))))))
def X9_canGo_J182 (z : MS) (x2 : Int32) : Option (Int32) :=
  (X9_canGo_J183 z x2 (0 : Int32))
def X9_canGo_J178 (z : MS) (x2 : Int32) : Option (Int32) :=
  (X9_canGo_J183 z x2 (1 : Int32))
def X9_canGo_J120 (k27 : MS → Int32 → Int32 → Int32 → Int32 → Int32 → Option (Int32)) (z : MS) (x2 : Int32) (x3 : Int32) (x4 : Int32) (x6 : Int32) (s0 : Int32) (s1 : Int32) : Option (Int32) :=
  (k27 z x2 x3 x4 (s1 - s0) (x6 + (1 : Int32)))
def X9_canGo_J106 (k27 : MS → Int32 → Int32 → Int32 → Int32 → Int32 → Option (Int32)) (z : MS) (x2 : Int32) (x3 : Int32) (x4 : Int32) (x5 : Int32) (x6 : Int32) (s0 : Int32) : Option (Int32) :=
  (if s0 = 0 then (X9_canGo_J120 k27 z x2 x3 x4 x6 (0 : Int32) x5) else (X9_canGo_J120 k27 z x2 x3 x4 x6 (1 : Int32) x5))
def X9_canGo_J105 (k27 : MS → Int32 → Int32 → Int32 → Int32 → Int32 → Option (Int32)) (z : MS) (x2 : Int32) (x3 : Int32) (x4 : Int32) (x5 : Int32) (x6 : Int32) : Option (Int32) :=
  (X9_canGo_J106 k27 z x2 x3 x4 x5 x6 (0 : Int32))
def X9_canGo_J101 (k27 : MS → Int32 → Int32 → Int32 → Int32 → Int32 → Option (Int32)) (z : MS) (x2 : Int32) (x3 : Int32) (x4 : Int32) (x5 : Int32) (x6 : Int32) : Option (Int32) :=
  (X9_canGo_J106 k27 z x2 x3 x4 x5 x6 (1 : Int32))
def X9_canGo_J79 (k27 : MS → Int32 → Int32 → Int32 → Int32 → Int32 → Option (Int32)) (z : MS) (x2 : Int32) (x3 : Int32) (x4 : Int32) (x5 : Int32) (x6 : Int32) : Option (Int32) :=
  (chk x6 8 (if ((M_at z) (x6).toNatClampNeg) = x2 then (chk x6 8 (if ((M_withNow z) (x6).toNatClampNeg) = x3 then (X9_canGo_J101 k27 z x2 x3 x4 x5 x6) else (X9_canGo_J105 k27 z x2 x3 x4 x5 x6))) else (X9_canGo_J105 k27 z x2 x3 x4 x5 x6)))
def X9_canGo_B27 (k27 : MS → Int32 → Int32 → Int32 → Int32 → Int32 → Option (Int32)) (z : MS) (x2 : Int32) (x3 : Int32) (x4 : Int32) (x5 : Int32) (x6 : Int32) : Option (Int32) :=
  (if (8 : Int32) ≤ x6 then (if x3 = x2 then (X9_canGo_J182 z x2) else (chk x4 36 (if ((M_width z) (x4).toNatClampNeg) ≤ 0 then (X9_canGo_J182 z x2) else (chk x4 36 (if ((M_through z) (x4).toNatClampNeg) < x5 then (X9_canGo_J178 z x2) else (if (M_loose z) = x4 then (X9_canGo_J178 z x2) else (if (M_loose z) = (((6 : Int32) * x2) + x3) then (X9_canGo_J178 z x2) else (X9_canGo_J182 z x2)))))))) else ((f_X9_has (M_there z) x6).bind fun q40 => (if q40 = 0 then (X9_canGo_J105 k27 z x2 x3 x4 x5 x6) else (chk x6 8 (if ((M_busyNow z) (x6).toNatClampNeg) = (3 : Int32) then (chk x6 8 (if ((M_at z) (x6).toNatClampNeg) = x3 then (chk x6 8 (if ((M_withNow z) (x6).toNatClampNeg) = x2 then (X9_canGo_J101 k27 z x2 x3 x4 x5 x6) else (X9_canGo_J79 k27 z x2 x3 x4 x5 x6))) else (X9_canGo_J79 k27 z x2 x3 x4 x5 x6))) else (X9_canGo_J105 k27 z x2 x3 x4 x5 x6))))))
def f_X9_canGo (z : MS) (x1 : Int32) (x2 : Int32) : Option (Int32) :=
  (chk x1 8 (chk (((6 : Int32) * ((M_at z) (x1).toNatClampNeg)) + x2) 36 (it X9_canGo_B27 (fun _ _ _ _ _ _ => none) FU z x2 ((M_at z) (x1).toNatClampNeg) (((6 : Int32) * ((M_at z) (x1).toNatClampNeg)) + x2) ((M_width z) ((((6 : Int32) * ((M_at z) (x1).toNatClampNeg)) + x2)).toNatClampNeg) (0 : Int32))))
theorem kv_X9_canGo : KV RX9 yX9_canGo cX9_canGo 8 (some .boolean) 2 := ⟨mw_1054, mw_37, mw_65, mw_1055, by decide +kernel⟩
set_option maxHeartbeats 8000000 in
set_option maxRecDepth 100000 in
theorem c_X9_canGo {l : Launch} {E : va_G} {cy : Nat → ClassId} (A : Nat → Nat) (z : MS) (x1 : Int32) (x2 : Int32) (q : Int32) (hf : f_X9_canGo z x1 x2 = some q) : Ci l yX9_canGo cX9_canGo 8 (some .boolean) 3 105 E cy [.ref (A 0), .int x1, .int x2] (wM cy A z) q (wM cy A z) := by
  refine Ci.of RX9 (by decide) rfl (Nat.le_of_ble_eq_true rfl) ?_
  intro K hK
  have hc := hK.cq
  have J183 : ∀ (x2 : Int32) (s0 : Int32), X9_canGo_J183  z x2 s0 = some q → V K (wM cy A z) 183 [(0, .ref (A 0)), (2, .int x2)] [.int s0] := by
    intro x2 s0 hf
    unfold X9_canGo_J183 at hf
    refine r_istore hc [(6, .int s0), (0, .ref (A 0)), (2, .int x2)] dX9_canGo_183 (by decide) rfl ?_
    refine r_iload hc 0 dX9_canGo_185 rfl ?_
    refine r_if_eq hc 210 dX9_canGo_187 (by decide) (fun c_23 => ?_) (fun c_23 => ?_)
    · have hf := o_pos c_23 hf
      refine r_iconst hc (0 : Int32) dX9_canGo_210 rfl ?_
      exact r_zret hK rfl (Option.some.inj hf) rfl dX9_canGo_211
    · have hf := o_neg c_23 hf
      refine r_aload_n hc 1 dX9_canGo_190 rfl ?_
      refine r_iload_n hc 2 dX9_canGo_191 rfl ?_
      refine r_bipush hc (-6 : Int32) dX9_canGo_192 rfl ?_
      obtain ⟨q194, hq194, hf⟩ := o_bind hf
      refine r_callVi (ws' := (wM cy A z)) (As := [.int x2, .int (-6 : Int32)]) (rest := []) hc (c_X9_countIn A z x2 (-6 : Int32) q194 hq194) kv_X9_countIn mw_1048 0 rfl rfl _ _ _ (Sp_all _ _) rfl rfl (Nat.le_of_ble_eq_true rfl) ⟨by decide, by decide⟩ dX9_canGo_194 ?_
      refine r_aload_n hc 1 dX9_canGo_197 rfl ?_
      refine r_get (v := .ref (A 2)) hc iw_X9 0 rfl rfl 2 (by decide) mw_862 rfl dX9_canGo_198 ?_
      refine r_iload_n hc 2 dX9_canGo_201 rfl ?_
      obtain ⟨i_24, hf⟩ := chk_some hf
      refine r_iald (f := (M_size z)) hc 2 rfl i_24 dX9_canGo_202 ?_
      refine r_icmp_ge hc 210 dX9_canGo_203 (by decide) (fun c_25 => ?_) (fun c_25 => ?_)
      · have hf := o_pos c_25 hf
        refine r_iconst hc (0 : Int32) dX9_canGo_210 rfl ?_
        exact r_zret hK rfl (Option.some.inj hf) rfl dX9_canGo_211
      · have hf := o_neg c_25 hf
        refine r_iconst hc (1 : Int32) dX9_canGo_206 rfl ?_
        refine r_goto hc 211 dX9_canGo_207 (by decide) ?_
        exact r_zret hK rfl (Option.some.inj hf) rfl dX9_canGo_211
  have J182 : ∀ (x2 : Int32), X9_canGo_J182  z x2 = some q → V K (wM cy A z) 182 [(0, .ref (A 0)), (2, .int x2)] [] := by
    intro x2 hf
    unfold X9_canGo_J182 at hf
    refine r_iconst hc (0 : Int32) dX9_canGo_182 rfl ?_
    exact V.sub [0, 1] rfl (J183 x2 (0 : Int32) hf)
  have J178 : ∀ (x2 : Int32), X9_canGo_J178  z x2 = some q → V K (wM cy A z) 178 [(0, .ref (A 0)), (2, .int x2)] [] := by
    intro x2 hf
    unfold X9_canGo_J178 at hf
    refine r_iconst hc (1 : Int32) dX9_canGo_178 rfl ?_
    refine r_goto hc 183 dX9_canGo_179 (by decide) ?_
    exact V.sub [0, 1] rfl (J183 x2 (1 : Int32) hf)
  have L27 : ∀ (n27 : Nat) (x2 : Int32) (x3 : Int32) (x4 : Int32) (x5 : Int32) (x6 : Int32), it X9_canGo_B27 (fun _ _ _ _ _ _ => none) n27 z x2 x3 x4 x5 x6 = some q → V K (wM cy A z) 27 [(0, .ref (A 0)), (2, .int x2), (3, .int x3), (4, .int x4), (5, .int x5), (6, .int x6)] [] := by
    intro n27
    induction n27 with
    | zero => intro x2 x3 x4 x5 x6 hf; exact (o_none hf).elim
    | succ n27 ih27 =>
      have J120 : ∀ (x2 : Int32) (x3 : Int32) (x4 : Int32) (x6 : Int32) (s0 : Int32) (s1 : Int32), X9_canGo_J120 (it X9_canGo_B27 (fun _ _ _ _ _ _ => none) n27) z x2 x3 x4 x6 s0 s1 = some q → V K (wM cy A z) 120 [(0, .ref (A 0)), (2, .int x2), (3, .int x3), (4, .int x4), (6, .int x6)] [.int s0, .int s1] := by
        intro x2 x3 x4 x6 s0 s1 hf
        unfold X9_canGo_J120 at hf
        refine r_isub hc dX9_canGo_120 ?_
        refine r_istore hc [(5, .int (s1 - s0)), (0, .ref (A 0)), (2, .int x2), (3, .int x3), (4, .int x4), (6, .int x6)] dX9_canGo_121 (by decide) rfl ?_
        refine r_iinc hc 5 [(6, .int (x6 + (1 : Int32))), (5, .int (s1 - s0)), (0, .ref (A 0)), (2, .int x2), (3, .int x3), (4, .int x4)] (x6 + (1 : Int32)) dX9_canGo_123 rfl rfl (by decide) rfl ?_
        refine r_goto hc 27 dX9_canGo_126 (by decide) ?_
        exact V.sub [2, 3, 4, 5, 1, 0] rfl (ih27 x2 x3 x4 (s1 - s0) (x6 + (1 : Int32)) hf)
      have J106 : ∀ (x2 : Int32) (x3 : Int32) (x4 : Int32) (x5 : Int32) (x6 : Int32) (s0 : Int32), X9_canGo_J106 (it X9_canGo_B27 (fun _ _ _ _ _ _ => none) n27) z x2 x3 x4 x5 x6 s0 = some q → V K (wM cy A z) 106 [(0, .ref (A 0)), (2, .int x2), (3, .int x3), (4, .int x4), (5, .int x5), (6, .int x6)] [.int s0] := by
        intro x2 x3 x4 x5 x6 s0 hf
        unfold X9_canGo_J106 at hf
        refine r_istore hc [(7, .int s0), (0, .ref (A 0)), (2, .int x2), (3, .int x3), (4, .int x4), (5, .int x5), (6, .int x6)] dX9_canGo_106 (by decide) rfl ?_
        refine r_iload hc 5 dX9_canGo_108 rfl ?_
        refine r_iload hc 0 dX9_canGo_110 rfl ?_
        refine r_if_eq hc 119 dX9_canGo_112 (by decide) (fun c_18 => ?_) (fun c_18 => ?_)
        · have hf := o_pos c_18 hf
          refine r_iconst hc (0 : Int32) dX9_canGo_119 rfl ?_
          exact V.sub [1, 2, 3, 4, 6] rfl (J120 x2 x3 x4 x6 (0 : Int32) x5 hf)
        · have hf := o_neg c_18 hf
          refine r_iconst hc (1 : Int32) dX9_canGo_115 rfl ?_
          refine r_goto hc 120 dX9_canGo_116 (by decide) ?_
          exact V.sub [1, 2, 3, 4, 6] rfl (J120 x2 x3 x4 x6 (1 : Int32) x5 hf)
      have J105 : ∀ (x2 : Int32) (x3 : Int32) (x4 : Int32) (x5 : Int32) (x6 : Int32), X9_canGo_J105 (it X9_canGo_B27 (fun _ _ _ _ _ _ => none) n27) z x2 x3 x4 x5 x6 = some q → V K (wM cy A z) 105 [(0, .ref (A 0)), (2, .int x2), (3, .int x3), (4, .int x4), (5, .int x5), (6, .int x6)] [] := by
        intro x2 x3 x4 x5 x6 hf
        unfold X9_canGo_J105 at hf
        refine r_iconst hc (0 : Int32) dX9_canGo_105 rfl ?_
        exact V.sub [0, 1, 2, 3, 4, 5] rfl (J106 x2 x3 x4 x5 x6 (0 : Int32) hf)
      have J101 : ∀ (x2 : Int32) (x3 : Int32) (x4 : Int32) (x5 : Int32) (x6 : Int32), X9_canGo_J101 (it X9_canGo_B27 (fun _ _ _ _ _ _ => none) n27) z x2 x3 x4 x5 x6 = some q → V K (wM cy A z) 101 [(0, .ref (A 0)), (2, .int x2), (3, .int x3), (4, .int x4), (5, .int x5), (6, .int x6)] [] := by
        intro x2 x3 x4 x5 x6 hf
        unfold X9_canGo_J101 at hf
        refine r_iconst hc (1 : Int32) dX9_canGo_101 rfl ?_
        refine r_goto hc 106 dX9_canGo_102 (by decide) ?_
        exact V.sub [0, 1, 2, 3, 4, 5] rfl (J106 x2 x3 x4 x5 x6 (1 : Int32) hf)
      have J79 : ∀ (x2 : Int32) (x3 : Int32) (x4 : Int32) (x5 : Int32) (x6 : Int32), X9_canGo_J79 (it X9_canGo_B27 (fun _ _ _ _ _ _ => none) n27) z x2 x3 x4 x5 x6 = some q → V K (wM cy A z) 79 [(0, .ref (A 0)), (2, .int x2), (3, .int x3), (4, .int x4), (5, .int x5), (6, .int x6)] [] := by
        intro x2 x3 x4 x5 x6 hf
        unfold X9_canGo_J79 at hf
        refine r_aload_n hc 0 dX9_canGo_79 rfl ?_
        refine r_get (v := .ref (A 12)) hc iw_X9 0 rfl rfl 15 (by decide) mw_875 rfl dX9_canGo_80 ?_
        refine r_iload hc 5 dX9_canGo_83 rfl ?_
        obtain ⟨i_19, hf⟩ := chk_some hf
        refine r_iald (f := (M_at z)) hc 12 rfl i_19 dX9_canGo_85 ?_
        refine r_iload_n hc 1 dX9_canGo_86 rfl ?_
        refine r_icmp_ne hc 105 dX9_canGo_87 (by decide) (fun c_20 => ?_) (fun c_20 => ?_)
        · have hf := o_neg c_20 hf
          exact V.sub [0, 1, 2, 3, 4, 5] rfl (J105 x2 x3 x4 x5 x6 hf)
        · have hf := o_pos c_20 hf
          refine r_aload_n hc 0 dX9_canGo_90 rfl ?_
          refine r_get (v := .ref (A 14)) hc iw_X9 0 rfl rfl 17 (by decide) mw_877 rfl dX9_canGo_91 ?_
          refine r_iload hc 5 dX9_canGo_94 rfl ?_
          obtain ⟨i_21, hf⟩ := chk_some hf
          refine r_iald (f := (M_withNow z)) hc 14 rfl i_21 dX9_canGo_96 ?_
          refine r_iload_n hc 2 dX9_canGo_97 rfl ?_
          refine r_icmp_ne hc 105 dX9_canGo_98 (by decide) (fun c_22 => ?_) (fun c_22 => ?_)
          · have hf := o_neg c_22 hf
            exact V.sub [0, 1, 2, 3, 4, 5] rfl (J105 x2 x3 x4 x5 x6 hf)
          · have hf := o_pos c_22 hf
            exact V.sub [0, 1, 2, 3, 4, 5] rfl (J101 x2 x3 x4 x5 x6 hf)
      intro x2 x3 x4 x5 x6 hf
      replace hf : X9_canGo_B27 (it X9_canGo_B27 (fun _ _ _ _ _ _ => none) n27) z x2 x3 x4 x5 x6 = some q := hf
      unfold X9_canGo_B27 at hf
      refine r_iload hc 5 dX9_canGo_27 rfl ?_
      refine r_bipush hc (8 : Int32) dX9_canGo_29 rfl ?_
      refine r_icmp_ge hc 129 dX9_canGo_31 (by decide) (fun c_3 => ?_) (fun c_3 => ?_)
      · have hf := o_pos c_3 hf
        refine r_iload_n hc 2 dX9_canGo_129 rfl ?_
        refine r_iload_n hc 1 dX9_canGo_130 rfl ?_
        refine r_icmp_eq hc 182 dX9_canGo_131 (by decide) (fun c_4 => ?_) (fun c_4 => ?_)
        · have hf := o_pos c_4 hf
          exact V.sub [0, 1] rfl (J182 x2 hf)
        · have hf := o_neg c_4 hf
          refine r_aload_n hc 0 dX9_canGo_134 rfl ?_
          refine r_get (v := .ref (A 4)) hc iw_X9 0 rfl rfl 4 (by decide) mw_864 rfl dX9_canGo_135 ?_
          refine r_iload hc 3 dX9_canGo_138 rfl ?_
          obtain ⟨i_5, hf⟩ := chk_some hf
          refine r_iald (f := (M_width z)) hc 4 rfl i_5 dX9_canGo_140 ?_
          refine r_if_le hc 182 dX9_canGo_141 (by decide) (fun c_6 => ?_) (fun c_6 => ?_)
          · have hf := o_pos c_6 hf
            exact V.sub [0, 1] rfl (J182 x2 hf)
          · have hf := o_neg c_6 hf
            refine r_aload_n hc 0 dX9_canGo_144 rfl ?_
            refine r_get (v := .ref (A 17)) hc iw_X9 0 rfl rfl 21 (by decide) mw_881 rfl dX9_canGo_145 ?_
            refine r_iload hc 3 dX9_canGo_148 rfl ?_
            obtain ⟨i_7, hf⟩ := chk_some hf
            refine r_iald (f := (M_through z)) hc 17 rfl i_7 dX9_canGo_150 ?_
            refine r_iload hc 4 dX9_canGo_151 rfl ?_
            refine r_icmp_lt hc 178 dX9_canGo_153 (by decide) (fun c_8 => ?_) (fun c_8 => ?_)
            · have hf := o_pos c_8 hf
              exact V.sub [0, 1] rfl (J178 x2 hf)
            · have hf := o_neg c_8 hf
              refine r_aload_n hc 0 dX9_canGo_156 rfl ?_
              refine r_get (v := .int (M_loose z)) hc iw_X9 0 rfl rfl 20 (by decide) mw_880 rfl dX9_canGo_157 ?_
              refine r_iload hc 3 dX9_canGo_160 rfl ?_
              refine r_icmp_eq hc 178 dX9_canGo_162 (by decide) (fun c_9 => ?_) (fun c_9 => ?_)
              · have hf := o_pos c_9 hf
                exact V.sub [0, 1] rfl (J178 x2 hf)
              · have hf := o_neg c_9 hf
                refine r_aload_n hc 0 dX9_canGo_165 rfl ?_
                refine r_get (v := .int (M_loose z)) hc iw_X9 0 rfl rfl 20 (by decide) mw_880 rfl dX9_canGo_166 ?_
                refine r_bipush hc (6 : Int32) dX9_canGo_169 rfl ?_
                refine r_iload_n hc 1 dX9_canGo_171 rfl ?_
                refine r_imul hc dX9_canGo_172 ?_
                refine r_iload_n hc 2 dX9_canGo_173 rfl ?_
                refine r_iadd hc dX9_canGo_174 ?_
                refine r_icmp_ne hc 182 dX9_canGo_175 (by decide) (fun c_10 => ?_) (fun c_10 => ?_)
                · have hf := o_neg c_10 hf
                  exact V.sub [0, 1] rfl (J182 x2 hf)
                · have hf := o_pos c_10 hf
                  exact V.sub [0, 1] rfl (J178 x2 hf)
      · have hf := o_neg c_3 hf
        refine r_aload_n hc 0 dX9_canGo_34 rfl ?_
        refine r_get (v := .int (M_there z)) hc iw_X9 0 rfl rfl 5 (by decide) mw_865 rfl dX9_canGo_35 ?_
        refine r_iload hc 5 dX9_canGo_38 rfl ?_
        obtain ⟨q40, hq40, hf⟩ := o_bind hf
        refine r_callSi (ws' := (wM cy A z)) (As := [.int (M_there z), .int x6]) (rest := []) hc (c_X9_has  (M_there z) x6 q40 hq40) ks_X9_has mw_970 _ _ _ (Sp_none _) rfl rfl (Nat.le_of_ble_eq_true rfl) ⟨by decide, by decide⟩ dX9_canGo_40 ?_
        refine r_if_eq hc 105 dX9_canGo_43 (by decide) (fun c_11 => ?_) (fun c_11 => ?_)
        · have hf := o_pos c_11 hf
          exact V.sub [0, 1, 2, 3, 4, 5] rfl (J105 x2 x3 x4 x5 x6 hf)
        · have hf := o_neg c_11 hf
          refine r_aload_n hc 0 dX9_canGo_46 rfl ?_
          refine r_get (v := .ref (A 13)) hc iw_X9 0 rfl rfl 16 (by decide) mw_876 rfl dX9_canGo_47 ?_
          refine r_iload hc 5 dX9_canGo_50 rfl ?_
          obtain ⟨i_12, hf⟩ := chk_some hf
          refine r_iald (f := (M_busyNow z)) hc 13 rfl i_12 dX9_canGo_52 ?_
          refine r_iconst hc (3 : Int32) dX9_canGo_53 rfl ?_
          refine r_icmp_ne hc 105 dX9_canGo_54 (by decide) (fun c_13 => ?_) (fun c_13 => ?_)
          · have hf := o_neg c_13 hf
            exact V.sub [0, 1, 2, 3, 4, 5] rfl (J105 x2 x3 x4 x5 x6 hf)
          · have hf := o_pos c_13 hf
            refine r_aload_n hc 0 dX9_canGo_57 rfl ?_
            refine r_get (v := .ref (A 12)) hc iw_X9 0 rfl rfl 15 (by decide) mw_875 rfl dX9_canGo_58 ?_
            refine r_iload hc 5 dX9_canGo_61 rfl ?_
            obtain ⟨i_14, hf⟩ := chk_some hf
            refine r_iald (f := (M_at z)) hc 12 rfl i_14 dX9_canGo_63 ?_
            refine r_iload_n hc 2 dX9_canGo_64 rfl ?_
            refine r_icmp_ne hc 79 dX9_canGo_65 (by decide) (fun c_15 => ?_) (fun c_15 => ?_)
            · have hf := o_neg c_15 hf
              exact V.sub [0, 1, 2, 3, 4, 5] rfl (J79 x2 x3 x4 x5 x6 hf)
            · have hf := o_pos c_15 hf
              refine r_aload_n hc 0 dX9_canGo_68 rfl ?_
              refine r_get (v := .ref (A 14)) hc iw_X9 0 rfl rfl 17 (by decide) mw_877 rfl dX9_canGo_69 ?_
              refine r_iload hc 5 dX9_canGo_72 rfl ?_
              obtain ⟨i_16, hf⟩ := chk_some hf
              refine r_iald (f := (M_withNow z)) hc 14 rfl i_16 dX9_canGo_74 ?_
              refine r_iload_n hc 1 dX9_canGo_75 rfl ?_
              refine r_icmp_eq hc 101 dX9_canGo_76 (by decide) (fun c_17 => ?_) (fun c_17 => ?_)
              · have hf := o_pos c_17 hf
                exact V.sub [0, 1, 2, 3, 4, 5] rfl (J101 x2 x3 x4 x5 x6 hf)
              · have hf := o_neg c_17 hf
                exact V.sub [0, 1, 2, 3, 4, 5] rfl (J79 x2 x3 x4 x5 x6 hf)
  show V K (wM cy A z) 0 [(0, .ref (A 0)), (1, .int x1), (2, .int x2)] []
  unfold f_X9_canGo at hf
  refine r_aload_n hc 0 dX9_canGo_0 rfl ?_
  refine r_get (v := .ref (A 12)) hc iw_X9 0 rfl rfl 15 (by decide) mw_875 rfl dX9_canGo_1 ?_
  refine r_iload_n hc 1 dX9_canGo_4 rfl ?_
  obtain ⟨i_1, hf⟩ := chk_some hf
  refine r_iald (f := (M_at z)) hc 12 rfl i_1 dX9_canGo_5 ?_
  refine r_istore_n hc [(3, .int ((M_at z) (x1).toNatClampNeg)), (0, .ref (A 0)), (1, .int x1), (2, .int x2)] dX9_canGo_6 (by decide) rfl ?_
  refine r_bipush hc (6 : Int32) dX9_canGo_7 rfl ?_
  refine r_iload_n hc 0 dX9_canGo_9 rfl ?_
  refine r_imul hc dX9_canGo_10 ?_
  refine r_iload_n hc 3 dX9_canGo_11 rfl ?_
  refine r_iadd hc dX9_canGo_12 ?_
  refine r_istore hc [(4, .int (((6 : Int32) * ((M_at z) (x1).toNatClampNeg)) + x2)), (3, .int ((M_at z) (x1).toNatClampNeg)), (0, .ref (A 0)), (1, .int x1), (2, .int x2)] dX9_canGo_13 (by decide) rfl ?_
  refine r_aload_n hc 2 dX9_canGo_15 rfl ?_
  refine r_get (v := .ref (A 4)) hc iw_X9 0 rfl rfl 4 (by decide) mw_864 rfl dX9_canGo_16 ?_
  refine r_iload hc 0 dX9_canGo_19 rfl ?_
  obtain ⟨i_2, hf⟩ := chk_some hf
  refine r_iald (f := (M_width z)) hc 4 rfl i_2 dX9_canGo_21 ?_
  refine r_istore hc [(5, .int ((M_width z) ((((6 : Int32) * ((M_at z) (x1).toNatClampNeg)) + x2)).toNatClampNeg)), (4, .int (((6 : Int32) * ((M_at z) (x1).toNatClampNeg)) + x2)), (3, .int ((M_at z) (x1).toNatClampNeg)), (0, .ref (A 0)), (1, .int x1), (2, .int x2)] dX9_canGo_22 (by decide) rfl ?_
  refine r_iconst hc (0 : Int32) dX9_canGo_24 rfl ?_
  refine r_istore hc [(6, .int (0 : Int32)), (5, .int ((M_width z) ((((6 : Int32) * ((M_at z) (x1).toNatClampNeg)) + x2)).toNatClampNeg)), (4, .int (((6 : Int32) * ((M_at z) (x1).toNatClampNeg)) + x2)), (3, .int ((M_at z) (x1).toNatClampNeg)), (0, .ref (A 0)), (1, .int x1), (2, .int x2)] dX9_canGo_25 (by decide) rfl ?_
  exact V.sub [4, 6, 3, 2, 1, 0] rfl (L27 FU x2 ((M_at z) (x1).toNatClampNeg) (((6 : Int32) * ((M_at z) (x1).toNatClampNeg)) + x2) ((M_width z) ((((6 : Int32) * ((M_at z) (x1).toNatClampNeg)) + x2)).toNatClampNeg) (0 : Int32) hf)
def X9_goal_J67 (k22 : MS → Int32 → Int32 → Int32 → Int32 → Int32 → Int32 → Option (Int32)) (z : MS) (x1 : Int32) (x2 : Int32) (x3 : Int32) (x4 : Int32) (x5 : Int32) (x6 : Int32) : Option (Int32) :=
  (k22 z x1 x2 x3 x4 x5 (x6 + (1 : Int32)))
def X9_goal_B22 (k22 : MS → Int32 → Int32 → Int32 → Int32 → Int32 → Int32 → Option (Int32)) (z : MS) (x1 : Int32) (x2 : Int32) (x3 : Int32) (x4 : Int32) (x5 : Int32) (x6 : Int32) : Option (Int32) :=
  (if (M_rooms z) ≤ x6 then (some (x4)) else ((f_X9_drawOf z x1 x6 x2 x3).bind fun q37 => (if q37 ≤ x5 then (X9_goal_J67 k22 z x1 x2 x3 x4 x5 x6) else ((f_X9_canGo z x1 x6).bind fun q53 => (if q53 = 0 then (X9_goal_J67 k22 z x1 x2 x3 x4 x5 x6) else (X9_goal_J67 k22 z x1 x2 x3 x6 q37 x6))))))
def f_X9_goal (z : MS) (x1 : Int32) (x2 : Int32) (x3 : Int32) : Option (Int32) :=
  (chk x1 8 ((f_X9_drawOf z x1 ((M_at z) (x1).toNatClampNeg) x2 x3).bind fun q14 => (it X9_goal_B22 (fun _ _ _ _ _ _ _ => none) FU z x1 x2 x3 ((M_at z) (x1).toNatClampNeg) q14 (0 : Int32))))
theorem kv_X9_goal : KV RX9 yX9_goal cX9_goal 8 (some .int) 3 := ⟨mw_1042, mw_34, mw_65, mw_1043, by decide +kernel⟩
set_option maxHeartbeats 8000000 in
set_option maxRecDepth 100000 in
theorem c_X9_goal {l : Launch} {E : va_G} {cy : Nat → ClassId} (A : Nat → Nat) (z : MS) (x1 : Int32) (x2 : Int32) (x3 : Int32) (q : Int32) (hf : f_X9_goal z x1 x2 x3 = some q) : Ci l yX9_goal cX9_goal 8 (some .int) 4 132 E cy [.ref (A 0), .int x1, .int x2, .int x3] (wM cy A z) q (wM cy A z) := by
  refine Ci.of RX9 (by decide) rfl (Nat.le_of_ble_eq_true rfl) ?_
  intro K hK
  have hc := hK.cq
  have L22 : ∀ (n22 : Nat) (x1 : Int32) (x2 : Int32) (x3 : Int32) (x4 : Int32) (x5 : Int32) (x6 : Int32), it X9_goal_B22 (fun _ _ _ _ _ _ _ => none) n22 z x1 x2 x3 x4 x5 x6 = some q → V K (wM cy A z) 22 [(0, .ref (A 0)), (1, .int x1), (2, .int x2), (3, .int x3), (4, .int x4), (5, .int x5), (6, .int x6)] [] := by
    intro n22
    induction n22 with
    | zero => intro x1 x2 x3 x4 x5 x6 hf; exact (o_none hf).elim
    | succ n22 ih22 =>
      have J67 : ∀ (x1 : Int32) (x2 : Int32) (x3 : Int32) (x4 : Int32) (x5 : Int32) (x6 : Int32), X9_goal_J67 (it X9_goal_B22 (fun _ _ _ _ _ _ _ => none) n22) z x1 x2 x3 x4 x5 x6 = some q → V K (wM cy A z) 67 [(0, .ref (A 0)), (1, .int x1), (2, .int x2), (3, .int x3), (4, .int x4), (5, .int x5), (6, .int x6)] [] := by
        intro x1 x2 x3 x4 x5 x6 hf
        unfold X9_goal_J67 at hf
        refine r_iinc hc 6 [(6, .int (x6 + (1 : Int32))), (0, .ref (A 0)), (1, .int x1), (2, .int x2), (3, .int x3), (4, .int x4), (5, .int x5)] (x6 + (1 : Int32)) dX9_goal_67 rfl rfl (by decide) rfl ?_
        refine r_goto hc 22 dX9_goal_70 (by decide) ?_
        exact V.sub [1, 2, 3, 4, 5, 6, 0] rfl (ih22 x1 x2 x3 x4 x5 (x6 + (1 : Int32)) hf)
      intro x1 x2 x3 x4 x5 x6 hf
      replace hf : X9_goal_B22 (it X9_goal_B22 (fun _ _ _ _ _ _ _ => none) n22) z x1 x2 x3 x4 x5 x6 = some q := hf
      unfold X9_goal_B22 at hf
      refine r_iload hc 6 dX9_goal_22 rfl ?_
      refine r_aload_n hc 0 dX9_goal_24 rfl ?_
      refine r_get (v := .int (M_rooms z)) hc iw_X9 0 rfl rfl 0 (by decide) mw_860 rfl dX9_goal_25 ?_
      refine r_icmp_ge hc 73 dX9_goal_28 (by decide) (fun c_2 => ?_) (fun c_2 => ?_)
      · have hf := o_pos c_2 hf
        refine r_iload hc 4 dX9_goal_73 rfl ?_
        exact r_iret hK (Option.some.inj hf) rfl dX9_goal_75
      · have hf := o_neg c_2 hf
        refine r_aload_n hc 0 dX9_goal_31 rfl ?_
        refine r_iload_n hc 1 dX9_goal_32 rfl ?_
        refine r_iload hc 6 dX9_goal_33 rfl ?_
        refine r_iload_n hc 2 dX9_goal_35 rfl ?_
        refine r_iload_n hc 3 dX9_goal_36 rfl ?_
        obtain ⟨q37, hq37, hf⟩ := o_bind hf
        refine r_callVi (ws' := (wM cy A z)) (As := [.int x1, .int x6, .int x2, .int x3]) (rest := []) hc (c_X9_drawOf A z x1 x6 x2 x3 q37 hq37) kv_X9_drawOf mw_1044 0 rfl rfl _ _ _ (Sp_all _ _) rfl rfl (Nat.le_of_ble_eq_true rfl) ⟨by decide, by decide⟩ dX9_goal_37 ?_
        refine r_istore hc [(7, .int q37), (0, .ref (A 0)), (1, .int x1), (2, .int x2), (3, .int x3), (4, .int x4), (5, .int x5), (6, .int x6)] dX9_goal_40 (by decide) rfl ?_
        refine r_iload hc 0 dX9_goal_42 rfl ?_
        refine r_iload hc 6 dX9_goal_44 rfl ?_
        refine r_icmp_le hc 67 dX9_goal_46 (by decide) (fun c_3 => ?_) (fun c_3 => ?_)
        · have hf := o_pos c_3 hf
          exact V.sub [1, 2, 3, 4, 5, 6, 7] rfl (J67 x1 x2 x3 x4 x5 x6 hf)
        · have hf := o_neg c_3 hf
          refine r_aload_n hc 1 dX9_goal_49 rfl ?_
          refine r_iload_n hc 2 dX9_goal_50 rfl ?_
          refine r_iload hc 7 dX9_goal_51 rfl ?_
          obtain ⟨q53, hq53, hf⟩ := o_bind hf
          refine r_callVi (ws' := (wM cy A z)) (As := [.int x1, .int x6]) (rest := []) hc (c_X9_canGo A z x1 x6 q53 hq53) kv_X9_canGo mw_1052 0 rfl rfl _ _ _ (Sp_all _ _) rfl rfl (Nat.le_of_ble_eq_true rfl) ⟨by decide, by decide⟩ dX9_goal_53 ?_
          refine r_if_eq hc 67 dX9_goal_56 (by decide) (fun c_4 => ?_) (fun c_4 => ?_)
          · have hf := o_pos c_4 hf
            exact V.sub [1, 2, 3, 4, 5, 6, 7] rfl (J67 x1 x2 x3 x4 x5 x6 hf)
          · have hf := o_neg c_4 hf
            refine r_iload hc 7 dX9_goal_59 rfl ?_
            refine r_istore hc [(4, .int x6), (7, .int q37), (0, .ref (A 0)), (1, .int x1), (2, .int x2), (3, .int x3), (5, .int x5), (6, .int x6)] dX9_goal_61 (by decide) rfl ?_
            refine r_iload hc 1 dX9_goal_63 rfl ?_
            refine r_istore hc [(5, .int q37), (4, .int x6), (7, .int q37), (0, .ref (A 0)), (1, .int x1), (2, .int x2), (3, .int x3), (6, .int x6)] dX9_goal_65 (by decide) rfl ?_
            exact V.sub [3, 4, 5, 6, 1, 0, 7] rfl (J67 x1 x2 x3 x6 q37 x6 hf)
  show V K (wM cy A z) 0 [(0, .ref (A 0)), (1, .int x1), (2, .int x2), (3, .int x3)] []
  unfold f_X9_goal at hf
  refine r_aload_n hc 0 dX9_goal_0 rfl ?_
  refine r_get (v := .ref (A 12)) hc iw_X9 0 rfl rfl 15 (by decide) mw_875 rfl dX9_goal_1 ?_
  refine r_iload_n hc 1 dX9_goal_4 rfl ?_
  obtain ⟨i_1, hf⟩ := chk_some hf
  refine r_iald (f := (M_at z)) hc 12 rfl i_1 dX9_goal_5 ?_
  refine r_istore hc [(4, .int ((M_at z) (x1).toNatClampNeg)), (0, .ref (A 0)), (1, .int x1), (2, .int x2), (3, .int x3)] dX9_goal_6 (by decide) rfl ?_
  refine r_aload_n hc 1 dX9_goal_8 rfl ?_
  refine r_iload_n hc 2 dX9_goal_9 rfl ?_
  refine r_iload hc 0 dX9_goal_10 rfl ?_
  refine r_iload_n hc 3 dX9_goal_12 rfl ?_
  refine r_iload_n hc 4 dX9_goal_13 rfl ?_
  obtain ⟨q14, hq14, hf⟩ := o_bind hf
  refine r_callVi (ws' := (wM cy A z)) (As := [.int x1, .int ((M_at z) (x1).toNatClampNeg), .int x2, .int x3]) (rest := []) hc (c_X9_drawOf A z x1 ((M_at z) (x1).toNatClampNeg) x2 x3 q14 hq14) kv_X9_drawOf mw_1044 0 rfl rfl _ _ _ (Sp_all _ _) rfl rfl (Nat.le_of_ble_eq_true rfl) ⟨by decide, by decide⟩ dX9_goal_14 ?_
  refine r_istore hc [(5, .int q14), (4, .int ((M_at z) (x1).toNatClampNeg)), (0, .ref (A 0)), (1, .int x1), (2, .int x2), (3, .int x3)] dX9_goal_17 (by decide) rfl ?_
  refine r_iconst hc (0 : Int32) dX9_goal_19 rfl ?_
  refine r_istore hc [(6, .int (0 : Int32)), (5, .int q14), (4, .int ((M_at z) (x1).toNatClampNeg)), (0, .ref (A 0)), (1, .int x1), (2, .int x2), (3, .int x3)] dX9_goal_20 (by decide) rfl ?_
  exact V.sub [3, 4, 5, 6, 2, 1, 0] rfl (L22 FU x1 x2 x3 ((M_at z) (x1).toNatClampNeg) q14 (0 : Int32) hf)
def X9_shut_B2 (k2 : MS → Int32 → Option (MS)) (z : MS) (x1 : Int32) : Option (MS) :=
  (if (36 : Int32) ≤ x1 then (some (z)) else (chk x1 36 (ltA (M_set_through z (upd (M_through z) (x1).toNatClampNeg (0 : Int32))) fun z14 => (k2 z14 (x1 + (1 : Int32))))))
def f_X9_shut (z : MS) : Option (MS) :=
  (it X9_shut_B2 (fun _ _ => none) FU z (0 : Int32))
theorem kv_X9_shut : KV RX9 yX9_shut cX9_shut 2 none 0 := ⟨mw_1038, mw_33, mw_65, mw_1039, by decide +kernel⟩
set_option maxHeartbeats 8000000 in
set_option maxRecDepth 100000 in
theorem c_X9_shut {l : Launch} {E : va_G} {cy : Nat → ClassId} (A : Nat → Nat) (z : MS) (q : MS) (hf : f_X9_shut z = some q) : Cv l yX9_shut cX9_shut 2 none 1 60 E cy [.ref (A 0)] (wM cy A z) (wM cy A q) := by
  refine Cv.of RX9 (by decide) rfl (Nat.le_of_ble_eq_true rfl) ?_
  intro K hK
  have hc := hK.cq
  have L2 : ∀ (n2 : Nat) (z : MS) (x1 : Int32), it X9_shut_B2 (fun _ _ => none) n2 z x1 = some q → V K (wM cy A z) 2 [(0, .ref (A 0)), (1, .int x1)] [] := by
    intro n2
    induction n2 with
    | zero => intro z x1 hf; exact (o_none hf).elim
    | succ n2 ih2 =>
      intro z x1 hf
      replace hf : X9_shut_B2 (it X9_shut_B2 (fun _ _ => none) n2) z x1 = some q := hf
      unfold X9_shut_B2 at hf
      refine r_iload_n hc 1 dX9_shut_2 rfl ?_
      refine r_bipush hc (36 : Int32) dX9_shut_3 rfl ?_
      refine r_icmp_ge hc 21 dX9_shut_5 (by decide) (fun c_1 => ?_) (fun c_1 => ?_)
      · have hf := o_pos c_1 hf
        exact r_vret hK (congrArg (fun z9 => (wM cy A z9)) (Option.some.inj hf)) dX9_shut_21
      · have hf := o_neg c_1 hf
        refine r_aload_n hc 0 dX9_shut_8 rfl ?_
        refine r_get (v := .ref (A 17)) hc iw_X9 0 rfl rfl 21 (by decide) mw_881 rfl dX9_shut_9 ?_
        refine r_iload_n hc 1 dX9_shut_12 rfl ?_
        refine r_iconst hc (0 : Int32) dX9_shut_13 rfl ?_
        obtain ⟨i_2, hf⟩ := chk_some hf
        obtain ⟨z14, ez14, hf⟩ := lt_some hf
        refine r_iast (f := (M_through z)) hc 17 rfl i_2 dX9_shut_14 _ rfl (wM cy A z14) (wM_s_through ez14) ?_
        refine r_iinc hc 1 [(1, .int (x1 + (1 : Int32))), (0, .ref (A 0))] (x1 + (1 : Int32)) dX9_shut_15 rfl rfl (by decide) rfl ?_
        refine r_goto hc 2 dX9_shut_18 (by decide) ?_
        exact V.sub [1, 0] rfl (ih2 z14 (x1 + (1 : Int32)) hf)
  show V K (wM cy A z) 0 [(0, .ref (A 0))] []
  unfold f_X9_shut at hf
  refine r_iconst hc (0 : Int32) dX9_shut_0 rfl ?_
  refine r_istore_n hc [(1, .int (0 : Int32)), (0, .ref (A 0))] dX9_shut_1 (by decide) rfl ?_
  exact V.sub [1, 0] rfl (L2 FU z (0 : Int32) hf)
def X9_pass_J165 (k108 : MS → Int32 → Int32 → Option (Int32 × MS)) (z : MS) (x1 : Int32) (x2 : Int32) : Option (Int32 × MS) :=
  (k108 z x1 (x2 + (1 : Int32)))
def X9_pass_J164 (k108 : MS → Int32 → Int32 → Option (Int32 × MS)) (z : MS) (x1 : Int32) (x2 : Int32) (s0 : Int32) (s1 : Int32) : Option (Int32 × MS) :=
  (chk s1 8 (ltA (M_set_busyNow z (upd (M_busyNow z) (s1).toNatClampNeg s0)) fun z164 => (X9_pass_J165 k108 z164 x1 x2)))
def X9_pass_B108 (k108 : MS → Int32 → Int32 → Option (Int32 × MS)) (z : MS) (x1 : Int32) (x2 : Int32) : Option (Int32 × MS) :=
  (if (8 : Int32) ≤ x2 then (some (x1, z)) else ((f_X9_has (M_there z) x2).bind fun q119 => (if q119 = 0 then (X9_pass_J165 k108 z x1 x2) else (chk x2 8 (if ((M_busyNow z) (x2).toNatClampNeg) = (1 : Int32) then (chk x2 8 (chk x2 8 (ltA (M_set_leftNow z (upd (M_leftNow z) (x2).toNatClampNeg (((M_leftNow z) (x2).toNatClampNeg) - (1 : Int32)))) fun z144 => (chk x2 8 (if ((M_leftNow z144) (x2).toNatClampNeg) = 0 then (X9_pass_J164 k108 z144 x1 x2 (0 : Int32) x2) else (X9_pass_J164 k108 z144 x1 x2 (1 : Int32) x2)))))) else (X9_pass_J165 k108 z x1 x2))))))
def X9_pass_J100 (k8 : MS → Int32 → Int32 → Option (Int32 × MS)) (z : MS) (x1 : Int32) (x2 : Int32) : Option (Int32 × MS) :=
  (k8 z x1 (x2 + (1 : Int32)))
def X9_pass_B8 (k8 : MS → Int32 → Int32 → Option (Int32 × MS)) (z : MS) (x1 : Int32) (x2 : Int32) : Option (Int32 × MS) :=
  (if (8 : Int32) ≤ x2 then (it X9_pass_B108 (fun _ _ _ => none) FU z x1 (0 : Int32)) else ((f_X9_has (M_there z) x2).bind fun q19 => (if q19 = 0 then (X9_pass_J100 k8 z x1 x2) else (chk x2 8 (if ((M_busyNow z) (x2).toNatClampNeg) = 0 then (chk x2 8 ((f_X9_goal z x2 (-6 : Int32) (0 : Int32)).bind fun q46 => (if q46 = ((M_at z) (x2).toNatClampNeg) then (X9_pass_J100 k8 z x1 x2) else (chk (((6 : Int32) * ((M_at z) (x2).toNatClampNeg)) + q46) 36 (chk (((6 : Int32) * ((M_at z) (x2).toNatClampNeg)) + q46) 36 (ltA (M_set_through z (upd (M_through z) ((((6 : Int32) * ((M_at z) (x2).toNatClampNeg)) + q46)).toNatClampNeg (((M_through z) ((((6 : Int32) * ((M_at z) (x2).toNatClampNeg)) + q46)).toNatClampNeg) + (1 : Int32)))) fun z72 => (chk (((6 : Int32) * q46) + ((M_at z) (x2).toNatClampNeg)) 36 (chk (((6 : Int32) * q46) + ((M_at z) (x2).toNatClampNeg)) 36 (ltA (M_set_through z72 (upd (M_through z72) ((((6 : Int32) * q46) + ((M_at z) (x2).toNatClampNeg))).toNatClampNeg (((M_through z72) ((((6 : Int32) * q46) + ((M_at z) (x2).toNatClampNeg))).toNatClampNeg) + (1 : Int32)))) fun z88 => (chk x2 8 (ltA (M_set_at z88 (upd (M_at z88) (x2).toNatClampNeg q46)) fun z96 => (X9_pass_J100 k8 z96 (x1 + (1 : Int32)) x2)))))))))))) else (X9_pass_J100 k8 z x1 x2))))))
def f_X9_pass (z : MS) : Option (Int32 × MS) :=
  ((f_X9_shut z).bind fun q1 => (it X9_pass_B8 (fun _ _ _ => none) FU q1 (0 : Int32) (0 : Int32)))
theorem kv_X9_pass : KV RX9 yX9_pass cX9_pass 5 (some .int) 0 := ⟨mw_1034, mw_32, mw_65, mw_1035, by decide +kernel⟩
set_option maxHeartbeats 8000000 in
set_option maxRecDepth 100000 in
theorem c_X9_pass {l : Launch} {E : va_G} {cy : Nat → ClassId} (A : Nat → Nat) (z : MS) (q : Int32 × MS) (hf : f_X9_pass z = some q) : Ci l yX9_pass cX9_pass 5 (some .int) 5 159 E cy [.ref (A 0)] (wM cy A z) q.1 (wM cy A q.2) := by
  refine Ci.of RX9 (by decide) rfl (Nat.le_of_ble_eq_true rfl) ?_
  intro K hK
  have hc := hK.cq
  have L108 : ∀ (n108 : Nat) (z : MS) (x1 : Int32) (x2 : Int32), it X9_pass_B108 (fun _ _ _ => none) n108 z x1 x2 = some q → V K (wM cy A z) 108 [(0, .ref (A 0)), (1, .int x1), (2, .int x2)] [] := by
    intro n108
    induction n108 with
    | zero => intro z x1 x2 hf; exact (o_none hf).elim
    | succ n108 ih108 =>
      have J165 : ∀ (z : MS) (x1 : Int32) (x2 : Int32), X9_pass_J165 (it X9_pass_B108 (fun _ _ _ => none) n108) z x1 x2 = some q → V K (wM cy A z) 165 [(0, .ref (A 0)), (1, .int x1), (2, .int x2)] [] := by
        intro z x1 x2 hf
        unfold X9_pass_J165 at hf
        refine r_iinc hc 2 [(2, .int (x2 + (1 : Int32))), (0, .ref (A 0)), (1, .int x1)] (x2 + (1 : Int32)) dX9_pass_165 rfl rfl (by decide) rfl ?_
        refine r_goto hc 108 dX9_pass_168 (by decide) ?_
        exact V.sub [1, 2, 0] rfl (ih108 z x1 (x2 + (1 : Int32)) hf)
      have J164 : ∀ (z : MS) (x1 : Int32) (x2 : Int32) (s0 : Int32) (s1 : Int32), X9_pass_J164 (it X9_pass_B108 (fun _ _ _ => none) n108) z x1 x2 s0 s1 = some q → V K (wM cy A z) 164 [(0, .ref (A 0)), (1, .int x1), (2, .int x2)] [.int s0, .int s1, .ref (A 13)] := by
        intro z x1 x2 s0 s1 hf
        unfold X9_pass_J164 at hf
        obtain ⟨i_20, hf⟩ := chk_some hf
        obtain ⟨z164, ez164, hf⟩ := lt_some hf
        refine r_iast (f := (M_busyNow z)) hc 13 rfl i_20 dX9_pass_164 _ rfl (wM cy A z164) (wM_s_busyNow ez164) ?_
        exact V.sub [0, 1, 2] rfl (J165 z164 x1 x2 hf)
      intro z x1 x2 hf
      replace hf : X9_pass_B108 (it X9_pass_B108 (fun _ _ _ => none) n108) z x1 x2 = some q := hf
      unfold X9_pass_B108 at hf
      refine r_iload_n hc 2 dX9_pass_108 rfl ?_
      refine r_bipush hc (8 : Int32) dX9_pass_109 rfl ?_
      refine r_icmp_ge hc 171 dX9_pass_111 (by decide) (fun c_12 => ?_) (fun c_12 => ?_)
      · have hf := o_pos c_12 hf
        refine r_iload_n hc 1 dX9_pass_171 rfl ?_
        exact r_iret hK (congrArg (fun z9 => z9.1) (Option.some.inj hf)) (congrArg (fun z9 => (wM cy A z9.2)) (Option.some.inj hf)) dX9_pass_172
      · have hf := o_neg c_12 hf
        refine r_aload_n hc 0 dX9_pass_114 rfl ?_
        refine r_get (v := .int (M_there z)) hc iw_X9 0 rfl rfl 5 (by decide) mw_865 rfl dX9_pass_115 ?_
        refine r_iload_n hc 2 dX9_pass_118 rfl ?_
        obtain ⟨q119, hq119, hf⟩ := o_bind hf
        refine r_callSi (ws' := (wM cy A z)) (As := [.int (M_there z), .int x2]) (rest := []) hc (c_X9_has  (M_there z) x2 q119 hq119) ks_X9_has mw_970 _ _ _ (Sp_none _) rfl rfl (Nat.le_of_ble_eq_true rfl) ⟨by decide, by decide⟩ dX9_pass_119 ?_
        refine r_if_eq hc 165 dX9_pass_122 (by decide) (fun c_13 => ?_) (fun c_13 => ?_)
        · have hf := o_pos c_13 hf
          exact V.sub [0, 1, 2] rfl (J165 z x1 x2 hf)
        · have hf := o_neg c_13 hf
          refine r_aload_n hc 0 dX9_pass_125 rfl ?_
          refine r_get (v := .ref (A 13)) hc iw_X9 0 rfl rfl 16 (by decide) mw_876 rfl dX9_pass_126 ?_
          refine r_iload_n hc 2 dX9_pass_129 rfl ?_
          obtain ⟨i_14, hf⟩ := chk_some hf
          refine r_iald (f := (M_busyNow z)) hc 13 rfl i_14 dX9_pass_130 ?_
          refine r_iconst hc (1 : Int32) dX9_pass_131 rfl ?_
          refine r_icmp_ne hc 165 dX9_pass_132 (by decide) (fun c_15 => ?_) (fun c_15 => ?_)
          · have hf := o_neg c_15 hf
            exact V.sub [0, 1, 2] rfl (J165 z x1 x2 hf)
          · have hf := o_pos c_15 hf
            refine r_aload_n hc 0 dX9_pass_135 rfl ?_
            refine r_get (v := .ref (A 15)) hc iw_X9 0 rfl rfl 18 (by decide) mw_878 rfl dX9_pass_136 ?_
            refine r_iload_n hc 2 dX9_pass_139 rfl ?_
            refine r_dup2_11 hc dX9_pass_140 rfl rfl ?_
            obtain ⟨i_16, hf⟩ := chk_some hf
            refine r_iald (f := (M_leftNow z)) hc 15 rfl i_16 dX9_pass_141 ?_
            refine r_iconst hc (1 : Int32) dX9_pass_142 rfl ?_
            refine r_isub hc dX9_pass_143 ?_
            obtain ⟨i_17, hf⟩ := chk_some hf
            obtain ⟨z144, ez144, hf⟩ := lt_some hf
            refine r_iast (f := (M_leftNow z)) hc 15 rfl i_17 dX9_pass_144 _ rfl (wM cy A z144) (wM_s_leftNow ez144) ?_
            refine r_aload_n hc 0 dX9_pass_145 rfl ?_
            refine r_get (v := .ref (A 13)) hc iw_X9 0 rfl rfl 16 (by decide) mw_876 rfl dX9_pass_146 ?_
            refine r_iload_n hc 2 dX9_pass_149 rfl ?_
            refine r_aload_n hc 0 dX9_pass_150 rfl ?_
            refine r_get (v := .ref (A 15)) hc iw_X9 0 rfl rfl 18 (by decide) mw_878 rfl dX9_pass_151 ?_
            refine r_iload_n hc 2 dX9_pass_154 rfl ?_
            obtain ⟨i_18, hf⟩ := chk_some hf
            refine r_iald (f := (M_leftNow z144)) hc 15 rfl i_18 dX9_pass_155 ?_
            refine r_if_ne hc 163 dX9_pass_156 (by decide) (fun c_19 => ?_) (fun c_19 => ?_)
            · have hf := o_neg c_19 hf
              refine r_iconst hc (1 : Int32) dX9_pass_163 rfl ?_
              exact V.sub [0, 1, 2] rfl (J164 z144 x1 x2 (1 : Int32) x2 hf)
            · have hf := o_pos c_19 hf
              refine r_iconst hc (0 : Int32) dX9_pass_159 rfl ?_
              refine r_goto hc 164 dX9_pass_160 (by decide) ?_
              exact V.sub [0, 1, 2] rfl (J164 z144 x1 x2 (0 : Int32) x2 hf)
  have L8 : ∀ (n8 : Nat) (z : MS) (x1 : Int32) (x2 : Int32), it X9_pass_B8 (fun _ _ _ => none) n8 z x1 x2 = some q → V K (wM cy A z) 8 [(0, .ref (A 0)), (1, .int x1), (2, .int x2)] [] := by
    intro n8
    induction n8 with
    | zero => intro z x1 x2 hf; exact (o_none hf).elim
    | succ n8 ih8 =>
      have J100 : ∀ (z : MS) (x1 : Int32) (x2 : Int32), X9_pass_J100 (it X9_pass_B8 (fun _ _ _ => none) n8) z x1 x2 = some q → V K (wM cy A z) 100 [(0, .ref (A 0)), (1, .int x1), (2, .int x2)] [] := by
        intro z x1 x2 hf
        unfold X9_pass_J100 at hf
        refine r_iinc hc 2 [(2, .int (x2 + (1 : Int32))), (0, .ref (A 0)), (1, .int x1)] (x2 + (1 : Int32)) dX9_pass_100 rfl rfl (by decide) rfl ?_
        refine r_goto hc 8 dX9_pass_103 (by decide) ?_
        exact V.sub [1, 2, 0] rfl (ih8 z x1 (x2 + (1 : Int32)) hf)
      intro z x1 x2 hf
      replace hf : X9_pass_B8 (it X9_pass_B8 (fun _ _ _ => none) n8) z x1 x2 = some q := hf
      unfold X9_pass_B8 at hf
      refine r_iload_n hc 2 dX9_pass_8 rfl ?_
      refine r_bipush hc (8 : Int32) dX9_pass_9 rfl ?_
      refine r_icmp_ge hc 106 dX9_pass_11 (by decide) (fun c_1 => ?_) (fun c_1 => ?_)
      · have hf := o_pos c_1 hf
        refine r_iconst hc (0 : Int32) dX9_pass_106 rfl ?_
        refine r_istore_n hc [(2, .int (0 : Int32)), (0, .ref (A 0)), (1, .int x1)] dX9_pass_107 (by decide) rfl ?_
        exact V.sub [1, 2, 0] rfl (L108 FU z x1 (0 : Int32) hf)
      · have hf := o_neg c_1 hf
        refine r_aload_n hc 0 dX9_pass_14 rfl ?_
        refine r_get (v := .int (M_there z)) hc iw_X9 0 rfl rfl 5 (by decide) mw_865 rfl dX9_pass_15 ?_
        refine r_iload_n hc 2 dX9_pass_18 rfl ?_
        obtain ⟨q19, hq19, hf⟩ := o_bind hf
        refine r_callSi (ws' := (wM cy A z)) (As := [.int (M_there z), .int x2]) (rest := []) hc (c_X9_has  (M_there z) x2 q19 hq19) ks_X9_has mw_970 _ _ _ (Sp_none _) rfl rfl (Nat.le_of_ble_eq_true rfl) ⟨by decide, by decide⟩ dX9_pass_19 ?_
        refine r_if_eq hc 100 dX9_pass_22 (by decide) (fun c_2 => ?_) (fun c_2 => ?_)
        · have hf := o_pos c_2 hf
          exact V.sub [0, 1, 2] rfl (J100 z x1 x2 hf)
        · have hf := o_neg c_2 hf
          refine r_aload_n hc 0 dX9_pass_25 rfl ?_
          refine r_get (v := .ref (A 13)) hc iw_X9 0 rfl rfl 16 (by decide) mw_876 rfl dX9_pass_26 ?_
          refine r_iload_n hc 2 dX9_pass_29 rfl ?_
          obtain ⟨i_3, hf⟩ := chk_some hf
          refine r_iald (f := (M_busyNow z)) hc 13 rfl i_3 dX9_pass_30 ?_
          refine r_if_ne hc 100 dX9_pass_31 (by decide) (fun c_4 => ?_) (fun c_4 => ?_)
          · have hf := o_neg c_4 hf
            exact V.sub [0, 1, 2] rfl (J100 z x1 x2 hf)
          · have hf := o_pos c_4 hf
            refine r_aload_n hc 0 dX9_pass_34 rfl ?_
            refine r_get (v := .ref (A 12)) hc iw_X9 0 rfl rfl 15 (by decide) mw_875 rfl dX9_pass_35 ?_
            refine r_iload_n hc 2 dX9_pass_38 rfl ?_
            obtain ⟨i_5, hf⟩ := chk_some hf
            refine r_iald (f := (M_at z)) hc 12 rfl i_5 dX9_pass_39 ?_
            refine r_istore_n hc [(3, .int ((M_at z) (x2).toNatClampNeg)), (0, .ref (A 0)), (1, .int x1), (2, .int x2)] dX9_pass_40 (by decide) rfl ?_
            refine r_aload_n hc 1 dX9_pass_41 rfl ?_
            refine r_iload_n hc 3 dX9_pass_42 rfl ?_
            refine r_bipush hc (-6 : Int32) dX9_pass_43 rfl ?_
            refine r_iconst hc (0 : Int32) dX9_pass_45 rfl ?_
            obtain ⟨q46, hq46, hf⟩ := o_bind hf
            refine r_callVi (ws' := (wM cy A z)) (As := [.int x2, .int (-6 : Int32), .int (0 : Int32)]) (rest := []) hc (c_X9_goal A z x2 (-6 : Int32) (0 : Int32) q46 hq46) kv_X9_goal mw_1040 0 rfl rfl _ _ _ (Sp_all _ _) rfl rfl (Nat.le_of_ble_eq_true rfl) ⟨by decide, by decide⟩ dX9_pass_46 ?_
            refine r_istore hc [(4, .int q46), (3, .int ((M_at z) (x2).toNatClampNeg)), (0, .ref (A 0)), (1, .int x1), (2, .int x2)] dX9_pass_49 (by decide) rfl ?_
            refine r_iload hc 0 dX9_pass_51 rfl ?_
            refine r_iload_n hc 1 dX9_pass_53 rfl ?_
            refine r_icmp_eq hc 100 dX9_pass_54 (by decide) (fun c_6 => ?_) (fun c_6 => ?_)
            · have hf := o_pos c_6 hf
              exact V.sub [2, 3, 4] rfl (J100 z x1 x2 hf)
            · have hf := o_neg c_6 hf
              refine r_aload_n hc 2 dX9_pass_57 rfl ?_
              refine r_get (v := .ref (A 17)) hc iw_X9 0 rfl rfl 21 (by decide) mw_881 rfl dX9_pass_58 ?_
              refine r_bipush hc (6 : Int32) dX9_pass_61 rfl ?_
              refine r_iload_n hc 1 dX9_pass_63 rfl ?_
              refine r_imul hc dX9_pass_64 ?_
              refine r_iload hc 0 dX9_pass_65 rfl ?_
              refine r_iadd hc dX9_pass_67 ?_
              refine r_dup2_11 hc dX9_pass_68 rfl rfl ?_
              obtain ⟨i_7, hf⟩ := chk_some hf
              refine r_iald (f := (M_through z)) hc 17 rfl i_7 dX9_pass_69 ?_
              refine r_iconst hc (1 : Int32) dX9_pass_70 rfl ?_
              refine r_iadd hc dX9_pass_71 ?_
              obtain ⟨i_8, hf⟩ := chk_some hf
              obtain ⟨z72, ez72, hf⟩ := lt_some hf
              refine r_iast (f := (M_through z)) hc 17 rfl i_8 dX9_pass_72 _ rfl (wM cy A z72) (wM_s_through ez72) ?_
              refine r_aload_n hc 2 dX9_pass_73 rfl ?_
              refine r_get (v := .ref (A 17)) hc iw_X9 0 rfl rfl 21 (by decide) mw_881 rfl dX9_pass_74 ?_
              refine r_bipush hc (6 : Int32) dX9_pass_77 rfl ?_
              refine r_iload hc 0 dX9_pass_79 rfl ?_
              refine r_imul hc dX9_pass_81 ?_
              refine r_iload_n hc 1 dX9_pass_82 rfl ?_
              refine r_iadd hc dX9_pass_83 ?_
              refine r_dup2_11 hc dX9_pass_84 rfl rfl ?_
              obtain ⟨i_9, hf⟩ := chk_some hf
              refine r_iald (f := (M_through z72)) hc 17 rfl i_9 dX9_pass_85 ?_
              refine r_iconst hc (1 : Int32) dX9_pass_86 rfl ?_
              refine r_iadd hc dX9_pass_87 ?_
              obtain ⟨i_10, hf⟩ := chk_some hf
              obtain ⟨z88, ez88, hf⟩ := lt_some hf
              refine r_iast (f := (M_through z72)) hc 17 rfl i_10 dX9_pass_88 _ rfl (wM cy A z88) (wM_s_through ez88) ?_
              refine r_aload_n hc 2 dX9_pass_89 rfl ?_
              refine r_get (v := .ref (A 12)) hc iw_X9 0 rfl rfl 15 (by decide) mw_875 rfl dX9_pass_90 ?_
              refine r_iload_n hc 4 dX9_pass_93 rfl ?_
              refine r_iload hc 0 dX9_pass_94 rfl ?_
              obtain ⟨i_11, hf⟩ := chk_some hf
              obtain ⟨z96, ez96, hf⟩ := lt_some hf
              refine r_iast (f := (M_at z88)) hc 12 rfl i_11 dX9_pass_96 _ rfl (wM cy A z96) (wM_s_at ez96) ?_
              refine r_iinc hc 3 [(1, .int (x1 + (1 : Int32))), (4, .int q46), (3, .int ((M_at z) (x2).toNatClampNeg)), (0, .ref (A 0)), (2, .int x2)] (x1 + (1 : Int32)) dX9_pass_97 rfl rfl (by decide) rfl ?_
              exact V.sub [3, 0, 4] rfl (J100 z96 (x1 + (1 : Int32)) x2 hf)
  show V K (wM cy A z) 0 [(0, .ref (A 0))] []
  unfold f_X9_pass at hf
  refine r_aload_n hc 0 dX9_pass_0 rfl ?_
  obtain ⟨q1, hq1, hf⟩ := o_bind hf
  refine r_callVv (ws' := (wM cy A q1)) (As := []) (rest := []) hc (c_X9_shut A z q1 hq1) kv_X9_shut mw_1036 0 rfl rfl _ _ _ (Sp_all _ _) rfl rfl (Nat.le_of_ble_eq_true rfl) ⟨by decide, by decide⟩ dX9_pass_1 ?_
  refine r_iconst hc (0 : Int32) dX9_pass_4 rfl ?_
  refine r_istore_n hc [(1, .int (0 : Int32)), (0, .ref (A 0))] dX9_pass_5 (by decide) rfl ?_
  refine r_iconst hc (0 : Int32) dX9_pass_6 rfl ?_
  refine r_istore_n hc [(2, .int (0 : Int32)), (1, .int (0 : Int32)), (0, .ref (A 0))] dX9_pass_7 (by decide) rfl ?_
  exact V.sub [2, 1, 0] rfl (L8 FU q1 (0 : Int32) (0 : Int32) hf)
def f_X9_isBusy (z : MS) (x1 : Int32) : Option (Int32) :=
  (chk x1 8 (if ((M_busyNow z) (x1).toNatClampNeg) ≤ 0 then (some ((0 : Int32))) else (some ((1 : Int32)))))
theorem kv_X9_isBusy : KV RX9 yX9_isBusy cX9_isBusy 2 (some .boolean) 1 := ⟨mw_1070, mw_41, mw_65, mw_1071, by decide +kernel⟩
set_option maxHeartbeats 8000000 in
set_option maxRecDepth 100000 in
theorem c_X9_isBusy {l : Launch} {E : va_G} {cy : Nat → ClassId} (A : Nat → Nat) (z : MS) (x1 : Int32) (q : Int32) (hf : f_X9_isBusy z x1 = some q) : Ci l yX9_isBusy cX9_isBusy 2 (some .boolean) 1 60 E cy [.ref (A 0), .int x1] (wM cy A z) q (wM cy A z) := by
  refine Ci.of RX9 (by decide) rfl (Nat.le_of_ble_eq_true rfl) ?_
  intro K hK
  have hc := hK.cq
  show V K (wM cy A z) 0 [(0, .ref (A 0)), (1, .int x1)] []
  unfold f_X9_isBusy at hf
  refine r_aload_n hc 0 dX9_isBusy_0 rfl ?_
  refine r_get (v := .ref (A 13)) hc iw_X9 0 rfl rfl 16 (by decide) mw_876 rfl dX9_isBusy_1 ?_
  refine r_iload_n hc 1 dX9_isBusy_4 rfl ?_
  obtain ⟨i_1, hf⟩ := chk_some hf
  refine r_iald (f := (M_busyNow z)) hc 13 rfl i_1 dX9_isBusy_5 ?_
  refine r_if_le hc 13 dX9_isBusy_6 (by decide) (fun c_2 => ?_) (fun c_2 => ?_)
  · have hf := o_pos c_2 hf
    refine r_iconst hc (0 : Int32) dX9_isBusy_13 rfl ?_
    exact r_zret hK rfl (Option.some.inj hf) rfl dX9_isBusy_14
  · have hf := o_neg c_2 hf
    refine r_iconst hc (1 : Int32) dX9_isBusy_9 rfl ?_
    refine r_goto hc 14 dX9_isBusy_10 (by decide) ?_
    exact r_zret hK rfl (Option.some.inj hf) rfl dX9_isBusy_14
def X9_whyNotTalk_J36 (z : MS) : Option (Int32) :=
  (some ((2 : Int32)))
def X9_whyNotTalk_J16 (z : MS) : Option (Int32) :=
  (some ((1 : Int32)))
def f_X9_whyNotTalk (z : MS) (x1 : Int32) (x2 : Int32) : Option (Int32) :=
  ((f_X9_isThere z x1).bind fun q2 => (if q2 = 0 then (X9_whyNotTalk_J16 z) else ((f_X9_isThere z x2).bind fun q10 => (if q10 = 0 then (X9_whyNotTalk_J16 z) else ((f_X9_isBusy z x1).bind fun q22 => (if q22 = 0 then ((f_X9_isBusy z x2).bind fun q30 => (if q30 = 0 then (chk x1 8 (chk x2 8 (if ((M_at z) (x1).toNatClampNeg) = ((M_at z) (x2).toNatClampNeg) then (some ((0 : Int32))) else (some ((3 : Int32)))))) else (X9_whyNotTalk_J36 z))) else (X9_whyNotTalk_J36 z)))))))
theorem kv_X9_whyNotTalk : KV RX9 yX9_whyNotTalk cX9_whyNotTalk 3 (some .int) 2 := ⟨mw_1066, mw_40, mw_65, mw_1067, by decide +kernel⟩
set_option maxHeartbeats 8000000 in
set_option maxRecDepth 100000 in
theorem c_X9_whyNotTalk {l : Launch} {E : va_G} {cy : Nat → ClassId} (A : Nat → Nat) (z : MS) (x1 : Int32) (x2 : Int32) (q : Int32) (hf : f_X9_whyNotTalk z x1 x2 = some q) : Ci l yX9_whyNotTalk cX9_whyNotTalk 3 (some .int) 3 103 E cy [.ref (A 0), .int x1, .int x2] (wM cy A z) q (wM cy A z) := by
  refine Ci.of RX9 (by decide) rfl (Nat.le_of_ble_eq_true rfl) ?_
  intro K hK
  have hc := hK.cq
  have J36 : X9_whyNotTalk_J36  z = some q → V K (wM cy A z) 36 [] [] := by
    intro  hf
    unfold X9_whyNotTalk_J36 at hf
    refine r_iconst hc (2 : Int32) dX9_whyNotTalk_36 rfl ?_
    refine r_goto hc 60 dX9_whyNotTalk_37 (by decide) ?_
    exact r_iret hK (Option.some.inj hf) rfl dX9_whyNotTalk_60
  have J16 : X9_whyNotTalk_J16  z = some q → V K (wM cy A z) 16 [] [] := by
    intro  hf
    unfold X9_whyNotTalk_J16 at hf
    refine r_iconst hc (1 : Int32) dX9_whyNotTalk_16 rfl ?_
    refine r_goto hc 60 dX9_whyNotTalk_17 (by decide) ?_
    exact r_iret hK (Option.some.inj hf) rfl dX9_whyNotTalk_60
  show V K (wM cy A z) 0 [(0, .ref (A 0)), (1, .int x1), (2, .int x2)] []
  unfold f_X9_whyNotTalk at hf
  refine r_aload_n hc 0 dX9_whyNotTalk_0 rfl ?_
  refine r_iload_n hc 1 dX9_whyNotTalk_1 rfl ?_
  obtain ⟨q2, hq2, hf⟩ := o_bind hf
  refine r_callVi (ws' := (wM cy A z)) (As := [.int x1]) (rest := []) hc (c_X9_isThere A z x1 q2 hq2) kv_X9_isThere mw_996 0 rfl rfl _ _ _ (Sp_all _ _) rfl rfl (Nat.le_of_ble_eq_true rfl) ⟨by decide, by decide⟩ dX9_whyNotTalk_2 ?_
  refine r_if_eq hc 16 dX9_whyNotTalk_5 (by decide) (fun c_1 => ?_) (fun c_1 => ?_)
  · have hf := o_pos c_1 hf
    exact V.sub [] rfl (J16  hf)
  · have hf := o_neg c_1 hf
    refine r_aload_n hc 0 dX9_whyNotTalk_8 rfl ?_
    refine r_iload_n hc 2 dX9_whyNotTalk_9 rfl ?_
    obtain ⟨q10, hq10, hf⟩ := o_bind hf
    refine r_callVi (ws' := (wM cy A z)) (As := [.int x2]) (rest := []) hc (c_X9_isThere A z x2 q10 hq10) kv_X9_isThere mw_996 0 rfl rfl _ _ _ (Sp_all _ _) rfl rfl (Nat.le_of_ble_eq_true rfl) ⟨by decide, by decide⟩ dX9_whyNotTalk_10 ?_
    refine r_if_ne hc 20 dX9_whyNotTalk_13 (by decide) (fun c_2 => ?_) (fun c_2 => ?_)
    · have hf := o_neg c_2 hf
      refine r_aload_n hc 0 dX9_whyNotTalk_20 rfl ?_
      refine r_iload_n hc 1 dX9_whyNotTalk_21 rfl ?_
      obtain ⟨q22, hq22, hf⟩ := o_bind hf
      refine r_callVi (ws' := (wM cy A z)) (As := [.int x1]) (rest := []) hc (c_X9_isBusy A z x1 q22 hq22) kv_X9_isBusy mw_1068 0 rfl rfl _ _ _ (Sp_all _ _) rfl rfl (Nat.le_of_ble_eq_true rfl) ⟨by decide, by decide⟩ dX9_whyNotTalk_22 ?_
      refine r_if_ne hc 36 dX9_whyNotTalk_25 (by decide) (fun c_3 => ?_) (fun c_3 => ?_)
      · have hf := o_neg c_3 hf
        exact V.sub [] rfl (J36  hf)
      · have hf := o_pos c_3 hf
        refine r_aload_n hc 0 dX9_whyNotTalk_28 rfl ?_
        refine r_iload_n hc 2 dX9_whyNotTalk_29 rfl ?_
        obtain ⟨q30, hq30, hf⟩ := o_bind hf
        refine r_callVi (ws' := (wM cy A z)) (As := [.int x2]) (rest := []) hc (c_X9_isBusy A z x2 q30 hq30) kv_X9_isBusy mw_1068 0 rfl rfl _ _ _ (Sp_all _ _) rfl rfl (Nat.le_of_ble_eq_true rfl) ⟨by decide, by decide⟩ dX9_whyNotTalk_30 ?_
        refine r_if_eq hc 40 dX9_whyNotTalk_33 (by decide) (fun c_4 => ?_) (fun c_4 => ?_)
        · have hf := o_pos c_4 hf
          refine r_aload_n hc 0 dX9_whyNotTalk_40 rfl ?_
          refine r_get (v := .ref (A 12)) hc iw_X9 0 rfl rfl 15 (by decide) mw_875 rfl dX9_whyNotTalk_41 ?_
          refine r_iload_n hc 1 dX9_whyNotTalk_44 rfl ?_
          obtain ⟨i_5, hf⟩ := chk_some hf
          refine r_iald (f := (M_at z)) hc 12 rfl i_5 dX9_whyNotTalk_45 ?_
          refine r_aload_n hc 0 dX9_whyNotTalk_46 rfl ?_
          refine r_get (v := .ref (A 12)) hc iw_X9 0 rfl rfl 15 (by decide) mw_875 rfl dX9_whyNotTalk_47 ?_
          refine r_iload_n hc 2 dX9_whyNotTalk_50 rfl ?_
          obtain ⟨i_6, hf⟩ := chk_some hf
          refine r_iald (f := (M_at z)) hc 12 rfl i_6 dX9_whyNotTalk_51 ?_
          refine r_icmp_eq hc 59 dX9_whyNotTalk_52 (by decide) (fun c_7 => ?_) (fun c_7 => ?_)
          · have hf := o_pos c_7 hf
            refine r_iconst hc (0 : Int32) dX9_whyNotTalk_59 rfl ?_
            exact r_iret hK (Option.some.inj hf) rfl dX9_whyNotTalk_60
          · have hf := o_neg c_7 hf
            refine r_iconst hc (3 : Int32) dX9_whyNotTalk_55 rfl ?_
            refine r_goto hc 60 dX9_whyNotTalk_56 (by decide) ?_
            exact r_iret hK (Option.some.inj hf) rfl dX9_whyNotTalk_60
        · have hf := o_neg c_4 hf
          exact V.sub [] rfl (J36  hf)
    · have hf := o_pos c_2 hf
      exact V.sub [] rfl (J16  hf)
def f_X9_talk (z : MS) (x1 : Int32) (x2 : Int32) (x3 : Int32) : Option (MS) :=
  (chk x1 8 (ltA (M_set_busyNow z (upd (M_busyNow z) (x1).toNatClampNeg (1 : Int32))) fun z6 => (chk x2 8 (ltA (M_set_busyNow z6 (upd (M_busyNow z6) (x2).toNatClampNeg (1 : Int32))) fun z13 => (chk x1 8 (ltA (M_set_withNow z13 (upd (M_withNow z13) (x1).toNatClampNeg x2)) fun z20 => (chk x2 8 (ltA (M_set_withNow z20 (upd (M_withNow z20) (x2).toNatClampNeg x1)) fun z27 => (chk x1 8 (ltA (M_set_leftNow z27 (upd (M_leftNow z27) (x1).toNatClampNeg x3)) fun z34 => (chk x2 8 (ltA (M_set_leftNow z34 (upd (M_leftNow z34) (x2).toNatClampNeg x3)) fun z41 => (some (z41))))))))))))))
theorem kv_X9_talk : KV RX9 yX9_talk cX9_talk 4 none 3 := ⟨mw_1074, mw_42, mw_65, mw_1075, by decide +kernel⟩
set_option maxHeartbeats 8000000 in
set_option maxRecDepth 100000 in
theorem c_X9_talk {l : Launch} {E : va_G} {cy : Nat → ClassId} (A : Nat → Nat) (z : MS) (x1 : Int32) (x2 : Int32) (x3 : Int32) (q : MS) (hf : f_X9_talk z x1 x2 x3 = some q) : Cv l yX9_talk cX9_talk 4 none 1 60 E cy [.ref (A 0), .int x1, .int x2, .int x3] (wM cy A z) (wM cy A q) := by
  refine Cv.of RX9 (by decide) rfl (Nat.le_of_ble_eq_true rfl) ?_
  intro K hK
  have hc := hK.cq
  show V K (wM cy A z) 0 [(0, .ref (A 0)), (1, .int x1), (2, .int x2), (3, .int x3)] []
  unfold f_X9_talk at hf
  refine r_aload_n hc 0 dX9_talk_0 rfl ?_
  refine r_get (v := .ref (A 13)) hc iw_X9 0 rfl rfl 16 (by decide) mw_876 rfl dX9_talk_1 ?_
  refine r_iload_n hc 1 dX9_talk_4 rfl ?_
  refine r_iconst hc (1 : Int32) dX9_talk_5 rfl ?_
  obtain ⟨i_1, hf⟩ := chk_some hf
  obtain ⟨z6, ez6, hf⟩ := lt_some hf
  refine r_iast (f := (M_busyNow z)) hc 13 rfl i_1 dX9_talk_6 _ rfl (wM cy A z6) (wM_s_busyNow ez6) ?_
  refine r_aload_n hc 0 dX9_talk_7 rfl ?_
  refine r_get (v := .ref (A 13)) hc iw_X9 0 rfl rfl 16 (by decide) mw_876 rfl dX9_talk_8 ?_
  refine r_iload_n hc 2 dX9_talk_11 rfl ?_
  refine r_iconst hc (1 : Int32) dX9_talk_12 rfl ?_
  obtain ⟨i_2, hf⟩ := chk_some hf
  obtain ⟨z13, ez13, hf⟩ := lt_some hf
  refine r_iast (f := (M_busyNow z6)) hc 13 rfl i_2 dX9_talk_13 _ rfl (wM cy A z13) (wM_s_busyNow ez13) ?_
  refine r_aload_n hc 0 dX9_talk_14 rfl ?_
  refine r_get (v := .ref (A 14)) hc iw_X9 0 rfl rfl 17 (by decide) mw_877 rfl dX9_talk_15 ?_
  refine r_iload_n hc 1 dX9_talk_18 rfl ?_
  refine r_iload_n hc 2 dX9_talk_19 rfl ?_
  obtain ⟨i_3, hf⟩ := chk_some hf
  obtain ⟨z20, ez20, hf⟩ := lt_some hf
  refine r_iast (f := (M_withNow z13)) hc 14 rfl i_3 dX9_talk_20 _ rfl (wM cy A z20) (wM_s_withNow ez20) ?_
  refine r_aload_n hc 0 dX9_talk_21 rfl ?_
  refine r_get (v := .ref (A 14)) hc iw_X9 0 rfl rfl 17 (by decide) mw_877 rfl dX9_talk_22 ?_
  refine r_iload_n hc 2 dX9_talk_25 rfl ?_
  refine r_iload_n hc 1 dX9_talk_26 rfl ?_
  obtain ⟨i_4, hf⟩ := chk_some hf
  obtain ⟨z27, ez27, hf⟩ := lt_some hf
  refine r_iast (f := (M_withNow z20)) hc 14 rfl i_4 dX9_talk_27 _ rfl (wM cy A z27) (wM_s_withNow ez27) ?_
  refine r_aload_n hc 0 dX9_talk_28 rfl ?_
  refine r_get (v := .ref (A 15)) hc iw_X9 0 rfl rfl 18 (by decide) mw_878 rfl dX9_talk_29 ?_
  refine r_iload_n hc 1 dX9_talk_32 rfl ?_
  refine r_iload_n hc 3 dX9_talk_33 rfl ?_
  obtain ⟨i_5, hf⟩ := chk_some hf
  obtain ⟨z34, ez34, hf⟩ := lt_some hf
  refine r_iast (f := (M_leftNow z27)) hc 15 rfl i_5 dX9_talk_34 _ rfl (wM cy A z34) (wM_s_leftNow ez34) ?_
  refine r_aload_n hc 0 dX9_talk_35 rfl ?_
  refine r_get (v := .ref (A 15)) hc iw_X9 0 rfl rfl 18 (by decide) mw_878 rfl dX9_talk_36 ?_
  refine r_iload_n hc 2 dX9_talk_39 rfl ?_
  refine r_iload_n hc 3 dX9_talk_40 rfl ?_
  obtain ⟨i_6, hf⟩ := chk_some hf
  obtain ⟨z41, ez41, hf⟩ := lt_some hf
  refine r_iast (f := (M_leftNow z34)) hc 15 rfl i_6 dX9_talk_41 _ rfl (wM cy A z41) (wM_s_leftNow ez41) ?_
  exact r_vret hK (congrArg (fun z9 => (wM cy A z9)) (Option.some.inj hf)) dX9_talk_42
def X9_sittingIn_J47 (k4 : MS → Int32 → Int32 → Int32 → Option (Int32)) (z : MS) (x1 : Int32) (x3 : Int32) (s0 : Int32) (s1 : Int32) : Option (Int32) :=
  (k4 z x1 (s1 + s0) (x3 + (1 : Int32)))
def X9_sittingIn_J46 (k4 : MS → Int32 → Int32 → Int32 → Option (Int32)) (z : MS) (x1 : Int32) (x3 : Int32) (s0 : Int32) : Option (Int32) :=
  (X9_sittingIn_J47 k4 z x1 x3 (0 : Int32) s0)
def X9_sittingIn_B4 (k4 : MS → Int32 → Int32 → Int32 → Option (Int32)) (z : MS) (x1 : Int32) (x2 : Int32) (x3 : Int32) : Option (Int32) :=
  (if (8 : Int32) ≤ x3 then (some (x2)) else ((f_X9_has (M_there z) x3).bind fun q16 => (if q16 = 0 then (X9_sittingIn_J46 k4 z x1 x3 x2) else (chk x3 8 (if ((M_busyNow z) (x3).toNatClampNeg) = (2 : Int32) then (chk x3 8 (if ((M_at z) (x3).toNatClampNeg) = x1 then (X9_sittingIn_J47 k4 z x1 x3 (1 : Int32) x2) else (X9_sittingIn_J46 k4 z x1 x3 x2))) else (X9_sittingIn_J46 k4 z x1 x3 x2))))))
def f_X9_sittingIn (z : MS) (x1 : Int32) : Option (Int32) :=
  (it X9_sittingIn_B4 (fun _ _ _ _ => none) FU z x1 (0 : Int32) (0 : Int32))
theorem kv_X9_sittingIn : KV RX9 yX9_sittingIn cX9_sittingIn 4 (some .int) 1 := ⟨mw_1082, mw_44, mw_65, mw_1083, by decide +kernel⟩
set_option maxHeartbeats 8000000 in
set_option maxRecDepth 100000 in
theorem c_X9_sittingIn {l : Launch} {E : va_G} {cy : Nat → ClassId} (A : Nat → Nat) (z : MS) (x1 : Int32) (q : Int32) (hf : f_X9_sittingIn z x1 = some q) : Ci l yX9_sittingIn cX9_sittingIn 4 (some .int) 2 81 E cy [.ref (A 0), .int x1] (wM cy A z) q (wM cy A z) := by
  refine Ci.of RX9 (by decide) rfl (Nat.le_of_ble_eq_true rfl) ?_
  intro K hK
  have hc := hK.cq
  have L4 : ∀ (n4 : Nat) (x1 : Int32) (x2 : Int32) (x3 : Int32), it X9_sittingIn_B4 (fun _ _ _ _ => none) n4 z x1 x2 x3 = some q → V K (wM cy A z) 4 [(0, .ref (A 0)), (1, .int x1), (2, .int x2), (3, .int x3)] [] := by
    intro n4
    induction n4 with
    | zero => intro x1 x2 x3 hf; exact (o_none hf).elim
    | succ n4 ih4 =>
      have J47 : ∀ (x1 : Int32) (x3 : Int32) (s0 : Int32) (s1 : Int32), X9_sittingIn_J47 (it X9_sittingIn_B4 (fun _ _ _ _ => none) n4) z x1 x3 s0 s1 = some q → V K (wM cy A z) 47 [(0, .ref (A 0)), (1, .int x1), (3, .int x3)] [.int s0, .int s1] := by
        intro x1 x3 s0 s1 hf
        unfold X9_sittingIn_J47 at hf
        refine r_iadd hc dX9_sittingIn_47 ?_
        refine r_istore_n hc [(2, .int (s1 + s0)), (0, .ref (A 0)), (1, .int x1), (3, .int x3)] dX9_sittingIn_48 (by decide) rfl ?_
        refine r_iinc hc 3 [(3, .int (x3 + (1 : Int32))), (2, .int (s1 + s0)), (0, .ref (A 0)), (1, .int x1)] (x3 + (1 : Int32)) dX9_sittingIn_49 rfl rfl (by decide) rfl ?_
        refine r_goto hc 4 dX9_sittingIn_52 (by decide) ?_
        exact V.sub [2, 3, 1, 0] rfl (ih4 x1 (s1 + s0) (x3 + (1 : Int32)) hf)
      have J46 : ∀ (x1 : Int32) (x3 : Int32) (s0 : Int32), X9_sittingIn_J46 (it X9_sittingIn_B4 (fun _ _ _ _ => none) n4) z x1 x3 s0 = some q → V K (wM cy A z) 46 [(0, .ref (A 0)), (1, .int x1), (3, .int x3)] [.int s0] := by
        intro x1 x3 s0 hf
        unfold X9_sittingIn_J46 at hf
        refine r_iconst hc (0 : Int32) dX9_sittingIn_46 rfl ?_
        exact V.sub [0, 1, 2] rfl (J47 x1 x3 (0 : Int32) s0 hf)
      intro x1 x2 x3 hf
      replace hf : X9_sittingIn_B4 (it X9_sittingIn_B4 (fun _ _ _ _ => none) n4) z x1 x2 x3 = some q := hf
      unfold X9_sittingIn_B4 at hf
      refine r_iload_n hc 3 dX9_sittingIn_4 rfl ?_
      refine r_bipush hc (8 : Int32) dX9_sittingIn_5 rfl ?_
      refine r_icmp_ge hc 55 dX9_sittingIn_7 (by decide) (fun c_1 => ?_) (fun c_1 => ?_)
      · have hf := o_pos c_1 hf
        refine r_iload_n hc 2 dX9_sittingIn_55 rfl ?_
        exact r_iret hK (Option.some.inj hf) rfl dX9_sittingIn_56
      · have hf := o_neg c_1 hf
        refine r_iload_n hc 2 dX9_sittingIn_10 rfl ?_
        refine r_aload_n hc 0 dX9_sittingIn_11 rfl ?_
        refine r_get (v := .int (M_there z)) hc iw_X9 0 rfl rfl 5 (by decide) mw_865 rfl dX9_sittingIn_12 ?_
        refine r_iload_n hc 3 dX9_sittingIn_15 rfl ?_
        obtain ⟨q16, hq16, hf⟩ := o_bind hf
        refine r_callSi (ws' := (wM cy A z)) (As := [.int (M_there z), .int x3]) (rest := [.int x2]) hc (c_X9_has  (M_there z) x3 q16 hq16) ks_X9_has mw_970 _ _ _ (Sp_none _) rfl rfl (Nat.le_of_ble_eq_true rfl) ⟨by decide, by decide⟩ dX9_sittingIn_16 ?_
        refine r_if_eq hc 46 dX9_sittingIn_19 (by decide) (fun c_2 => ?_) (fun c_2 => ?_)
        · have hf := o_pos c_2 hf
          exact V.sub [0, 1, 3] rfl (J46 x1 x3 x2 hf)
        · have hf := o_neg c_2 hf
          refine r_aload_n hc 0 dX9_sittingIn_22 rfl ?_
          refine r_get (v := .ref (A 13)) hc iw_X9 0 rfl rfl 16 (by decide) mw_876 rfl dX9_sittingIn_23 ?_
          refine r_iload_n hc 3 dX9_sittingIn_26 rfl ?_
          obtain ⟨i_3, hf⟩ := chk_some hf
          refine r_iald (f := (M_busyNow z)) hc 13 rfl i_3 dX9_sittingIn_27 ?_
          refine r_iconst hc (2 : Int32) dX9_sittingIn_28 rfl ?_
          refine r_icmp_ne hc 46 dX9_sittingIn_29 (by decide) (fun c_4 => ?_) (fun c_4 => ?_)
          · have hf := o_neg c_4 hf
            exact V.sub [0, 1, 3] rfl (J46 x1 x3 x2 hf)
          · have hf := o_pos c_4 hf
            refine r_aload_n hc 0 dX9_sittingIn_32 rfl ?_
            refine r_get (v := .ref (A 12)) hc iw_X9 0 rfl rfl 15 (by decide) mw_875 rfl dX9_sittingIn_33 ?_
            refine r_iload_n hc 3 dX9_sittingIn_36 rfl ?_
            obtain ⟨i_5, hf⟩ := chk_some hf
            refine r_iald (f := (M_at z)) hc 12 rfl i_5 dX9_sittingIn_37 ?_
            refine r_iload_n hc 1 dX9_sittingIn_38 rfl ?_
            refine r_icmp_ne hc 46 dX9_sittingIn_39 (by decide) (fun c_6 => ?_) (fun c_6 => ?_)
            · have hf := o_neg c_6 hf
              exact V.sub [0, 1, 3] rfl (J46 x1 x3 x2 hf)
            · have hf := o_pos c_6 hf
              refine r_iconst hc (1 : Int32) dX9_sittingIn_42 rfl ?_
              refine r_goto hc 47 dX9_sittingIn_43 (by decide) ?_
              exact V.sub [0, 1, 3] rfl (J47 x1 x3 (1 : Int32) x2 hf)
  show V K (wM cy A z) 0 [(0, .ref (A 0)), (1, .int x1)] []
  unfold f_X9_sittingIn at hf
  refine r_iconst hc (0 : Int32) dX9_sittingIn_0 rfl ?_
  refine r_istore_n hc [(2, .int (0 : Int32)), (0, .ref (A 0)), (1, .int x1)] dX9_sittingIn_1 (by decide) rfl ?_
  refine r_iconst hc (0 : Int32) dX9_sittingIn_2 rfl ?_
  refine r_istore_n hc [(3, .int (0 : Int32)), (2, .int (0 : Int32)), (0, .ref (A 0)), (1, .int x1)] dX9_sittingIn_3 (by decide) rfl ?_
  exact V.sub [2, 3, 1, 0] rfl (L4 FU x1 (0 : Int32) (0 : Int32) hf)
def X9_whyNotDo_J95 (z : MS) : Option (Int32) :=
  (some ((0 : Int32)))
def X9_whyNotDo_J26 (z : MS) (x1 : Int32) (x2 : Int32) (s0 : Int32) (s1 : Int32) : Option (Int32) :=
  (if s1 = s0 then (if x2 = (95 : Int32) then (chk x1 8 ((f_X9_sittingIn z ((M_at z) (x1).toNatClampNeg)).bind fun q44 => (chk x1 8 (chk ((M_at z) (x1).toNatClampNeg) 6 (if ((M_chairs z) (((M_at z) (x1).toNatClampNeg)).toNatClampNeg) ≤ q44 then (some ((4 : Int32))) else (some ((0 : Int32)))))))) else (if x2 = (94 : Int32) then (X9_whyNotDo_J95 z) else (chk x1 8 (chk ((((6 : Int32) * ((M_at z) (x1).toNatClampNeg)) + x2) - (97 : Int32)) 36 (if ((M_width z) (((((6 : Int32) * ((M_at z) (x1).toNatClampNeg)) + x2) - (97 : Int32))).toNatClampNeg) ≤ 0 then (some ((5 : Int32))) else (X9_whyNotDo_J95 z)))))) else (some ((2 : Int32))))
def f_X9_whyNotDo (z : MS) (x1 : Int32) (x2 : Int32) : Option (Int32) :=
  ((f_X9_isThere z x1).bind fun q2 => (if q2 = 0 then (some ((1 : Int32))) else ((f_X9_isBusy z x1).bind fun q12 => (if x2 = (94 : Int32) then (X9_whyNotDo_J26 z x1 x2 (1 : Int32) q12) else (X9_whyNotDo_J26 z x1 x2 (0 : Int32) q12)))))
theorem kv_X9_whyNotDo : KV RX9 yX9_whyNotDo cX9_whyNotDo 3 (some .int) 2 := ⟨mw_1078, mw_43, mw_65, mw_1079, by decide +kernel⟩
set_option maxHeartbeats 8000000 in
set_option maxRecDepth 100000 in
theorem c_X9_whyNotDo {l : Launch} {E : va_G} {cy : Nat → ClassId} (A : Nat → Nat) (z : MS) (x1 : Int32) (x2 : Int32) (q : Int32) (hf : f_X9_whyNotDo z x1 x2 = some q) : Ci l yX9_whyNotDo cX9_whyNotDo 3 (some .int) 3 104 E cy [.ref (A 0), .int x1, .int x2] (wM cy A z) q (wM cy A z) := by
  refine Ci.of RX9 (by decide) rfl (Nat.le_of_ble_eq_true rfl) ?_
  intro K hK
  have hc := hK.cq
  have J95 : X9_whyNotDo_J95  z = some q → V K (wM cy A z) 95 [] [] := by
    intro  hf
    unfold X9_whyNotDo_J95 at hf
    refine r_iconst hc (0 : Int32) dX9_whyNotDo_95 rfl ?_
    refine r_goto hc 100 dX9_whyNotDo_96 (by decide) ?_
    exact r_iret hK (Option.some.inj hf) rfl dX9_whyNotDo_100
  have J26 : ∀ (x1 : Int32) (x2 : Int32) (s0 : Int32) (s1 : Int32), X9_whyNotDo_J26  z x1 x2 s0 s1 = some q → V K (wM cy A z) 26 [(0, .ref (A 0)), (1, .int x1), (2, .int x2)] [.int s0, .int s1] := by
    intro x1 x2 s0 s1 hf
    unfold X9_whyNotDo_J26 at hf
    refine r_icmp_eq hc 31 dX9_whyNotDo_26 (by decide) (fun c_3 => ?_) (fun c_3 => ?_)
    · have hf := o_pos c_3 hf
      refine r_iload_n hc 2 dX9_whyNotDo_31 rfl ?_
      refine r_bipush hc (95 : Int32) dX9_whyNotDo_32 rfl ?_
      refine r_icmp_ne hc 67 dX9_whyNotDo_34 (by decide) (fun c_4 => ?_) (fun c_4 => ?_)
      · have hf := o_neg c_4 hf
        refine r_iload_n hc 2 dX9_whyNotDo_67 rfl ?_
        refine r_bipush hc (94 : Int32) dX9_whyNotDo_68 rfl ?_
        refine r_icmp_eq hc 95 dX9_whyNotDo_70 (by decide) (fun c_5 => ?_) (fun c_5 => ?_)
        · have hf := o_pos c_5 hf
          exact V.sub [] rfl (J95  hf)
        · have hf := o_neg c_5 hf
          refine r_aload_n hc 0 dX9_whyNotDo_73 rfl ?_
          refine r_get (v := .ref (A 4)) hc iw_X9 0 rfl rfl 4 (by decide) mw_864 rfl dX9_whyNotDo_74 ?_
          refine r_bipush hc (6 : Int32) dX9_whyNotDo_77 rfl ?_
          refine r_aload_n hc 0 dX9_whyNotDo_79 rfl ?_
          refine r_get (v := .ref (A 12)) hc iw_X9 0 rfl rfl 15 (by decide) mw_875 rfl dX9_whyNotDo_80 ?_
          refine r_iload_n hc 1 dX9_whyNotDo_83 rfl ?_
          obtain ⟨i_6, hf⟩ := chk_some hf
          refine r_iald (f := (M_at z)) hc 12 rfl i_6 dX9_whyNotDo_84 ?_
          refine r_imul hc dX9_whyNotDo_85 ?_
          refine r_iload_n hc 2 dX9_whyNotDo_86 rfl ?_
          refine r_iadd hc dX9_whyNotDo_87 ?_
          refine r_bipush hc (97 : Int32) dX9_whyNotDo_88 rfl ?_
          refine r_isub hc dX9_whyNotDo_90 ?_
          obtain ⟨i_7, hf⟩ := chk_some hf
          refine r_iald (f := (M_width z)) hc 4 rfl i_7 dX9_whyNotDo_91 ?_
          refine r_if_le hc 99 dX9_whyNotDo_92 (by decide) (fun c_8 => ?_) (fun c_8 => ?_)
          · have hf := o_pos c_8 hf
            refine r_iconst hc (5 : Int32) dX9_whyNotDo_99 rfl ?_
            exact r_iret hK (Option.some.inj hf) rfl dX9_whyNotDo_100
          · have hf := o_neg c_8 hf
            exact V.sub [] rfl (J95  hf)
      · have hf := o_pos c_4 hf
        refine r_aload_n hc 0 dX9_whyNotDo_37 rfl ?_
        refine r_aload_n hc 0 dX9_whyNotDo_38 rfl ?_
        refine r_get (v := .ref (A 12)) hc iw_X9 0 rfl rfl 15 (by decide) mw_875 rfl dX9_whyNotDo_39 ?_
        refine r_iload_n hc 1 dX9_whyNotDo_42 rfl ?_
        obtain ⟨i_9, hf⟩ := chk_some hf
        refine r_iald (f := (M_at z)) hc 12 rfl i_9 dX9_whyNotDo_43 ?_
        obtain ⟨q44, hq44, hf⟩ := o_bind hf
        refine r_callVi (ws' := (wM cy A z)) (As := [.int ((M_at z) (x1).toNatClampNeg)]) (rest := []) hc (c_X9_sittingIn A z ((M_at z) (x1).toNatClampNeg) q44 hq44) kv_X9_sittingIn mw_1080 0 rfl rfl _ _ _ (Sp_all _ _) rfl rfl (Nat.le_of_ble_eq_true rfl) ⟨by decide, by decide⟩ dX9_whyNotDo_44 ?_
        refine r_aload_n hc 0 dX9_whyNotDo_47 rfl ?_
        refine r_get (v := .ref (A 3)) hc iw_X9 0 rfl rfl 3 (by decide) mw_863 rfl dX9_whyNotDo_48 ?_
        refine r_aload_n hc 0 dX9_whyNotDo_51 rfl ?_
        refine r_get (v := .ref (A 12)) hc iw_X9 0 rfl rfl 15 (by decide) mw_875 rfl dX9_whyNotDo_52 ?_
        refine r_iload_n hc 1 dX9_whyNotDo_55 rfl ?_
        obtain ⟨i_10, hf⟩ := chk_some hf
        refine r_iald (f := (M_at z)) hc 12 rfl i_10 dX9_whyNotDo_56 ?_
        obtain ⟨i_11, hf⟩ := chk_some hf
        refine r_iald (f := (M_chairs z)) hc 3 rfl i_11 dX9_whyNotDo_57 ?_
        refine r_icmp_ge hc 65 dX9_whyNotDo_58 (by decide) (fun c_12 => ?_) (fun c_12 => ?_)
        · have hf := o_pos c_12 hf
          refine r_iconst hc (4 : Int32) dX9_whyNotDo_65 rfl ?_
          exact r_iret hK (Option.some.inj hf) rfl dX9_whyNotDo_66
        · have hf := o_neg c_12 hf
          refine r_iconst hc (0 : Int32) dX9_whyNotDo_61 rfl ?_
          refine r_goto hc 66 dX9_whyNotDo_62 (by decide) ?_
          exact r_iret hK (Option.some.inj hf) rfl dX9_whyNotDo_66
    · have hf := o_neg c_3 hf
      refine r_iconst hc (2 : Int32) dX9_whyNotDo_29 rfl ?_
      exact r_iret hK (Option.some.inj hf) rfl dX9_whyNotDo_30
  show V K (wM cy A z) 0 [(0, .ref (A 0)), (1, .int x1), (2, .int x2)] []
  unfold f_X9_whyNotDo at hf
  refine r_aload_n hc 0 dX9_whyNotDo_0 rfl ?_
  refine r_iload_n hc 1 dX9_whyNotDo_1 rfl ?_
  obtain ⟨q2, hq2, hf⟩ := o_bind hf
  refine r_callVi (ws' := (wM cy A z)) (As := [.int x1]) (rest := []) hc (c_X9_isThere A z x1 q2 hq2) kv_X9_isThere mw_996 0 rfl rfl _ _ _ (Sp_all _ _) rfl rfl (Nat.le_of_ble_eq_true rfl) ⟨by decide, by decide⟩ dX9_whyNotDo_2 ?_
  refine r_if_ne hc 10 dX9_whyNotDo_5 (by decide) (fun c_1 => ?_) (fun c_1 => ?_)
  · have hf := o_neg c_1 hf
    refine r_aload_n hc 0 dX9_whyNotDo_10 rfl ?_
    refine r_iload_n hc 1 dX9_whyNotDo_11 rfl ?_
    obtain ⟨q12, hq12, hf⟩ := o_bind hf
    refine r_callVi (ws' := (wM cy A z)) (As := [.int x1]) (rest := []) hc (c_X9_isBusy A z x1 q12 hq12) kv_X9_isBusy mw_1068 0 rfl rfl _ _ _ (Sp_all _ _) rfl rfl (Nat.le_of_ble_eq_true rfl) ⟨by decide, by decide⟩ dX9_whyNotDo_12 ?_
    refine r_iload_n hc 2 dX9_whyNotDo_15 rfl ?_
    refine r_bipush hc (94 : Int32) dX9_whyNotDo_16 rfl ?_
    refine r_icmp_ne hc 25 dX9_whyNotDo_18 (by decide) (fun c_2 => ?_) (fun c_2 => ?_)
    · have hf := o_neg c_2 hf
      refine r_iconst hc (0 : Int32) dX9_whyNotDo_25 rfl ?_
      exact V.sub [0, 1, 2] rfl (J26 x1 x2 (0 : Int32) q12 hf)
    · have hf := o_pos c_2 hf
      refine r_iconst hc (1 : Int32) dX9_whyNotDo_21 rfl ?_
      refine r_goto hc 26 dX9_whyNotDo_22 (by decide) ?_
      exact V.sub [0, 1, 2] rfl (J26 x1 x2 (1 : Int32) q12 hf)
  · have hf := o_pos c_1 hf
    refine r_iconst hc (1 : Int32) dX9_whyNotDo_8 rfl ?_
    exact r_iret hK (Option.some.inj hf) rfl dX9_whyNotDo_9
def X9_act_J74 (z : MS) (x1 : Int32) (x2 : Int32) (s0 : Int32) (s1 : Int32) : Option (MS) :=
  (chk s1 8 (ltA (M_set_busyNow z (upd (M_busyNow z) (s1).toNatClampNeg s0)) fun z74 => (if x2 = (95 : Int32) then (chk x1 8 (ltA (M_set_withNow z74 (upd (M_withNow z74) (x1).toNatClampNeg (-6 : Int32))) fun z95 => (some (z95)))) else (chk x1 8 (ltA (M_set_withNow z74 (upd (M_withNow z74) (x1).toNatClampNeg (x2 - (97 : Int32)))) fun z95 => (some (z95)))))))
def X9_act_J26 (z : MS) (x1 : Int32) (s0 : Int32) : Option (MS) :=
  (chk s0 8 (ltA (M_set_busyNow z (upd (M_busyNow z) (s0).toNatClampNeg (0 : Int32))) fun z33 => (chk s0 8 (ltA (M_set_leftNow z33 (upd (M_leftNow z33) (s0).toNatClampNeg (0 : Int32))) fun z40 => (chk x1 8 (ltA (M_set_busyNow z40 (upd (M_busyNow z40) (x1).toNatClampNeg (0 : Int32))) fun z47 => (chk x1 8 (ltA (M_set_leftNow z47 (upd (M_leftNow z47) (x1).toNatClampNeg (0 : Int32))) fun z54 => (some (z54))))))))))
def f_X9_act (z : MS) (x1 : Int32) (x2 : Int32) : Option (MS) :=
  (if x2 = (94 : Int32) then (chk x1 8 (if ((M_busyNow z) (x1).toNatClampNeg) = (1 : Int32) then (chk x1 8 (X9_act_J26 z x1 ((M_withNow z) (x1).toNatClampNeg))) else (X9_act_J26 z x1 x1))) else (if x2 = (95 : Int32) then (X9_act_J74 z x1 x2 (2 : Int32) x1) else (X9_act_J74 z x1 x2 (3 : Int32) x1)))
theorem kv_X9_act : KV RX9 yX9_act cX9_act 4 none 2 := ⟨mw_1086, mw_45, mw_65, mw_1087, by decide +kernel⟩
set_option maxHeartbeats 8000000 in
set_option maxRecDepth 100000 in
theorem c_X9_act {l : Launch} {E : va_G} {cy : Nat → ClassId} (A : Nat → Nat) (z : MS) (x1 : Int32) (x2 : Int32) (q : MS) (hf : f_X9_act z x1 x2 = some q) : Cv l yX9_act cX9_act 4 none 1 60 E cy [.ref (A 0), .int x1, .int x2] (wM cy A z) (wM cy A q) := by
  refine Cv.of RX9 (by decide) rfl (Nat.le_of_ble_eq_true rfl) ?_
  intro K hK
  have hc := hK.cq
  have J74 : ∀ (z : MS) (x1 : Int32) (x2 : Int32) (s0 : Int32) (s1 : Int32), X9_act_J74  z x1 x2 s0 s1 = some q → V K (wM cy A z) 74 [(0, .ref (A 0)), (1, .int x1), (2, .int x2)] [.int s0, .int s1, .ref (A 13)] := by
    intro z x1 x2 s0 s1 hf
    unfold X9_act_J74 at hf
    obtain ⟨i_10, hf⟩ := chk_some hf
    obtain ⟨z74, ez74, hf⟩ := lt_some hf
    refine r_iast (f := (M_busyNow z)) hc 13 rfl i_10 dX9_act_74 _ rfl (wM cy A z74) (wM_s_busyNow ez74) ?_
    refine r_aload_n hc 0 dX9_act_75 rfl ?_
    refine r_get (v := .ref (A 14)) hc iw_X9 0 rfl rfl 17 (by decide) mw_877 rfl dX9_act_76 ?_
    refine r_iload_n hc 1 dX9_act_79 rfl ?_
    refine r_iload_n hc 2 dX9_act_80 rfl ?_
    refine r_bipush hc (95 : Int32) dX9_act_81 rfl ?_
    refine r_icmp_ne hc 91 dX9_act_83 (by decide) (fun c_11 => ?_) (fun c_11 => ?_)
    · have hf := o_neg c_11 hf
      refine r_iload_n hc 2 dX9_act_91 rfl ?_
      refine r_bipush hc (97 : Int32) dX9_act_92 rfl ?_
      refine r_isub hc dX9_act_94 ?_
      obtain ⟨i_12, hf⟩ := chk_some hf
      obtain ⟨z95, ez95, hf⟩ := lt_some hf
      refine r_iast (f := (M_withNow z74)) hc 14 rfl i_12 dX9_act_95 _ rfl (wM cy A z95) (wM_s_withNow ez95) ?_
      exact r_vret hK (congrArg (fun z9 => (wM cy A z9)) (Option.some.inj hf)) dX9_act_96
    · have hf := o_pos c_11 hf
      refine r_bipush hc (-6 : Int32) dX9_act_86 rfl ?_
      refine r_goto hc 95 dX9_act_88 (by decide) ?_
      obtain ⟨i_13, hf⟩ := chk_some hf
      obtain ⟨z95, ez95, hf⟩ := lt_some hf
      refine r_iast (f := (M_withNow z74)) hc 14 rfl i_13 dX9_act_95 _ rfl (wM cy A z95) (wM_s_withNow ez95) ?_
      exact r_vret hK (congrArg (fun z9 => (wM cy A z9)) (Option.some.inj hf)) dX9_act_96
  have J26 : ∀ (z : MS) (x1 : Int32) (s0 : Int32), X9_act_J26  z x1 s0 = some q → V K (wM cy A z) 26 [(0, .ref (A 0)), (1, .int x1)] [.int s0] := by
    intro z x1 s0 hf
    unfold X9_act_J26 at hf
    refine r_istore_n hc [(3, .int s0), (0, .ref (A 0)), (1, .int x1)] dX9_act_26 (by decide) rfl ?_
    refine r_aload_n hc 1 dX9_act_27 rfl ?_
    refine r_get (v := .ref (A 13)) hc iw_X9 0 rfl rfl 16 (by decide) mw_876 rfl dX9_act_28 ?_
    refine r_iload_n hc 0 dX9_act_31 rfl ?_
    refine r_iconst hc (0 : Int32) dX9_act_32 rfl ?_
    obtain ⟨i_6, hf⟩ := chk_some hf
    obtain ⟨z33, ez33, hf⟩ := lt_some hf
    refine r_iast (f := (M_busyNow z)) hc 13 rfl i_6 dX9_act_33 _ rfl (wM cy A z33) (wM_s_busyNow ez33) ?_
    refine r_aload_n hc 1 dX9_act_34 rfl ?_
    refine r_get (v := .ref (A 15)) hc iw_X9 0 rfl rfl 18 (by decide) mw_878 rfl dX9_act_35 ?_
    refine r_iload_n hc 0 dX9_act_38 rfl ?_
    refine r_iconst hc (0 : Int32) dX9_act_39 rfl ?_
    obtain ⟨i_7, hf⟩ := chk_some hf
    obtain ⟨z40, ez40, hf⟩ := lt_some hf
    refine r_iast (f := (M_leftNow z33)) hc 15 rfl i_7 dX9_act_40 _ rfl (wM cy A z40) (wM_s_leftNow ez40) ?_
    refine r_aload_n hc 1 dX9_act_41 rfl ?_
    refine r_get (v := .ref (A 13)) hc iw_X9 0 rfl rfl 16 (by decide) mw_876 rfl dX9_act_42 ?_
    refine r_iload_n hc 2 dX9_act_45 rfl ?_
    refine r_iconst hc (0 : Int32) dX9_act_46 rfl ?_
    obtain ⟨i_8, hf⟩ := chk_some hf
    obtain ⟨z47, ez47, hf⟩ := lt_some hf
    refine r_iast (f := (M_busyNow z40)) hc 13 rfl i_8 dX9_act_47 _ rfl (wM cy A z47) (wM_s_busyNow ez47) ?_
    refine r_aload_n hc 1 dX9_act_48 rfl ?_
    refine r_get (v := .ref (A 15)) hc iw_X9 0 rfl rfl 18 (by decide) mw_878 rfl dX9_act_49 ?_
    refine r_iload_n hc 2 dX9_act_52 rfl ?_
    refine r_iconst hc (0 : Int32) dX9_act_53 rfl ?_
    obtain ⟨i_9, hf⟩ := chk_some hf
    obtain ⟨z54, ez54, hf⟩ := lt_some hf
    refine r_iast (f := (M_leftNow z47)) hc 15 rfl i_9 dX9_act_54 _ rfl (wM cy A z54) (wM_s_leftNow ez54) ?_
    refine r_goto hc 96 dX9_act_55 (by decide) ?_
    exact r_vret hK (congrArg (fun z9 => (wM cy A z9)) (Option.some.inj hf)) dX9_act_96
  show V K (wM cy A z) 0 [(0, .ref (A 0)), (1, .int x1), (2, .int x2)] []
  unfold f_X9_act at hf
  refine r_iload_n hc 2 dX9_act_0 rfl ?_
  refine r_bipush hc (94 : Int32) dX9_act_1 rfl ?_
  refine r_icmp_ne hc 58 dX9_act_3 (by decide) (fun c_1 => ?_) (fun c_1 => ?_)
  · have hf := o_neg c_1 hf
    refine r_aload_n hc 0 dX9_act_58 rfl ?_
    refine r_get (v := .ref (A 13)) hc iw_X9 0 rfl rfl 16 (by decide) mw_876 rfl dX9_act_59 ?_
    refine r_iload_n hc 1 dX9_act_62 rfl ?_
    refine r_iload_n hc 2 dX9_act_63 rfl ?_
    refine r_bipush hc (95 : Int32) dX9_act_64 rfl ?_
    refine r_icmp_ne hc 73 dX9_act_66 (by decide) (fun c_2 => ?_) (fun c_2 => ?_)
    · have hf := o_neg c_2 hf
      refine r_iconst hc (3 : Int32) dX9_act_73 rfl ?_
      exact V.sub [0, 1, 2] rfl (J74 z x1 x2 (3 : Int32) x1 hf)
    · have hf := o_pos c_2 hf
      refine r_iconst hc (2 : Int32) dX9_act_69 rfl ?_
      refine r_goto hc 74 dX9_act_70 (by decide) ?_
      exact V.sub [0, 1, 2] rfl (J74 z x1 x2 (2 : Int32) x1 hf)
  · have hf := o_pos c_1 hf
    refine r_aload_n hc 0 dX9_act_6 rfl ?_
    refine r_get (v := .ref (A 13)) hc iw_X9 0 rfl rfl 16 (by decide) mw_876 rfl dX9_act_7 ?_
    refine r_iload_n hc 1 dX9_act_10 rfl ?_
    obtain ⟨i_3, hf⟩ := chk_some hf
    refine r_iald (f := (M_busyNow z)) hc 13 rfl i_3 dX9_act_11 ?_
    refine r_iconst hc (1 : Int32) dX9_act_12 rfl ?_
    refine r_icmp_ne hc 25 dX9_act_13 (by decide) (fun c_4 => ?_) (fun c_4 => ?_)
    · have hf := o_neg c_4 hf
      refine r_iload_n hc 1 dX9_act_25 rfl ?_
      exact V.sub [0, 1] rfl (J26 z x1 x1 hf)
    · have hf := o_pos c_4 hf
      refine r_aload_n hc 0 dX9_act_16 rfl ?_
      refine r_get (v := .ref (A 14)) hc iw_X9 0 rfl rfl 17 (by decide) mw_877 rfl dX9_act_17 ?_
      refine r_iload_n hc 1 dX9_act_20 rfl ?_
      obtain ⟨i_5, hf⟩ := chk_some hf
      refine r_iald (f := (M_withNow z)) hc 14 rfl i_5 dX9_act_21 ?_
      refine r_goto hc 26 dX9_act_22 (by decide) ?_
      exact V.sub [0, 1] rfl (J26 z x1 ((M_withNow z) (x1).toNatClampNeg) hf)
def X9_whyNotCarry_J33 (z : MS) : Option (Int32) :=
  (some ((6 : Int32)))
def f_X9_whyNotCarry (z : MS) (x1 : Int32) (x2 : Int32) (x3 : Int32) : Option (Int32) :=
  (if x1 = x2 then (X9_whyNotCarry_J33 z) else (chk (((4 : Int32) * x1) + x3) 24 (if ((M_thingsNow z) ((((4 : Int32) * x1) + x3)).toNatClampNeg) = 0 then (X9_whyNotCarry_J33 z) else (chk (((4 : Int32) * x2) + x3) 24 (if ((M_thingsNow z) ((((4 : Int32) * x2) + x3)).toNatClampNeg) = (9 : Int32) then (X9_whyNotCarry_J33 z) else (some ((0 : Int32))))))))
theorem kv_X9_whyNotCarry : KV RX9 yX9_whyNotCarry cX9_whyNotCarry 4 (some .int) 3 := ⟨mw_1058, mw_38, mw_65, mw_1059, by decide +kernel⟩
set_option maxHeartbeats 8000000 in
set_option maxRecDepth 100000 in
theorem c_X9_whyNotCarry {l : Launch} {E : va_G} {cy : Nat → ClassId} (A : Nat → Nat) (z : MS) (x1 : Int32) (x2 : Int32) (x3 : Int32) (q : Int32) (hf : f_X9_whyNotCarry z x1 x2 x3 = some q) : Ci l yX9_whyNotCarry cX9_whyNotCarry 4 (some .int) 1 60 E cy [.ref (A 0), .int x1, .int x2, .int x3] (wM cy A z) q (wM cy A z) := by
  refine Ci.of RX9 (by decide) rfl (Nat.le_of_ble_eq_true rfl) ?_
  intro K hK
  have hc := hK.cq
  have J33 : X9_whyNotCarry_J33  z = some q → V K (wM cy A z) 33 [] [] := by
    intro  hf
    unfold X9_whyNotCarry_J33 at hf
    refine r_bipush hc (6 : Int32) dX9_whyNotCarry_33 rfl ?_
    refine r_goto hc 39 dX9_whyNotCarry_35 (by decide) ?_
    exact r_iret hK (Option.some.inj hf) rfl dX9_whyNotCarry_39
  show V K (wM cy A z) 0 [(0, .ref (A 0)), (1, .int x1), (2, .int x2), (3, .int x3)] []
  unfold f_X9_whyNotCarry at hf
  refine r_iload_n hc 1 dX9_whyNotCarry_0 rfl ?_
  refine r_iload_n hc 2 dX9_whyNotCarry_1 rfl ?_
  refine r_icmp_eq hc 33 dX9_whyNotCarry_2 (by decide) (fun c_1 => ?_) (fun c_1 => ?_)
  · have hf := o_pos c_1 hf
    exact V.sub [] rfl (J33  hf)
  · have hf := o_neg c_1 hf
    refine r_aload_n hc 0 dX9_whyNotCarry_5 rfl ?_
    refine r_get (v := .ref (A 16)) hc iw_X9 0 rfl rfl 19 (by decide) mw_879 rfl dX9_whyNotCarry_6 ?_
    refine r_iconst hc (4 : Int32) dX9_whyNotCarry_9 rfl ?_
    refine r_iload_n hc 1 dX9_whyNotCarry_10 rfl ?_
    refine r_imul hc dX9_whyNotCarry_11 ?_
    refine r_iload_n hc 3 dX9_whyNotCarry_12 rfl ?_
    refine r_iadd hc dX9_whyNotCarry_13 ?_
    obtain ⟨i_2, hf⟩ := chk_some hf
    refine r_iald (f := (M_thingsNow z)) hc 16 rfl i_2 dX9_whyNotCarry_14 ?_
    refine r_if_eq hc 33 dX9_whyNotCarry_15 (by decide) (fun c_3 => ?_) (fun c_3 => ?_)
    · have hf := o_pos c_3 hf
      exact V.sub [] rfl (J33  hf)
    · have hf := o_neg c_3 hf
      refine r_aload_n hc 0 dX9_whyNotCarry_18 rfl ?_
      refine r_get (v := .ref (A 16)) hc iw_X9 0 rfl rfl 19 (by decide) mw_879 rfl dX9_whyNotCarry_19 ?_
      refine r_iconst hc (4 : Int32) dX9_whyNotCarry_22 rfl ?_
      refine r_iload_n hc 2 dX9_whyNotCarry_23 rfl ?_
      refine r_imul hc dX9_whyNotCarry_24 ?_
      refine r_iload_n hc 3 dX9_whyNotCarry_25 rfl ?_
      refine r_iadd hc dX9_whyNotCarry_26 ?_
      obtain ⟨i_4, hf⟩ := chk_some hf
      refine r_iald (f := (M_thingsNow z)) hc 16 rfl i_4 dX9_whyNotCarry_27 ?_
      refine r_bipush hc (9 : Int32) dX9_whyNotCarry_28 rfl ?_
      refine r_icmp_ne hc 38 dX9_whyNotCarry_30 (by decide) (fun c_5 => ?_) (fun c_5 => ?_)
      · have hf := o_neg c_5 hf
        refine r_iconst hc (0 : Int32) dX9_whyNotCarry_38 rfl ?_
        exact r_iret hK (Option.some.inj hf) rfl dX9_whyNotCarry_39
      · have hf := o_pos c_5 hf
        exact V.sub [] rfl (J33  hf)
def f_X9_carry (z : MS) (x1 : Int32) (x2 : Int32) (x3 : Int32) : Option (MS) :=
  (chk (((4 : Int32) * x1) + x3) 24 (chk (((4 : Int32) * x1) + x3) 24 (ltA (M_set_thingsNow z (upd (M_thingsNow z) ((((4 : Int32) * x1) + x3)).toNatClampNeg (((M_thingsNow z) ((((4 : Int32) * x1) + x3)).toNatClampNeg) - (1 : Int32)))) fun z13 => (chk (((4 : Int32) * x2) + x3) 24 (chk (((4 : Int32) * x2) + x3) 24 (ltA (M_set_thingsNow z13 (upd (M_thingsNow z13) ((((4 : Int32) * x2) + x3)).toNatClampNeg (((M_thingsNow z13) ((((4 : Int32) * x2) + x3)).toNatClampNeg) + (1 : Int32)))) fun z27 => (some (z27))))))))
theorem kv_X9_carry : KV RX9 yX9_carry cX9_carry 4 none 3 := ⟨mw_1062, mw_39, mw_65, mw_1063, by decide +kernel⟩
set_option maxHeartbeats 8000000 in
set_option maxRecDepth 100000 in
theorem c_X9_carry {l : Launch} {E : va_G} {cy : Nat → ClassId} (A : Nat → Nat) (z : MS) (x1 : Int32) (x2 : Int32) (x3 : Int32) (q : MS) (hf : f_X9_carry z x1 x2 x3 = some q) : Cv l yX9_carry cX9_carry 4 none 1 60 E cy [.ref (A 0), .int x1, .int x2, .int x3] (wM cy A z) (wM cy A q) := by
  refine Cv.of RX9 (by decide) rfl (Nat.le_of_ble_eq_true rfl) ?_
  intro K hK
  have hc := hK.cq
  show V K (wM cy A z) 0 [(0, .ref (A 0)), (1, .int x1), (2, .int x2), (3, .int x3)] []
  unfold f_X9_carry at hf
  refine r_aload_n hc 0 dX9_carry_0 rfl ?_
  refine r_get (v := .ref (A 16)) hc iw_X9 0 rfl rfl 19 (by decide) mw_879 rfl dX9_carry_1 ?_
  refine r_iconst hc (4 : Int32) dX9_carry_4 rfl ?_
  refine r_iload_n hc 1 dX9_carry_5 rfl ?_
  refine r_imul hc dX9_carry_6 ?_
  refine r_iload_n hc 3 dX9_carry_7 rfl ?_
  refine r_iadd hc dX9_carry_8 ?_
  refine r_dup2_11 hc dX9_carry_9 rfl rfl ?_
  obtain ⟨i_1, hf⟩ := chk_some hf
  refine r_iald (f := (M_thingsNow z)) hc 16 rfl i_1 dX9_carry_10 ?_
  refine r_iconst hc (1 : Int32) dX9_carry_11 rfl ?_
  refine r_isub hc dX9_carry_12 ?_
  obtain ⟨i_2, hf⟩ := chk_some hf
  obtain ⟨z13, ez13, hf⟩ := lt_some hf
  refine r_iast (f := (M_thingsNow z)) hc 16 rfl i_2 dX9_carry_13 _ rfl (wM cy A z13) (wM_s_thingsNow ez13) ?_
  refine r_aload_n hc 0 dX9_carry_14 rfl ?_
  refine r_get (v := .ref (A 16)) hc iw_X9 0 rfl rfl 19 (by decide) mw_879 rfl dX9_carry_15 ?_
  refine r_iconst hc (4 : Int32) dX9_carry_18 rfl ?_
  refine r_iload_n hc 2 dX9_carry_19 rfl ?_
  refine r_imul hc dX9_carry_20 ?_
  refine r_iload_n hc 3 dX9_carry_21 rfl ?_
  refine r_iadd hc dX9_carry_22 ?_
  refine r_dup2_11 hc dX9_carry_23 rfl rfl ?_
  obtain ⟨i_3, hf⟩ := chk_some hf
  refine r_iald (f := (M_thingsNow z13)) hc 16 rfl i_3 dX9_carry_24 ?_
  refine r_iconst hc (1 : Int32) dX9_carry_25 rfl ?_
  refine r_iadd hc dX9_carry_26 ?_
  obtain ⟨i_4, hf⟩ := chk_some hf
  obtain ⟨z27, ez27, hf⟩ := lt_some hf
  refine r_iast (f := (M_thingsNow z13)) hc 16 rfl i_4 dX9_carry_27 _ rfl (wM cy A z27) (wM_s_thingsNow ez27) ?_
  exact r_vret hK (congrArg (fun z9 => (wM cy A z9)) (Option.some.inj hf)) dX9_carry_28
