def X9_note_J146 (k8 : MS → Int32 → Int64 → Int64 → Int32 → Option (MS)) (z : MS) (x1 : Int32) (x2 : Int64) (x6 : Int32) (s0 : Int32) (s1 : Int64) : Option (MS) :=
  (k8 z x1 x2 (s1 + (s0).toInt64) (x6 + (1 : Int32)))
def X9_note_J145 (k8 : MS → Int32 → Int64 → Int64 → Int32 → Option (MS)) (z : MS) (x1 : Int32) (x2 : Int64) (x6 : Int32) (s0 : Int64) : Option (MS) :=
  (X9_note_J146 k8 z x1 x2 x6 (0 : Int32) s0)
def X9_note_J81 (k8 : MS → Int32 → Int64 → Int64 → Int32 → Option (MS)) (z : MS) (x1 : Int32) (x2 : Int64) (x4 : Int64) (x6 : Int32) (x7 : Int32) (s0 : Int32) : Option (MS) :=
  (if s0 = 0 then (if x7 = 0 then (X9_note_J145 k8 z x1 x2 x6 (x4 * (80 : Int64))) else (chk x6 8 (if ((M_busyNow z) (x6).toNatClampNeg) = (3 : Int32) then (chk x6 8 (X9_note_J146 k8 z x1 x2 x6 ((M_withNow z) (x6).toNatClampNeg) (x4 * (80 : Int64)))) else (X9_note_J145 k8 z x1 x2 x6 (x4 * (80 : Int64)))))) else (chk x6 8 (chk x6 8 (X9_note_J146 k8 z x1 x2 x6 ((((1 : Int32) + (((M_withNow z) (x6).toNatClampNeg) * (9 : Int32))) + ((M_leftNow z) (x6).toNatClampNeg)) - (1 : Int32)) (x4 * (80 : Int64))))))
def X9_note_J80 (k8 : MS → Int32 → Int64 → Int64 → Int32 → Option (MS)) (z : MS) (x1 : Int32) (x2 : Int64) (x4 : Int64) (x6 : Int32) (x7 : Int32) : Option (MS) :=
  (X9_note_J81 k8 z x1 x2 x4 x6 x7 (0 : Int32))
def X9_note_J57 (k8 : MS → Int32 → Int64 → Int64 → Int32 → Option (MS)) (z : MS) (x1 : Int32) (x4 : Int64) (x6 : Int32) (x7 : Int32) (s0 : Int32) (s1 : Int64) : Option (MS) :=
  (if x7 = 0 then (X9_note_J80 k8 z x1 (s1 + (s0).toInt64) x4 x6 x7) else (chk x6 8 (if ((M_busyNow z) (x6).toNatClampNeg) = (1 : Int32) then (X9_note_J81 k8 z x1 (s1 + (s0).toInt64) x4 x6 x7 (1 : Int32)) else (X9_note_J80 k8 z x1 (s1 + (s0).toInt64) x4 x6 x7))))
def X9_note_B8 (k8 : MS → Int32 → Int64 → Int64 → Int32 → Option (MS)) (z : MS) (x1 : Int32) (x2 : Int64) (x4 : Int64) (x6 : Int32) : Option (MS) :=
  (if (8 : Int32) ≤ x6 then (chk ((2 : Int32) * x1) 200 (ltA (M_set_states z (vp_updL (M_states z) (((2 : Int32) * x1)).toNatClampNeg x2)) fun z164 => (chk (((2 : Int32) * x1) + (1 : Int32)) 200 (ltA (M_set_states z164 (vp_updL (M_states z164) ((((2 : Int32) * x1) + (1 : Int32))).toNatClampNeg x4)) fun z176 => (some (z176)))))) else ((f_X9_has (M_there z) x6).bind fun q21 => (if q21 = 0 then (X9_note_J57 k8 z x1 x4 x6 q21 (0 : Int32) (x2 * (32 : Int64))) else (chk x6 8 (chk x6 8 (X9_note_J57 k8 z x1 x4 x6 q21 ((((M_at z) (x6).toNatClampNeg) * (4 : Int32)) + ((M_busyNow z) (x6).toNatClampNeg)) (x2 * (32 : Int64))))))))
def f_X9_note (z : MS) (x1 : Int32) : Option (MS) :=
  (it X9_note_B8 (fun _ _ _ _ _ => none) FU z x1 (0 : Int64) (0 : Int64) (0 : Int32))
theorem kv_X9_note : KV RX9 yX9_note cX9_note 9 none 1 := ⟨mw_1146, mw_51, mw_65, mw_1147, by decide +kernel⟩
set_option maxHeartbeats 8000000 in
set_option maxRecDepth 100000 in
theorem c_X9_note {l : Launch} {E : va_G} {cy : Nat → ClassId} (A : Nat → Nat) (z : MS) (x1 : Int32) (q : MS) (hf : f_X9_note z x1 = some q) : Cv l yX9_note cX9_note 9 none 2 81 E cy [.ref (A 0), .int x1] (wM cy A z) (wM cy A q) := by
  refine Cv.of RX9 (by decide) rfl (Nat.le_of_ble_eq_true rfl) ?_
  intro K hK
  have hc := hK.cq
  have L8 : ∀ (n8 : Nat) (z : MS) (x1 : Int32) (x2 : Int64) (x4 : Int64) (x6 : Int32), it X9_note_B8 (fun _ _ _ _ _ => none) n8 z x1 x2 x4 x6 = some q → V K (wM cy A z) 8 [(0, .ref (A 0)), (1, .int x1), (2, .long x2), (4, .long x4), (6, .int x6)] [] := by
    intro n8
    induction n8 with
    | zero => intro z x1 x2 x4 x6 hf; exact (o_none hf).elim
    | succ n8 ih8 =>
      have J146 : ∀ (z : MS) (x1 : Int32) (x2 : Int64) (x6 : Int32) (s0 : Int32) (s1 : Int64), X9_note_J146 (it X9_note_B8 (fun _ _ _ _ _ => none) n8) z x1 x2 x6 s0 s1 = some q → V K (wM cy A z) 146 [(0, .ref (A 0)), (1, .int x1), (2, .long x2), (6, .int x6)] [.int s0, .long s1] := by
        intro z x1 x2 x6 s0 s1 hf
        unfold X9_note_J146 at hf
        refine r_i2l hc dX9_note_146 ?_
        refine r_ladd hc dX9_note_147 ?_
        refine r_lstore hc [(4, .long (s1 + (s0).toInt64)), (0, .ref (A 0)), (1, .int x1), (2, .long x2), (6, .int x6)] dX9_note_148 (by decide) rfl ?_
        refine r_iinc hc 4 [(6, .int (x6 + (1 : Int32))), (4, .long (s1 + (s0).toInt64)), (0, .ref (A 0)), (1, .int x1), (2, .long x2)] (x6 + (1 : Int32)) dX9_note_150 rfl rfl (by decide) rfl ?_
        refine r_goto hc 8 dX9_note_153 (by decide) ?_
        exact V.sub [2, 3, 4, 1, 0] rfl (ih8 z x1 x2 (s1 + (s0).toInt64) (x6 + (1 : Int32)) hf)
      have J145 : ∀ (z : MS) (x1 : Int32) (x2 : Int64) (x6 : Int32) (s0 : Int64), X9_note_J145 (it X9_note_B8 (fun _ _ _ _ _ => none) n8) z x1 x2 x6 s0 = some q → V K (wM cy A z) 145 [(0, .ref (A 0)), (1, .int x1), (2, .long x2), (6, .int x6)] [.long s0] := by
        intro z x1 x2 x6 s0 hf
        unfold X9_note_J145 at hf
        refine r_iconst hc (0 : Int32) dX9_note_145 rfl ?_
        exact V.sub [0, 1, 2, 3] rfl (J146 z x1 x2 x6 (0 : Int32) s0 hf)
      have J81 : ∀ (z : MS) (x1 : Int32) (x2 : Int64) (x4 : Int64) (x6 : Int32) (x7 : Int32) (s0 : Int32), X9_note_J81 (it X9_note_B8 (fun _ _ _ _ _ => none) n8) z x1 x2 x4 x6 x7 s0 = some q → V K (wM cy A z) 81 [(0, .ref (A 0)), (1, .int x1), (2, .long x2), (4, .long x4), (6, .int x6), (7, .int x7)] [.int s0] := by
        intro z x1 x2 x4 x6 x7 s0 hf
        unfold X9_note_J81 at hf
        refine r_istore hc [(8, .int s0), (0, .ref (A 0)), (1, .int x1), (2, .long x2), (4, .long x4), (6, .int x6), (7, .int x7)] dX9_note_81 (by decide) rfl ?_
        refine r_lload hc 4 dX9_note_83 rfl ?_
        refine r_ldc2 (v := (80 : Int64)) hc mw_1149 dX9_note_85 ?_
        refine r_lmul hc dX9_note_88 ?_
        refine r_iload hc 0 dX9_note_89 rfl ?_
        refine r_if_eq hc 119 dX9_note_91 (by decide) (fun c_10 => ?_) (fun c_10 => ?_)
        · have hf := o_pos c_10 hf
          refine r_iload hc 6 dX9_note_119 rfl ?_
          refine r_if_eq hc 145 dX9_note_121 (by decide) (fun c_11 => ?_) (fun c_11 => ?_)
          · have hf := o_pos c_11 hf
            exact V.sub [1, 2, 3, 5] rfl (J145 z x1 x2 x6 (x4 * (80 : Int64)) hf)
          · have hf := o_neg c_11 hf
            refine r_aload_n hc 1 dX9_note_124 rfl ?_
            refine r_get (v := .ref (A 13)) hc iw_X9 0 rfl rfl 16 (by decide) mw_876 rfl dX9_note_125 ?_
            refine r_iload hc 5 dX9_note_128 rfl ?_
            obtain ⟨i_12, hf⟩ := chk_some hf
            refine r_iald (f := (M_busyNow z)) hc 13 rfl i_12 dX9_note_130 ?_
            refine r_iconst hc (3 : Int32) dX9_note_131 rfl ?_
            refine r_icmp_ne hc 145 dX9_note_132 (by decide) (fun c_13 => ?_) (fun c_13 => ?_)
            · have hf := o_neg c_13 hf
              exact V.sub [1, 2, 3, 5] rfl (J145 z x1 x2 x6 (x4 * (80 : Int64)) hf)
            · have hf := o_pos c_13 hf
              refine r_aload_n hc 1 dX9_note_135 rfl ?_
              refine r_get (v := .ref (A 14)) hc iw_X9 0 rfl rfl 17 (by decide) mw_877 rfl dX9_note_136 ?_
              refine r_iload hc 5 dX9_note_139 rfl ?_
              obtain ⟨i_14, hf⟩ := chk_some hf
              refine r_iald (f := (M_withNow z)) hc 14 rfl i_14 dX9_note_141 ?_
              refine r_goto hc 146 dX9_note_142 (by decide) ?_
              exact V.sub [1, 2, 3, 5] rfl (J146 z x1 x2 x6 ((M_withNow z) (x6).toNatClampNeg) (x4 * (80 : Int64)) hf)
        · have hf := o_neg c_10 hf
          refine r_iconst hc (1 : Int32) dX9_note_94 rfl ?_
          refine r_aload_n hc 1 dX9_note_95 rfl ?_
          refine r_get (v := .ref (A 14)) hc iw_X9 0 rfl rfl 17 (by decide) mw_877 rfl dX9_note_96 ?_
          refine r_iload hc 5 dX9_note_99 rfl ?_
          obtain ⟨i_15, hf⟩ := chk_some hf
          refine r_iald (f := (M_withNow z)) hc 14 rfl i_15 dX9_note_101 ?_
          refine r_bipush hc (9 : Int32) dX9_note_102 rfl ?_
          refine r_imul hc dX9_note_104 ?_
          refine r_iadd hc dX9_note_105 ?_
          refine r_aload_n hc 1 dX9_note_106 rfl ?_
          refine r_get (v := .ref (A 15)) hc iw_X9 0 rfl rfl 18 (by decide) mw_878 rfl dX9_note_107 ?_
          refine r_iload hc 5 dX9_note_110 rfl ?_
          obtain ⟨i_16, hf⟩ := chk_some hf
          refine r_iald (f := (M_leftNow z)) hc 15 rfl i_16 dX9_note_112 ?_
          refine r_iadd hc dX9_note_113 ?_
          refine r_iconst hc (1 : Int32) dX9_note_114 rfl ?_
          refine r_isub hc dX9_note_115 ?_
          refine r_goto hc 146 dX9_note_116 (by decide) ?_
          exact V.sub [1, 2, 3, 5] rfl (J146 z x1 x2 x6 ((((1 : Int32) + (((M_withNow z) (x6).toNatClampNeg) * (9 : Int32))) + ((M_leftNow z) (x6).toNatClampNeg)) - (1 : Int32)) (x4 * (80 : Int64)) hf)
      have J80 : ∀ (z : MS) (x1 : Int32) (x2 : Int64) (x4 : Int64) (x6 : Int32) (x7 : Int32), X9_note_J80 (it X9_note_B8 (fun _ _ _ _ _ => none) n8) z x1 x2 x4 x6 x7 = some q → V K (wM cy A z) 80 [(0, .ref (A 0)), (1, .int x1), (2, .long x2), (4, .long x4), (6, .int x6), (7, .int x7)] [] := by
        intro z x1 x2 x4 x6 x7 hf
        unfold X9_note_J80 at hf
        refine r_iconst hc (0 : Int32) dX9_note_80 rfl ?_
        exact V.sub [0, 1, 2, 3, 4, 5] rfl (J81 z x1 x2 x4 x6 x7 (0 : Int32) hf)
      have J57 : ∀ (z : MS) (x1 : Int32) (x4 : Int64) (x6 : Int32) (x7 : Int32) (s0 : Int32) (s1 : Int64), X9_note_J57 (it X9_note_B8 (fun _ _ _ _ _ => none) n8) z x1 x4 x6 x7 s0 s1 = some q → V K (wM cy A z) 57 [(0, .ref (A 0)), (1, .int x1), (4, .long x4), (6, .int x6), (7, .int x7)] [.int s0, .long s1] := by
        intro z x1 x4 x6 x7 s0 s1 hf
        unfold X9_note_J57 at hf
        refine r_i2l hc dX9_note_57 ?_
        refine r_ladd hc dX9_note_58 ?_
        refine r_lstore_n hc [(2, .long (s1 + (s0).toInt64)), (0, .ref (A 0)), (1, .int x1), (4, .long x4), (6, .int x6), (7, .int x7)] dX9_note_59 (by decide) rfl ?_
        refine r_iload hc 5 dX9_note_60 rfl ?_
        refine r_if_eq hc 80 dX9_note_62 (by decide) (fun c_7 => ?_) (fun c_7 => ?_)
        · have hf := o_pos c_7 hf
          exact V.sub [1, 2, 0, 3, 4, 5] rfl (J80 z x1 (s1 + (s0).toInt64) x4 x6 x7 hf)
        · have hf := o_neg c_7 hf
          refine r_aload_n hc 1 dX9_note_65 rfl ?_
          refine r_get (v := .ref (A 13)) hc iw_X9 0 rfl rfl 16 (by decide) mw_876 rfl dX9_note_66 ?_
          refine r_iload hc 4 dX9_note_69 rfl ?_
          obtain ⟨i_8, hf⟩ := chk_some hf
          refine r_iald (f := (M_busyNow z)) hc 13 rfl i_8 dX9_note_71 ?_
          refine r_iconst hc (1 : Int32) dX9_note_72 rfl ?_
          refine r_icmp_ne hc 80 dX9_note_73 (by decide) (fun c_9 => ?_) (fun c_9 => ?_)
          · have hf := o_neg c_9 hf
            exact V.sub [1, 2, 0, 3, 4, 5] rfl (J80 z x1 (s1 + (s0).toInt64) x4 x6 x7 hf)
          · have hf := o_pos c_9 hf
            refine r_iconst hc (1 : Int32) dX9_note_76 rfl ?_
            refine r_goto hc 81 dX9_note_77 (by decide) ?_
            exact V.sub [1, 2, 0, 3, 4, 5] rfl (J81 z x1 (s1 + (s0).toInt64) x4 x6 x7 (1 : Int32) hf)
      intro z x1 x2 x4 x6 hf
      replace hf : X9_note_B8 (it X9_note_B8 (fun _ _ _ _ _ => none) n8) z x1 x2 x4 x6 = some q := hf
      unfold X9_note_B8 at hf
      refine r_iload hc 4 dX9_note_8 rfl ?_
      refine r_bipush hc (8 : Int32) dX9_note_10 rfl ?_
      refine r_icmp_ge hc 156 dX9_note_12 (by decide) (fun c_1 => ?_) (fun c_1 => ?_)
      · have hf := o_pos c_1 hf
        refine r_aload_n hc 0 dX9_note_156 rfl ?_
        refine r_get (v := .ref (A 18)) hc iw_X9 0 rfl rfl 24 (by decide) mw_884 rfl dX9_note_157 ?_
        refine r_iconst hc (2 : Int32) dX9_note_160 rfl ?_
        refine r_iload_n hc 1 dX9_note_161 rfl ?_
        refine r_imul hc dX9_note_162 ?_
        refine r_lload_n hc 2 dX9_note_163 rfl ?_
        obtain ⟨i_2, hf⟩ := chk_some hf
        obtain ⟨z164, ez164, hf⟩ := lt_some hf
        refine r_last (f := (M_states z)) hc 18 rfl i_2 dX9_note_164 _ rfl (wM cy A z164) (wM_s_states ez164) ?_
        refine r_aload_n hc 0 dX9_note_165 rfl ?_
        refine r_get (v := .ref (A 18)) hc iw_X9 0 rfl rfl 24 (by decide) mw_884 rfl dX9_note_166 ?_
        refine r_iconst hc (2 : Int32) dX9_note_169 rfl ?_
        refine r_iload_n hc 1 dX9_note_170 rfl ?_
        refine r_imul hc dX9_note_171 ?_
        refine r_iconst hc (1 : Int32) dX9_note_172 rfl ?_
        refine r_iadd hc dX9_note_173 ?_
        refine r_lload hc 3 dX9_note_174 rfl ?_
        obtain ⟨i_3, hf⟩ := chk_some hf
        obtain ⟨z176, ez176, hf⟩ := lt_some hf
        refine r_last (f := (M_states z164)) hc 18 rfl i_3 dX9_note_176 _ rfl (wM cy A z176) (wM_s_states ez176) ?_
        exact r_vret hK (congrArg (fun z9 => (wM cy A z9)) (Option.some.inj hf)) dX9_note_177
      · have hf := o_neg c_1 hf
        refine r_aload_n hc 0 dX9_note_15 rfl ?_
        refine r_get (v := .int (M_there z)) hc iw_X9 0 rfl rfl 5 (by decide) mw_865 rfl dX9_note_16 ?_
        refine r_iload hc 4 dX9_note_19 rfl ?_
        obtain ⟨q21, hq21, hf⟩ := o_bind hf
        refine r_callSi (ws' := (wM cy A z)) (As := [.int (M_there z), .int x6]) (rest := []) hc (c_X9_has  (M_there z) x6 q21 hq21) ks_X9_has mw_970 _ _ _ (Sp_none _) rfl rfl (Nat.le_of_ble_eq_true rfl) ⟨by decide, by decide⟩ dX9_note_21 ?_
        refine r_istore hc [(7, .int q21), (0, .ref (A 0)), (1, .int x1), (2, .long x2), (4, .long x4), (6, .int x6)] dX9_note_24 (by decide) rfl ?_
        refine r_lload_n hc 3 dX9_note_26 rfl ?_
        refine r_ldc2 (v := (32 : Int64)) hc mw_1148 dX9_note_27 ?_
        refine r_lmul hc dX9_note_30 ?_
        refine r_iload hc 0 dX9_note_31 rfl ?_
        refine r_if_eq hc 56 dX9_note_33 (by decide) (fun c_4 => ?_) (fun c_4 => ?_)
        · have hf := o_pos c_4 hf
          refine r_iconst hc (0 : Int32) dX9_note_56 rfl ?_
          exact V.sub [1, 2, 4, 5, 0] rfl (J57 z x1 x4 x6 q21 (0 : Int32) (x2 * (32 : Int64)) hf)
        · have hf := o_neg c_4 hf
          refine r_aload_n hc 1 dX9_note_36 rfl ?_
          refine r_get (v := .ref (A 12)) hc iw_X9 0 rfl rfl 15 (by decide) mw_875 rfl dX9_note_37 ?_
          refine r_iload hc 5 dX9_note_40 rfl ?_
          obtain ⟨i_5, hf⟩ := chk_some hf
          refine r_iald (f := (M_at z)) hc 12 rfl i_5 dX9_note_42 ?_
          refine r_iconst hc (4 : Int32) dX9_note_43 rfl ?_
          refine r_imul hc dX9_note_44 ?_
          refine r_aload_n hc 1 dX9_note_45 rfl ?_
          refine r_get (v := .ref (A 13)) hc iw_X9 0 rfl rfl 16 (by decide) mw_876 rfl dX9_note_46 ?_
          refine r_iload hc 5 dX9_note_49 rfl ?_
          obtain ⟨i_6, hf⟩ := chk_some hf
          refine r_iald (f := (M_busyNow z)) hc 13 rfl i_6 dX9_note_51 ?_
          refine r_iadd hc dX9_note_52 ?_
          refine r_goto hc 57 dX9_note_53 (by decide) ?_
          exact V.sub [1, 2, 4, 5, 0] rfl (J57 z x1 x4 x6 q21 ((((M_at z) (x6).toNatClampNeg) * (4 : Int32)) + ((M_busyNow z) (x6).toNatClampNeg)) (x2 * (32 : Int64)) hf)
  show V K (wM cy A z) 0 [(0, .ref (A 0)), (1, .int x1)] []
  unfold f_X9_note at hf
  refine r_lconst hc (0 : Int64) dX9_note_0 rfl ?_
  refine r_lstore_n hc [(2, .long (0 : Int64)), (0, .ref (A 0)), (1, .int x1)] dX9_note_1 (by decide) rfl ?_
  refine r_lconst hc (0 : Int64) dX9_note_2 rfl ?_
  refine r_lstore hc [(4, .long (0 : Int64)), (2, .long (0 : Int64)), (0, .ref (A 0)), (1, .int x1)] dX9_note_3 (by decide) rfl ?_
  refine r_iconst hc (0 : Int32) dX9_note_5 rfl ?_
  refine r_istore hc [(6, .int (0 : Int32)), (4, .long (0 : Int64)), (2, .long (0 : Int64)), (0, .ref (A 0)), (1, .int x1)] dX9_note_6 (by decide) rfl ?_
  exact V.sub [3, 4, 2, 1, 0] rfl (L8 FU z x1 (0 : Int64) (0 : Int64) (0 : Int32) hf)
def X9_round_J92 (k21 : MS → Int32 → Option (Int32 × MS)) (k39 : MS → Int32 → Int32 → Option (Int32 × MS)) (z : MS) (x1 : Int32) (x2 : Int32) : Option (Int32 × MS) :=
  (k39 z x1 (x2 + (1 : Int32)))
def X9_round_B39 (k21 : MS → Int32 → Option (Int32 × MS)) (k39 : MS → Int32 → Int32 → Option (Int32 × MS)) (z : MS) (x1 : Int32) (x2 : Int32) : Option (Int32 × MS) :=
  (if x1 ≤ x2 then (k21 z (x1 + (1 : Int32))) else (chk ((2 : Int32) * x2) 200 (chk ((2 : Int32) * x1) 200 (if (lg_cmp ((M_states z) (((2 : Int32) * x2)).toNatClampNeg) ((M_states z) (((2 : Int32) * x1)).toNatClampNeg)) = 0 then (chk (((2 : Int32) * x2) + (1 : Int32)) 200 (chk (((2 : Int32) * x1) + (1 : Int32)) 200 (if (lg_cmp ((M_states z) ((((2 : Int32) * x2) + (1 : Int32))).toNatClampNeg) ((M_states z) ((((2 : Int32) * x1) + (1 : Int32))).toNatClampNeg)) = 0 then (some ((x1 - x2), z)) else (X9_round_J92 k21 k39 z x1 x2)))) else (X9_round_J92 k21 k39 z x1 x2)))))
def X9_round_B21 (k21 : MS → Int32 → Option (Int32 × MS)) (z : MS) (x1 : Int32) : Option (Int32 × MS) :=
  (if (100 : Int32) ≤ x1 then (some ((-6 : Int32), z)) else ((f_X9_pass z).bind fun q28 => ((f_X9_note q28.2 x1).bind fun q34 => (it (X9_round_B39 k21) (fun _ _ _ => none) FU q34 x1 (0 : Int32)))))
def f_X9_round (z : MS) : Option (Int32 × MS) :=
  ((f_X9_stillAt z).bind fun q1 => (if q1.1 < 0 then ((f_X9_asNow q1.2).bind fun q11 => ((f_X9_note q11 (0 : Int32)).bind fun q16 => (it X9_round_B21 (fun _ _ => none) FU q16 (1 : Int32)))) else (some ((-6 : Int32), q1.2))))
theorem kv_X9_round : KV RX9 yX9_round cX9_round 3 (some .int) 0 := ⟨mw_1141, mw_1142, mw_65, mw_1143, by decide +kernel⟩
set_option maxHeartbeats 8000000 in
set_option maxRecDepth 100000 in
theorem c_X9_round {l : Launch} {E : va_G} {cy : Nat → ClassId} (A : Nat → Nat) (z : MS) (q : Int32 × MS) (hf : f_X9_round z = some q) : Ci l yX9_round cX9_round 3 (some .int) 7 206 E cy [.ref (A 0)] (wM cy A z) q.1 (wM cy A q.2) := by
  refine Ci.of RX9 (by decide) rfl (Nat.le_of_ble_eq_true rfl) ?_
  intro K hK
  have hc := hK.cq
  have L21 : ∀ (n21 : Nat) (z : MS) (x1 : Int32), it X9_round_B21 (fun _ _ => none) n21 z x1 = some q → V K (wM cy A z) 21 [(0, .ref (A 0)), (1, .int x1)] [] := by
    intro n21
    induction n21 with
    | zero => intro z x1 hf; exact (o_none hf).elim
    | succ n21 ih21 =>
      have L39 : ∀ (n39 : Nat) (z : MS) (x1 : Int32) (x2 : Int32), it (X9_round_B39 (it X9_round_B21 (fun _ _ => none) n21)) (fun _ _ _ => none) n39 z x1 x2 = some q → V K (wM cy A z) 39 [(0, .ref (A 0)), (1, .int x1), (2, .int x2)] [] := by
        intro n39
        induction n39 with
        | zero => intro z x1 x2 hf; exact (o_none hf).elim
        | succ n39 ih39 =>
          have J92 : ∀ (z : MS) (x1 : Int32) (x2 : Int32), X9_round_J92 (it X9_round_B21 (fun _ _ => none) n21) (it (X9_round_B39 (it X9_round_B21 (fun _ _ => none) n21)) (fun _ _ _ => none) n39) z x1 x2 = some q → V K (wM cy A z) 92 [(0, .ref (A 0)), (1, .int x1), (2, .int x2)] [] := by
            intro z x1 x2 hf
            unfold X9_round_J92 at hf
            refine r_iinc hc 2 [(2, .int (x2 + (1 : Int32))), (0, .ref (A 0)), (1, .int x1)] (x2 + (1 : Int32)) dX9_round_92 rfl rfl (by decide) rfl ?_
            refine r_goto hc 39 dX9_round_95 (by decide) ?_
            exact V.sub [1, 2, 0] rfl (ih39 z x1 (x2 + (1 : Int32)) hf)
          intro z x1 x2 hf
          replace hf : X9_round_B39 (it X9_round_B21 (fun _ _ => none) n21) (it (X9_round_B39 (it X9_round_B21 (fun _ _ => none) n21)) (fun _ _ _ => none) n39) z x1 x2 = some q := hf
          unfold X9_round_B39 at hf
          refine r_iload_n hc 2 dX9_round_39 rfl ?_
          refine r_iload_n hc 1 dX9_round_40 rfl ?_
          refine r_icmp_ge hc 98 dX9_round_41 (by decide) (fun c_3 => ?_) (fun c_3 => ?_)
          · have hf := o_pos c_3 hf
            refine r_iinc hc 1 [(1, .int (x1 + (1 : Int32))), (0, .ref (A 0)), (2, .int x2)] (x1 + (1 : Int32)) dX9_round_98 rfl rfl (by decide) rfl ?_
            refine r_goto hc 21 dX9_round_101 (by decide) ?_
            exact V.sub [1, 0] rfl (ih21 z (x1 + (1 : Int32)) hf)
          · have hf := o_neg c_3 hf
            refine r_aload_n hc 0 dX9_round_44 rfl ?_
            refine r_get (v := .ref (A 18)) hc iw_X9 0 rfl rfl 24 (by decide) mw_884 rfl dX9_round_45 ?_
            refine r_iconst hc (2 : Int32) dX9_round_48 rfl ?_
            refine r_iload_n hc 2 dX9_round_49 rfl ?_
            refine r_imul hc dX9_round_50 ?_
            obtain ⟨i_4, hf⟩ := chk_some hf
            refine r_lald (f := (M_states z)) hc 18 rfl i_4 dX9_round_51 ?_
            refine r_aload_n hc 0 dX9_round_52 rfl ?_
            refine r_get (v := .ref (A 18)) hc iw_X9 0 rfl rfl 24 (by decide) mw_884 rfl dX9_round_53 ?_
            refine r_iconst hc (2 : Int32) dX9_round_56 rfl ?_
            refine r_iload_n hc 1 dX9_round_57 rfl ?_
            refine r_imul hc dX9_round_58 ?_
            obtain ⟨i_5, hf⟩ := chk_some hf
            refine r_lald (f := (M_states z)) hc 18 rfl i_5 dX9_round_59 ?_
            refine r_lcmp hc dX9_round_60 ?_
            refine r_if_ne hc 92 dX9_round_61 (by decide) (fun c_6 => ?_) (fun c_6 => ?_)
            · have hf := o_neg c_6 hf
              exact V.sub [0, 1, 2] rfl (J92 z x1 x2 hf)
            · have hf := o_pos c_6 hf
              refine r_aload_n hc 0 dX9_round_64 rfl ?_
              refine r_get (v := .ref (A 18)) hc iw_X9 0 rfl rfl 24 (by decide) mw_884 rfl dX9_round_65 ?_
              refine r_iconst hc (2 : Int32) dX9_round_68 rfl ?_
              refine r_iload_n hc 2 dX9_round_69 rfl ?_
              refine r_imul hc dX9_round_70 ?_
              refine r_iconst hc (1 : Int32) dX9_round_71 rfl ?_
              refine r_iadd hc dX9_round_72 ?_
              obtain ⟨i_7, hf⟩ := chk_some hf
              refine r_lald (f := (M_states z)) hc 18 rfl i_7 dX9_round_73 ?_
              refine r_aload_n hc 0 dX9_round_74 rfl ?_
              refine r_get (v := .ref (A 18)) hc iw_X9 0 rfl rfl 24 (by decide) mw_884 rfl dX9_round_75 ?_
              refine r_iconst hc (2 : Int32) dX9_round_78 rfl ?_
              refine r_iload_n hc 1 dX9_round_79 rfl ?_
              refine r_imul hc dX9_round_80 ?_
              refine r_iconst hc (1 : Int32) dX9_round_81 rfl ?_
              refine r_iadd hc dX9_round_82 ?_
              obtain ⟨i_8, hf⟩ := chk_some hf
              refine r_lald (f := (M_states z)) hc 18 rfl i_8 dX9_round_83 ?_
              refine r_lcmp hc dX9_round_84 ?_
              refine r_if_ne hc 92 dX9_round_85 (by decide) (fun c_9 => ?_) (fun c_9 => ?_)
              · have hf := o_neg c_9 hf
                exact V.sub [0, 1, 2] rfl (J92 z x1 x2 hf)
              · have hf := o_pos c_9 hf
                refine r_iload_n hc 1 dX9_round_88 rfl ?_
                refine r_iload_n hc 2 dX9_round_89 rfl ?_
                refine r_isub hc dX9_round_90 ?_
                exact r_iret hK (congrArg (fun z9 => z9.1) (Option.some.inj hf)) (congrArg (fun z9 => (wM cy A z9.2)) (Option.some.inj hf)) dX9_round_91
      intro z x1 hf
      replace hf : X9_round_B21 (it X9_round_B21 (fun _ _ => none) n21) z x1 = some q := hf
      unfold X9_round_B21 at hf
      refine r_iload_n hc 1 dX9_round_21 rfl ?_
      refine r_bipush hc (100 : Int32) dX9_round_22 rfl ?_
      refine r_icmp_ge hc 104 dX9_round_24 (by decide) (fun c_2 => ?_) (fun c_2 => ?_)
      · have hf := o_pos c_2 hf
        refine r_bipush hc (-6 : Int32) dX9_round_104 rfl ?_
        exact r_iret hK (congrArg (fun z9 => z9.1) (Option.some.inj hf)) (congrArg (fun z9 => (wM cy A z9.2)) (Option.some.inj hf)) dX9_round_106
      · have hf := o_neg c_2 hf
        refine r_aload_n hc 0 dX9_round_27 rfl ?_
        obtain ⟨q28, hq28, hf⟩ := o_bind hf
        refine r_callVi (ws' := (wM cy A q28.2)) (As := []) (rest := []) hc (c_X9_pass A z q28 hq28) kv_X9_pass mw_1032 0 rfl rfl _ _ _ (Sp_all _ _) rfl rfl (Nat.le_of_ble_eq_true rfl) ⟨by decide, by decide⟩ dX9_round_28 ?_
        refine r_pop hc dX9_round_31 rfl ?_
        refine r_aload_n hc 0 dX9_round_32 rfl ?_
        refine r_iload_n hc 1 dX9_round_33 rfl ?_
        obtain ⟨q34, hq34, hf⟩ := o_bind hf
        refine r_callVv (ws' := (wM cy A q34)) (As := [.int x1]) (rest := []) hc (c_X9_note A q28.2 x1 q34 hq34) kv_X9_note mw_1144 0 rfl rfl _ _ _ (Sp_all _ _) rfl rfl (Nat.le_of_ble_eq_true rfl) ⟨by decide, by decide⟩ dX9_round_34 ?_
        refine r_iconst hc (0 : Int32) dX9_round_37 rfl ?_
        refine r_istore_n hc [(2, .int (0 : Int32)), (0, .ref (A 0)), (1, .int x1)] dX9_round_38 (by decide) rfl ?_
        exact V.sub [1, 2, 0] rfl (L39 FU q34 x1 (0 : Int32) hf)
  show V K (wM cy A z) 0 [(0, .ref (A 0))] []
  unfold f_X9_round at hf
  refine r_aload_n hc 0 dX9_round_0 rfl ?_
  obtain ⟨q1, hq1, hf⟩ := o_bind hf
  refine r_callVi (ws' := (wM cy A q1.2)) (As := []) (rest := []) hc (c_X9_stillAt A z q1 hq1) kv_X9_stillAt mw_1136 0 rfl rfl _ _ _ (Sp_all _ _) rfl rfl (Nat.le_of_ble_eq_true rfl) ⟨by decide, by decide⟩ dX9_round_1 ?_
  refine r_if_lt hc 10 dX9_round_4 (by decide) (fun c_1 => ?_) (fun c_1 => ?_)
  · have hf := o_pos c_1 hf
    refine r_aload_n hc 0 dX9_round_10 rfl ?_
    obtain ⟨q11, hq11, hf⟩ := o_bind hf
    refine r_callVv (ws' := (wM cy A q11)) (As := []) (rest := []) hc (c_X9_asNow A q1.2 q11 hq11) kv_X9_asNow mw_1028 0 rfl rfl _ _ _ (Sp_all _ _) rfl rfl (Nat.le_of_ble_eq_true rfl) ⟨by decide, by decide⟩ dX9_round_11 ?_
    refine r_aload_n hc 0 dX9_round_14 rfl ?_
    refine r_iconst hc (0 : Int32) dX9_round_15 rfl ?_
    obtain ⟨q16, hq16, hf⟩ := o_bind hf
    refine r_callVv (ws' := (wM cy A q16)) (As := [.int (0 : Int32)]) (rest := []) hc (c_X9_note A q11 (0 : Int32) q16 hq16) kv_X9_note mw_1144 0 rfl rfl _ _ _ (Sp_all _ _) rfl rfl (Nat.le_of_ble_eq_true rfl) ⟨by decide, by decide⟩ dX9_round_16 ?_
    refine r_iconst hc (1 : Int32) dX9_round_19 rfl ?_
    refine r_istore_n hc [(1, .int (1 : Int32)), (0, .ref (A 0))] dX9_round_20 (by decide) rfl ?_
    exact V.sub [1, 0] rfl (L21 FU q16 (1 : Int32) hf)
  · have hf := o_neg c_1 hf
    refine r_bipush hc (-6 : Int32) dX9_round_7 rfl ?_
    exact r_iret hK (congrArg (fun z9 => z9.1) (Option.some.inj hf)) (congrArg (fun z9 => (wM cy A z9.2)) (Option.some.inj hf)) dX9_round_9
def X9_fullest_J30 (k4 : MS → Int32 → Int32 → Option (Int32)) (z : MS) (x2 : Int32) (s0 : Int32) : Option (Int32) :=
  (k4 z s0 (x2 + (1 : Int32)))
def X9_fullest_B4 (k4 : MS → Int32 → Int32 → Option (Int32)) (z : MS) (x1 : Int32) (x2 : Int32) : Option (Int32) :=
  (if (M_rooms z) ≤ x2 then (some (x1)) else ((f_X9_countIn z x2 (-6 : Int32)).bind fun q16 => (if q16 ≤ x1 then (X9_fullest_J30 k4 z x2 x1) else (X9_fullest_J30 k4 z x2 q16))))
def f_X9_fullest (z : MS) : Option (Int32) :=
  (it X9_fullest_B4 (fun _ _ _ => none) FU z (0 : Int32) (0 : Int32))
theorem kv_X9_fullest : KV RX9 yX9_fullest cX9_fullest 4 (some .int) 0 := ⟨mw_1156, mw_52, mw_65, mw_1157, by decide +kernel⟩
set_option maxHeartbeats 8000000 in
set_option maxRecDepth 100000 in
theorem c_X9_fullest {l : Launch} {E : va_G} {cy : Nat → ClassId} (A : Nat → Nat) (z : MS) (q : Int32) (hf : f_X9_fullest z = some q) : Ci l yX9_fullest cX9_fullest 4 (some .int) 3 105 E cy [.ref (A 0)] (wM cy A z) q (wM cy A z) := by
  refine Ci.of RX9 (by decide) rfl (Nat.le_of_ble_eq_true rfl) ?_
  intro K hK
  have hc := hK.cq
  have L4 : ∀ (n4 : Nat) (x1 : Int32) (x2 : Int32), it X9_fullest_B4 (fun _ _ _ => none) n4 z x1 x2 = some q → V K (wM cy A z) 4 [(0, .ref (A 0)), (1, .int x1), (2, .int x2)] [] := by
    intro n4
    induction n4 with
    | zero => intro x1 x2 hf; exact (o_none hf).elim
    | succ n4 ih4 =>
      have J30 : ∀ (x2 : Int32) (s0 : Int32), X9_fullest_J30 (it X9_fullest_B4 (fun _ _ _ => none) n4) z x2 s0 = some q → V K (wM cy A z) 30 [(0, .ref (A 0)), (2, .int x2)] [.int s0] := by
        intro x2 s0 hf
        unfold X9_fullest_J30 at hf
        refine r_istore_n hc [(1, .int s0), (0, .ref (A 0)), (2, .int x2)] dX9_fullest_30 (by decide) rfl ?_
        refine r_iinc hc 2 [(2, .int (x2 + (1 : Int32))), (1, .int s0), (0, .ref (A 0))] (x2 + (1 : Int32)) dX9_fullest_31 rfl rfl (by decide) rfl ?_
        refine r_goto hc 4 dX9_fullest_34 (by decide) ?_
        exact V.sub [2, 1, 0] rfl (ih4 s0 (x2 + (1 : Int32)) hf)
      intro x1 x2 hf
      replace hf : X9_fullest_B4 (it X9_fullest_B4 (fun _ _ _ => none) n4) z x1 x2 = some q := hf
      unfold X9_fullest_B4 at hf
      refine r_iload_n hc 2 dX9_fullest_4 rfl ?_
      refine r_aload_n hc 0 dX9_fullest_5 rfl ?_
      refine r_get (v := .int (M_rooms z)) hc iw_X9 0 rfl rfl 0 (by decide) mw_860 rfl dX9_fullest_6 ?_
      refine r_icmp_ge hc 37 dX9_fullest_9 (by decide) (fun c_1 => ?_) (fun c_1 => ?_)
      · have hf := o_pos c_1 hf
        refine r_iload_n hc 1 dX9_fullest_37 rfl ?_
        exact r_iret hK (Option.some.inj hf) rfl dX9_fullest_38
      · have hf := o_neg c_1 hf
        refine r_aload_n hc 0 dX9_fullest_12 rfl ?_
        refine r_iload_n hc 2 dX9_fullest_13 rfl ?_
        refine r_bipush hc (-6 : Int32) dX9_fullest_14 rfl ?_
        obtain ⟨q16, hq16, hf⟩ := o_bind hf
        refine r_callVi (ws' := (wM cy A z)) (As := [.int x2, .int (-6 : Int32)]) (rest := []) hc (c_X9_countIn A z x2 (-6 : Int32) q16 hq16) kv_X9_countIn mw_1048 0 rfl rfl _ _ _ (Sp_all _ _) rfl rfl (Nat.le_of_ble_eq_true rfl) ⟨by decide, by decide⟩ dX9_fullest_16 ?_
        refine r_istore_n hc [(3, .int q16), (0, .ref (A 0)), (1, .int x1), (2, .int x2)] dX9_fullest_19 (by decide) rfl ?_
        refine r_iload_n hc 0 dX9_fullest_20 rfl ?_
        refine r_iload_n hc 2 dX9_fullest_21 rfl ?_
        refine r_icmp_le hc 29 dX9_fullest_22 (by decide) (fun c_2 => ?_) (fun c_2 => ?_)
        · have hf := o_pos c_2 hf
          refine r_iload_n hc 2 dX9_fullest_29 rfl ?_
          exact V.sub [1, 3] rfl (J30 x2 x1 hf)
        · have hf := o_neg c_2 hf
          refine r_iload_n hc 0 dX9_fullest_25 rfl ?_
          refine r_goto hc 30 dX9_fullest_26 (by decide) ?_
          exact V.sub [1, 3] rfl (J30 x2 q16 hf)
  show V K (wM cy A z) 0 [(0, .ref (A 0))] []
  unfold f_X9_fullest at hf
  refine r_iconst hc (0 : Int32) dX9_fullest_0 rfl ?_
  refine r_istore_n hc [(1, .int (0 : Int32)), (0, .ref (A 0))] dX9_fullest_1 (by decide) rfl ?_
  refine r_iconst hc (0 : Int32) dX9_fullest_2 rfl ?_
  refine r_istore_n hc [(2, .int (0 : Int32)), (1, .int (0 : Int32)), (0, .ref (A 0))] dX9_fullest_3 (by decide) rfl ?_
  exact V.sub [2, 1, 0] rfl (L4 FU (0 : Int32) (0 : Int32) hf)
def X9_throng_J49 (k21 : MS → Int32 → Int32 → Int32 → Option (Int32 × MS)) (z : MS) (x1 : Int32) (x3 : Int32) (s0 : Int32) : Option (Int32 × MS) :=
  (k21 z x1 s0 (x3 + (1 : Int32)))
def X9_throng_B21 (k21 : MS → Int32 → Int32 → Int32 → Option (Int32 × MS)) (z : MS) (x1 : Int32) (x2 : Int32) (x3 : Int32) : Option (Int32 × MS) :=
  (if x1 ≤ x3 then (some (x2, z)) else ((f_X9_pass z).bind fun q27 => ((f_X9_fullest q27.2).bind fun q32 => (if q32 ≤ x2 then (X9_throng_J49 k21 q27.2 x1 x3 x2) else (X9_throng_J49 k21 q27.2 x1 x3 q32)))))
def f_X9_throng (z : MS) (x1 : Int32) : Option (Int32 × MS) :=
  ((f_X9_in x1 (1 : Int32) (99 : Int32)).bind fun q4 => (if q4 = 0 then (some ((-2 : Int32), z)) else ((f_X9_asNow z).bind fun q14 => (it X9_throng_B21 (fun _ _ _ _ => none) FU q14 x1 (0 : Int32) (0 : Int32)))))
theorem kv_X9_throng : KV RX9 yX9_throng cX9_throng 5 (some .int) 1 := ⟨mw_1151, mw_1152, mw_65, mw_1153, by decide +kernel⟩
set_option maxHeartbeats 8000000 in
set_option maxRecDepth 100000 in
theorem c_X9_throng {l : Launch} {E : va_G} {cy : Nat → ClassId} (A : Nat → Nat) (z : MS) (x1 : Int32) (q : Int32 × MS) (hf : f_X9_throng z x1 = some q) : Ci l yX9_throng cX9_throng 5 (some .int) 6 183 E cy [.ref (A 0), .int x1] (wM cy A z) q.1 (wM cy A q.2) := by
  refine Ci.of RX9 (by decide) rfl (Nat.le_of_ble_eq_true rfl) ?_
  intro K hK
  have hc := hK.cq
  have L21 : ∀ (n21 : Nat) (z : MS) (x1 : Int32) (x2 : Int32) (x3 : Int32), it X9_throng_B21 (fun _ _ _ _ => none) n21 z x1 x2 x3 = some q → V K (wM cy A z) 21 [(0, .ref (A 0)), (1, .int x1), (2, .int x2), (3, .int x3)] [] := by
    intro n21
    induction n21 with
    | zero => intro z x1 x2 x3 hf; exact (o_none hf).elim
    | succ n21 ih21 =>
      have J49 : ∀ (z : MS) (x1 : Int32) (x3 : Int32) (s0 : Int32), X9_throng_J49 (it X9_throng_B21 (fun _ _ _ _ => none) n21) z x1 x3 s0 = some q → V K (wM cy A z) 49 [(0, .ref (A 0)), (1, .int x1), (3, .int x3)] [.int s0] := by
        intro z x1 x3 s0 hf
        unfold X9_throng_J49 at hf
        refine r_istore_n hc [(2, .int s0), (0, .ref (A 0)), (1, .int x1), (3, .int x3)] dX9_throng_49 (by decide) rfl ?_
        refine r_iinc hc 3 [(3, .int (x3 + (1 : Int32))), (2, .int s0), (0, .ref (A 0)), (1, .int x1)] (x3 + (1 : Int32)) dX9_throng_50 rfl rfl (by decide) rfl ?_
        refine r_goto hc 21 dX9_throng_53 (by decide) ?_
        exact V.sub [2, 3, 1, 0] rfl (ih21 z x1 s0 (x3 + (1 : Int32)) hf)
      intro z x1 x2 x3 hf
      replace hf : X9_throng_B21 (it X9_throng_B21 (fun _ _ _ _ => none) n21) z x1 x2 x3 = some q := hf
      unfold X9_throng_B21 at hf
      refine r_iload_n hc 3 dX9_throng_21 rfl ?_
      refine r_iload_n hc 1 dX9_throng_22 rfl ?_
      refine r_icmp_ge hc 56 dX9_throng_23 (by decide) (fun c_2 => ?_) (fun c_2 => ?_)
      · have hf := o_pos c_2 hf
        refine r_iload_n hc 2 dX9_throng_56 rfl ?_
        exact r_iret hK (congrArg (fun z9 => z9.1) (Option.some.inj hf)) (congrArg (fun z9 => (wM cy A z9.2)) (Option.some.inj hf)) dX9_throng_57
      · have hf := o_neg c_2 hf
        refine r_aload_n hc 0 dX9_throng_26 rfl ?_
        obtain ⟨q27, hq27, hf⟩ := o_bind hf
        refine r_callVi (ws' := (wM cy A q27.2)) (As := []) (rest := []) hc (c_X9_pass A z q27 hq27) kv_X9_pass mw_1032 0 rfl rfl _ _ _ (Sp_all _ _) rfl rfl (Nat.le_of_ble_eq_true rfl) ⟨by decide, by decide⟩ dX9_throng_27 ?_
        refine r_pop hc dX9_throng_30 rfl ?_
        refine r_aload_n hc 0 dX9_throng_31 rfl ?_
        obtain ⟨q32, hq32, hf⟩ := o_bind hf
        refine r_callVi (ws' := (wM cy A q27.2)) (As := []) (rest := []) hc (c_X9_fullest A q27.2 q32 hq32) kv_X9_fullest mw_1154 0 rfl rfl _ _ _ (Sp_all _ _) rfl rfl (Nat.le_of_ble_eq_true rfl) ⟨by decide, by decide⟩ dX9_throng_32 ?_
        refine r_istore hc [(4, .int q32), (0, .ref (A 0)), (1, .int x1), (2, .int x2), (3, .int x3)] dX9_throng_35 (by decide) rfl ?_
        refine r_iload hc 0 dX9_throng_37 rfl ?_
        refine r_iload_n hc 3 dX9_throng_39 rfl ?_
        refine r_icmp_le hc 48 dX9_throng_40 (by decide) (fun c_3 => ?_) (fun c_3 => ?_)
        · have hf := o_pos c_3 hf
          refine r_iload_n hc 3 dX9_throng_48 rfl ?_
          exact V.sub [1, 2, 4] rfl (J49 q27.2 x1 x3 x2 hf)
        · have hf := o_neg c_3 hf
          refine r_iload hc 0 dX9_throng_43 rfl ?_
          refine r_goto hc 49 dX9_throng_45 (by decide) ?_
          exact V.sub [1, 2, 4] rfl (J49 q27.2 x1 x3 q32 hf)
  show V K (wM cy A z) 0 [(0, .ref (A 0)), (1, .int x1)] []
  unfold f_X9_throng at hf
  refine r_iload_n hc 1 dX9_throng_0 rfl ?_
  refine r_iconst hc (1 : Int32) dX9_throng_1 rfl ?_
  refine r_bipush hc (99 : Int32) dX9_throng_2 rfl ?_
  obtain ⟨q4, hq4, hf⟩ := o_bind hf
  refine r_callSi (ws' := (wM cy A z)) (As := [.int x1, .int (1 : Int32), .int (99 : Int32)]) (rest := []) hc (c_X9_in  x1 (1 : Int32) (99 : Int32) q4 hq4) ks_X9_in mw_955 _ _ _ (Sp_none _) rfl rfl (Nat.le_of_ble_eq_true rfl) ⟨by decide, by decide⟩ dX9_throng_4 ?_
  refine r_if_ne hc 13 dX9_throng_7 (by decide) (fun c_1 => ?_) (fun c_1 => ?_)
  · have hf := o_neg c_1 hf
    refine r_aload_n hc 0 dX9_throng_13 rfl ?_
    obtain ⟨q14, hq14, hf⟩ := o_bind hf
    refine r_callVv (ws' := (wM cy A q14)) (As := []) (rest := []) hc (c_X9_asNow A z q14 hq14) kv_X9_asNow mw_1028 0 rfl rfl _ _ _ (Sp_all _ _) rfl rfl (Nat.le_of_ble_eq_true rfl) ⟨by decide, by decide⟩ dX9_throng_14 ?_
    refine r_iconst hc (0 : Int32) dX9_throng_17 rfl ?_
    refine r_istore_n hc [(2, .int (0 : Int32)), (0, .ref (A 0)), (1, .int x1)] dX9_throng_18 (by decide) rfl ?_
    refine r_iconst hc (0 : Int32) dX9_throng_19 rfl ?_
    refine r_istore_n hc [(3, .int (0 : Int32)), (2, .int (0 : Int32)), (0, .ref (A 0)), (1, .int x1)] dX9_throng_20 (by decide) rfl ?_
    exact V.sub [2, 3, 1, 0] rfl (L21 FU q14 x1 (0 : Int32) (0 : Int32) hf)
  · have hf := o_pos c_1 hf
    refine r_bipush hc (-2 : Int32) dX9_throng_10 rfl ?_
    exact r_iret hK (congrArg (fun z9 => z9.1) (Option.some.inj hf)) (congrArg (fun z9 => (wM cy A z9.2)) (Option.some.inj hf)) dX9_throng_12
def X9_carried_J170 (k42 : MS → Int32 → Int32 → Int32 → Int32 → Int32 → Option (Int32 × MS)) (z : MS) (x1 : Int32) (x2 : Int32) (x3 : Int32) (x4 : Int32) (x5 : Int32) : Option (Int32 × MS) :=
  (k42 z x1 x2 x3 x4 (x5 + (1 : Int32)))
def X9_carried_J169 (k42 : MS → Int32 → Int32 → Int32 → Int32 → Int32 → Option (Int32 × MS)) (z : MS) (x1 : Int32) (x2 : Int32) (x4 : Int32) (x5 : Int32) (s0 : Int32) : Option (Int32 × MS) :=
  (X9_carried_J170 k42 z x1 x2 s0 x4 x5)
def X9_carried_J155 (k42 : MS → Int32 → Int32 → Int32 → Int32 → Int32 → Option (Int32 × MS)) (z : MS) (x1 : Int32) (x2 : Int32) (x3 : Int32) (x5 : Int32) (x8 : Int32) (s0 : Int32) : Option (Int32 × MS) :=
  (if x3 ≤ x8 then (X9_carried_J169 k42 z x1 x2 s0 x5 x3) else (X9_carried_J169 k42 z x1 x2 s0 x5 x8))
def X9_carried_B42 (k42 : MS → Int32 → Int32 → Int32 → Int32 → Int32 → Option (Int32 × MS)) (z : MS) (x1 : Int32) (x2 : Int32) (x3 : Int32) (x4 : Int32) (x5 : Int32) : Option (Int32 × MS) :=
  (if (144 : Int32) ≤ x5 then (if x2 = 0 then (some (x3, z)) else (some (x4, z))) else ((f_X9_asNow z).bind fun q67 => (if (M_rooms q67) ≤ (x5 / (24 : Int32)) then (X9_carried_J170 k42 q67 x1 x2 x3 x4 x5) else (if (M_rooms q67) ≤ ((x5 / (4 : Int32)) - (x5 / (4 : Int32)) / (6 : Int32) * (6 : Int32)) then (X9_carried_J170 k42 q67 x1 x2 x3 x4 x5) else ((f_X9_whyNotCarry q67 (x5 / (24 : Int32)) ((x5 / (4 : Int32)) - (x5 / (4 : Int32)) / (6 : Int32) * (6 : Int32)) (x5 - x5 / (4 : Int32) * (4 : Int32))).bind fun q97 => (if q97 = 0 then ((f_X9_carry q67 (x5 / (24 : Int32)) ((x5 / (4 : Int32)) - (x5 / (4 : Int32)) / (6 : Int32) * (6 : Int32)) (x5 - x5 / (4 : Int32) * (4 : Int32))).bind fun q112 => ((f_X9_goMinutes q112 x1).bind fun q117 => ((f_X9_fullest q117).bind fun q121 => (if x3 ≤ q121 then (X9_carried_J155 k42 q117 x1 x2 x3 x5 q121 x4) else (X9_carried_J155 k42 q117 x1 x2 x3 x5 q121 ((((100 : Int32) * ((x5 / (24 : Int32)) + (1 : Int32))) + ((10 : Int32) * ((x5 / (4 : Int32)) - (x5 / (4 : Int32)) / (6 : Int32) * (6 : Int32)))) + (x5 - x5 / (4 : Int32) * (4 : Int32)))))))) else (X9_carried_J170 k42 q67 x1 x2 x3 x4 x5)))))))
def f_X9_carried (z : MS) (x1 : Int32) (x2 : Int32) : Option (Int32 × MS) :=
  ((f_X9_in x1 (0 : Int32) (20 : Int32)).bind fun q4 => (if q4 = 0 then (some ((-2 : Int32), z)) else ((f_X9_in x2 (0 : Int32) (1 : Int32)).bind fun q13 => (if q13 = 0 then (some ((-2 : Int32), z)) else ((f_X9_asNow z).bind fun q23 => ((f_X9_goMinutes q23 x1).bind fun q28 => ((f_X9_fullest q28).bind fun q32 => (it X9_carried_B42 (fun _ _ _ _ _ _ => none) FU q28 x1 x2 q32 (0 : Int32) (0 : Int32)))))))))
theorem kv_X9_carried : KV RX9 yX9_carried cX9_carried 9 (some .int) 2 := ⟨mw_1159, mw_1160, mw_65, mw_1161, by decide +kernel⟩
set_option maxHeartbeats 8000000 in
set_option maxRecDepth 100000 in
theorem c_X9_carried {l : Launch} {E : va_G} {cy : Nat → ClassId} (A : Nat → Nat) (z : MS) (x1 : Int32) (x2 : Int32) (q : Int32 × MS) (hf : f_X9_carried z x1 x2 = some q) : Ci l yX9_carried cX9_carried 9 (some .int) 7 205 E cy [.ref (A 0), .int x1, .int x2] (wM cy A z) q.1 (wM cy A q.2) := by
  refine Ci.of RX9 (by decide) rfl (Nat.le_of_ble_eq_true rfl) ?_
  intro K hK
  have hc := hK.cq
  have L42 : ∀ (n42 : Nat) (z : MS) (x1 : Int32) (x2 : Int32) (x3 : Int32) (x4 : Int32) (x5 : Int32), it X9_carried_B42 (fun _ _ _ _ _ _ => none) n42 z x1 x2 x3 x4 x5 = some q → V K (wM cy A z) 42 [(0, .ref (A 0)), (1, .int x1), (2, .int x2), (3, .int x3), (4, .int x4), (5, .int x5)] [] := by
    intro n42
    induction n42 with
    | zero => intro z x1 x2 x3 x4 x5 hf; exact (o_none hf).elim
    | succ n42 ih42 =>
      have J170 : ∀ (z : MS) (x1 : Int32) (x2 : Int32) (x3 : Int32) (x4 : Int32) (x5 : Int32), X9_carried_J170 (it X9_carried_B42 (fun _ _ _ _ _ _ => none) n42) z x1 x2 x3 x4 x5 = some q → V K (wM cy A z) 170 [(0, .ref (A 0)), (1, .int x1), (2, .int x2), (3, .int x3), (4, .int x4), (5, .int x5)] [] := by
        intro z x1 x2 x3 x4 x5 hf
        unfold X9_carried_J170 at hf
        refine r_iinc hc 5 [(5, .int (x5 + (1 : Int32))), (0, .ref (A 0)), (1, .int x1), (2, .int x2), (3, .int x3), (4, .int x4)] (x5 + (1 : Int32)) dX9_carried_170 rfl rfl (by decide) rfl ?_
        refine r_goto hc 42 dX9_carried_173 (by decide) ?_
        exact V.sub [1, 2, 3, 4, 5, 0] rfl (ih42 z x1 x2 x3 x4 (x5 + (1 : Int32)) hf)
      have J169 : ∀ (z : MS) (x1 : Int32) (x2 : Int32) (x4 : Int32) (x5 : Int32) (s0 : Int32), X9_carried_J169 (it X9_carried_B42 (fun _ _ _ _ _ _ => none) n42) z x1 x2 x4 x5 s0 = some q → V K (wM cy A z) 169 [(0, .ref (A 0)), (1, .int x1), (2, .int x2), (4, .int x4), (5, .int x5)] [.int s0] := by
        intro z x1 x2 x4 x5 s0 hf
        unfold X9_carried_J169 at hf
        refine r_istore_n hc [(3, .int s0), (0, .ref (A 0)), (1, .int x1), (2, .int x2), (4, .int x4), (5, .int x5)] dX9_carried_169 (by decide) rfl ?_
        exact V.sub [1, 2, 3, 0, 4, 5] rfl (J170 z x1 x2 s0 x4 x5 hf)
      have J155 : ∀ (z : MS) (x1 : Int32) (x2 : Int32) (x3 : Int32) (x5 : Int32) (x8 : Int32) (s0 : Int32), X9_carried_J155 (it X9_carried_B42 (fun _ _ _ _ _ _ => none) n42) z x1 x2 x3 x5 x8 s0 = some q → V K (wM cy A z) 155 [(0, .ref (A 0)), (1, .int x1), (2, .int x2), (3, .int x3), (5, .int x5), (8, .int x8)] [.int s0] := by
        intro z x1 x2 x3 x5 x8 s0 hf
        unfold X9_carried_J155 at hf
        refine r_istore hc [(4, .int s0), (0, .ref (A 0)), (1, .int x1), (2, .int x2), (3, .int x3), (5, .int x5), (8, .int x8)] dX9_carried_155 (by decide) rfl ?_
        refine r_iload hc 6 dX9_carried_157 rfl ?_
        refine r_iload_n hc 4 dX9_carried_159 rfl ?_
        refine r_icmp_ge hc 168 dX9_carried_160 (by decide) (fun c_9 => ?_) (fun c_9 => ?_)
        · have hf := o_pos c_9 hf
          refine r_iload_n hc 4 dX9_carried_168 rfl ?_
          exact V.sub [1, 2, 3, 0, 5] rfl (J169 z x1 x2 s0 x5 x3 hf)
        · have hf := o_neg c_9 hf
          refine r_iload hc 6 dX9_carried_163 rfl ?_
          refine r_goto hc 169 dX9_carried_165 (by decide) ?_
          exact V.sub [1, 2, 3, 0, 5] rfl (J169 z x1 x2 s0 x5 x8 hf)
      intro z x1 x2 x3 x4 x5 hf
      replace hf : X9_carried_B42 (it X9_carried_B42 (fun _ _ _ _ _ _ => none) n42) z x1 x2 x3 x4 x5 = some q := hf
      unfold X9_carried_B42 at hf
      refine r_iload hc 5 dX9_carried_42 rfl ?_
      refine r_sipush hc (144 : Int32) dX9_carried_44 rfl ?_
      refine r_icmp_ge hc 176 dX9_carried_47 (by decide) (fun c_3 => ?_) (fun c_3 => ?_)
      · have hf := o_pos c_3 hf
        refine r_iload_n hc 2 dX9_carried_176 rfl ?_
        refine r_if_ne hc 184 dX9_carried_177 (by decide) (fun c_4 => ?_) (fun c_4 => ?_)
        · have hf := o_neg c_4 hf
          refine r_iload hc 4 dX9_carried_184 rfl ?_
          exact r_iret hK (congrArg (fun z9 => z9.1) (Option.some.inj hf)) (congrArg (fun z9 => (wM cy A z9.2)) (Option.some.inj hf)) dX9_carried_186
        · have hf := o_pos c_4 hf
          refine r_iload_n hc 3 dX9_carried_180 rfl ?_
          refine r_goto hc 186 dX9_carried_181 (by decide) ?_
          exact r_iret hK (congrArg (fun z9 => z9.1) (Option.some.inj hf)) (congrArg (fun z9 => (wM cy A z9.2)) (Option.some.inj hf)) dX9_carried_186
      · have hf := o_neg c_3 hf
        refine r_iload hc 5 dX9_carried_50 rfl ?_
        refine r_bipush hc (24 : Int32) dX9_carried_52 rfl ?_
        refine r_idiv hc dX9_carried_54 (by decide) ?_
        refine r_istore hc [(6, .int (x5 / (24 : Int32))), (0, .ref (A 0)), (1, .int x1), (2, .int x2), (3, .int x3), (4, .int x4), (5, .int x5)] dX9_carried_55 (by decide) rfl ?_
        refine r_iload hc 6 dX9_carried_57 rfl ?_
        refine r_iconst hc (4 : Int32) dX9_carried_59 rfl ?_
        refine r_idiv hc dX9_carried_60 (by decide) ?_
        refine r_bipush hc (6 : Int32) dX9_carried_61 rfl ?_
        refine r_irem hc dX9_carried_63 (by decide) ?_
        refine r_istore hc [(7, .int ((x5 / (4 : Int32)) - (x5 / (4 : Int32)) / (6 : Int32) * (6 : Int32))), (6, .int (x5 / (24 : Int32))), (0, .ref (A 0)), (1, .int x1), (2, .int x2), (3, .int x3), (4, .int x4), (5, .int x5)] dX9_carried_64 (by decide) rfl ?_
        refine r_aload_n hc 2 dX9_carried_66 rfl ?_
        obtain ⟨q67, hq67, hf⟩ := o_bind hf
        refine r_callVv (ws' := (wM cy A q67)) (As := []) (rest := []) hc (c_X9_asNow A z q67 hq67) kv_X9_asNow mw_1028 0 rfl rfl _ _ _ (Sp_all _ _) rfl rfl (Nat.le_of_ble_eq_true rfl) ⟨by decide, by decide⟩ dX9_carried_67 ?_
        refine r_iload hc 1 dX9_carried_70 rfl ?_
        refine r_aload_n hc 2 dX9_carried_72 rfl ?_
        refine r_get (v := .int (M_rooms q67)) hc iw_X9 0 rfl rfl 0 (by decide) mw_860 rfl dX9_carried_73 ?_
        refine r_icmp_ge hc 170 dX9_carried_76 (by decide) (fun c_5 => ?_) (fun c_5 => ?_)
        · have hf := o_pos c_5 hf
          exact V.sub [2, 3, 4, 5, 6, 7] rfl (J170 q67 x1 x2 x3 x4 x5 hf)
        · have hf := o_neg c_5 hf
          refine r_iload hc 0 dX9_carried_79 rfl ?_
          refine r_aload_n hc 2 dX9_carried_81 rfl ?_
          refine r_get (v := .int (M_rooms q67)) hc iw_X9 0 rfl rfl 0 (by decide) mw_860 rfl dX9_carried_82 ?_
          refine r_icmp_ge hc 170 dX9_carried_85 (by decide) (fun c_6 => ?_) (fun c_6 => ?_)
          · have hf := o_pos c_6 hf
            exact V.sub [2, 3, 4, 5, 6, 7] rfl (J170 q67 x1 x2 x3 x4 x5 hf)
          · have hf := o_neg c_6 hf
            refine r_aload_n hc 2 dX9_carried_88 rfl ?_
            refine r_iload hc 1 dX9_carried_89 rfl ?_
            refine r_iload hc 0 dX9_carried_91 rfl ?_
            refine r_iload hc 7 dX9_carried_93 rfl ?_
            refine r_iconst hc (4 : Int32) dX9_carried_95 rfl ?_
            refine r_irem hc dX9_carried_96 (by decide) ?_
            obtain ⟨q97, hq97, hf⟩ := o_bind hf
            refine r_callVi (ws' := (wM cy A q67)) (As := [.int (x5 / (24 : Int32)), .int ((x5 / (4 : Int32)) - (x5 / (4 : Int32)) / (6 : Int32) * (6 : Int32)), .int (x5 - x5 / (4 : Int32) * (4 : Int32))]) (rest := []) hc (c_X9_whyNotCarry A q67 (x5 / (24 : Int32)) ((x5 / (4 : Int32)) - (x5 / (4 : Int32)) / (6 : Int32) * (6 : Int32)) (x5 - x5 / (4 : Int32) * (4 : Int32)) q97 hq97) kv_X9_whyNotCarry mw_1056 0 rfl rfl _ _ _ (Sp_all _ _) rfl rfl (Nat.le_of_ble_eq_true rfl) ⟨by decide, by decide⟩ dX9_carried_97 ?_
            refine r_if_ne hc 170 dX9_carried_100 (by decide) (fun c_7 => ?_) (fun c_7 => ?_)
            · have hf := o_neg c_7 hf
              exact V.sub [2, 3, 4, 5, 6, 7] rfl (J170 q67 x1 x2 x3 x4 x5 hf)
            · have hf := o_pos c_7 hf
              refine r_aload_n hc 2 dX9_carried_103 rfl ?_
              refine r_iload hc 1 dX9_carried_104 rfl ?_
              refine r_iload hc 0 dX9_carried_106 rfl ?_
              refine r_iload hc 7 dX9_carried_108 rfl ?_
              refine r_iconst hc (4 : Int32) dX9_carried_110 rfl ?_
              refine r_irem hc dX9_carried_111 (by decide) ?_
              obtain ⟨q112, hq112, hf⟩ := o_bind hf
              refine r_callVv (ws' := (wM cy A q112)) (As := [.int (x5 / (24 : Int32)), .int ((x5 / (4 : Int32)) - (x5 / (4 : Int32)) / (6 : Int32) * (6 : Int32)), .int (x5 - x5 / (4 : Int32) * (4 : Int32))]) (rest := []) hc (c_X9_carry A q67 (x5 / (24 : Int32)) ((x5 / (4 : Int32)) - (x5 / (4 : Int32)) / (6 : Int32) * (6 : Int32)) (x5 - x5 / (4 : Int32) * (4 : Int32)) q112 hq112) kv_X9_carry mw_1060 0 rfl rfl _ _ _ (Sp_all _ _) rfl rfl (Nat.le_of_ble_eq_true rfl) ⟨by decide, by decide⟩ dX9_carried_112 ?_
              refine r_aload_n hc 2 dX9_carried_115 rfl ?_
              refine r_iload_n hc 3 dX9_carried_116 rfl ?_
              obtain ⟨q117, hq117, hf⟩ := o_bind hf
              refine r_callVv (ws' := (wM cy A q117)) (As := [.int x1]) (rest := []) hc (c_X9_goMinutes A q112 x1 q117 hq117) kv_X9_goMinutes mw_1120 0 rfl rfl _ _ _ (Sp_all _ _) rfl rfl (Nat.le_of_ble_eq_true rfl) ⟨by decide, by decide⟩ dX9_carried_117 ?_
              refine r_aload_n hc 2 dX9_carried_120 rfl ?_
              obtain ⟨q121, hq121, hf⟩ := o_bind hf
              refine r_callVi (ws' := (wM cy A q117)) (As := []) (rest := []) hc (c_X9_fullest A q117 q121 hq121) kv_X9_fullest mw_1154 0 rfl rfl _ _ _ (Sp_all _ _) rfl rfl (Nat.le_of_ble_eq_true rfl) ⟨by decide, by decide⟩ dX9_carried_121 ?_
              refine r_istore hc [(8, .int q121), (7, .int ((x5 / (4 : Int32)) - (x5 / (4 : Int32)) / (6 : Int32) * (6 : Int32))), (6, .int (x5 / (24 : Int32))), (0, .ref (A 0)), (1, .int x1), (2, .int x2), (3, .int x3), (4, .int x4), (5, .int x5)] dX9_carried_124 (by decide) rfl ?_
              refine r_iload hc 0 dX9_carried_126 rfl ?_
              refine r_iload_n hc 6 dX9_carried_128 rfl ?_
              refine r_icmp_ge hc 153 dX9_carried_129 (by decide) (fun c_8 => ?_) (fun c_8 => ?_)
              · have hf := o_pos c_8 hf
                refine r_iload hc 7 dX9_carried_153 rfl ?_
                exact V.sub [3, 4, 5, 6, 8, 0] rfl (J155 q117 x1 x2 x3 x5 q121 x4 hf)
              · have hf := o_neg c_8 hf
                refine r_bipush hc (100 : Int32) dX9_carried_132 rfl ?_
                refine r_iload hc 2 dX9_carried_134 rfl ?_
                refine r_iconst hc (1 : Int32) dX9_carried_136 rfl ?_
                refine r_iadd hc dX9_carried_137 ?_
                refine r_imul hc dX9_carried_138 ?_
                refine r_bipush hc (10 : Int32) dX9_carried_139 rfl ?_
                refine r_iload hc 1 dX9_carried_141 rfl ?_
                refine r_imul hc dX9_carried_143 ?_
                refine r_iadd hc dX9_carried_144 ?_
                refine r_iload hc 8 dX9_carried_145 rfl ?_
                refine r_iconst hc (4 : Int32) dX9_carried_147 rfl ?_
                refine r_irem hc dX9_carried_148 (by decide) ?_
                refine r_iadd hc dX9_carried_149 ?_
                refine r_goto hc 155 dX9_carried_150 (by decide) ?_
                exact V.sub [3, 4, 5, 6, 8, 0] rfl (J155 q117 x1 x2 x3 x5 q121 ((((100 : Int32) * ((x5 / (24 : Int32)) + (1 : Int32))) + ((10 : Int32) * ((x5 / (4 : Int32)) - (x5 / (4 : Int32)) / (6 : Int32) * (6 : Int32)))) + (x5 - x5 / (4 : Int32) * (4 : Int32))) hf)
  show V K (wM cy A z) 0 [(0, .ref (A 0)), (1, .int x1), (2, .int x2)] []
  unfold f_X9_carried at hf
  refine r_iload_n hc 1 dX9_carried_0 rfl ?_
  refine r_iconst hc (0 : Int32) dX9_carried_1 rfl ?_
  refine r_bipush hc (20 : Int32) dX9_carried_2 rfl ?_
  obtain ⟨q4, hq4, hf⟩ := o_bind hf
  refine r_callSi (ws' := (wM cy A z)) (As := [.int x1, .int (0 : Int32), .int (20 : Int32)]) (rest := []) hc (c_X9_in  x1 (0 : Int32) (20 : Int32) q4 hq4) ks_X9_in mw_955 _ _ _ (Sp_none _) rfl rfl (Nat.le_of_ble_eq_true rfl) ⟨by decide, by decide⟩ dX9_carried_4 ?_
  refine r_if_eq hc 19 dX9_carried_7 (by decide) (fun c_1 => ?_) (fun c_1 => ?_)
  · have hf := o_pos c_1 hf
    refine r_bipush hc (-2 : Int32) dX9_carried_19 rfl ?_
    exact r_iret hK (congrArg (fun z9 => z9.1) (Option.some.inj hf)) (congrArg (fun z9 => (wM cy A z9.2)) (Option.some.inj hf)) dX9_carried_21
  · have hf := o_neg c_1 hf
    refine r_iload_n hc 2 dX9_carried_10 rfl ?_
    refine r_iconst hc (0 : Int32) dX9_carried_11 rfl ?_
    refine r_iconst hc (1 : Int32) dX9_carried_12 rfl ?_
    obtain ⟨q13, hq13, hf⟩ := o_bind hf
    refine r_callSi (ws' := (wM cy A z)) (As := [.int x2, .int (0 : Int32), .int (1 : Int32)]) (rest := []) hc (c_X9_in  x2 (0 : Int32) (1 : Int32) q13 hq13) ks_X9_in mw_955 _ _ _ (Sp_none _) rfl rfl (Nat.le_of_ble_eq_true rfl) ⟨by decide, by decide⟩ dX9_carried_13 ?_
    refine r_if_ne hc 22 dX9_carried_16 (by decide) (fun c_2 => ?_) (fun c_2 => ?_)
    · have hf := o_neg c_2 hf
      refine r_aload_n hc 0 dX9_carried_22 rfl ?_
      obtain ⟨q23, hq23, hf⟩ := o_bind hf
      refine r_callVv (ws' := (wM cy A q23)) (As := []) (rest := []) hc (c_X9_asNow A z q23 hq23) kv_X9_asNow mw_1028 0 rfl rfl _ _ _ (Sp_all _ _) rfl rfl (Nat.le_of_ble_eq_true rfl) ⟨by decide, by decide⟩ dX9_carried_23 ?_
      refine r_aload_n hc 0 dX9_carried_26 rfl ?_
      refine r_iload_n hc 1 dX9_carried_27 rfl ?_
      obtain ⟨q28, hq28, hf⟩ := o_bind hf
      refine r_callVv (ws' := (wM cy A q28)) (As := [.int x1]) (rest := []) hc (c_X9_goMinutes A q23 x1 q28 hq28) kv_X9_goMinutes mw_1120 0 rfl rfl _ _ _ (Sp_all _ _) rfl rfl (Nat.le_of_ble_eq_true rfl) ⟨by decide, by decide⟩ dX9_carried_28 ?_
      refine r_aload_n hc 0 dX9_carried_31 rfl ?_
      obtain ⟨q32, hq32, hf⟩ := o_bind hf
      refine r_callVi (ws' := (wM cy A q28)) (As := []) (rest := []) hc (c_X9_fullest A q28 q32 hq32) kv_X9_fullest mw_1154 0 rfl rfl _ _ _ (Sp_all _ _) rfl rfl (Nat.le_of_ble_eq_true rfl) ⟨by decide, by decide⟩ dX9_carried_32 ?_
      refine r_istore_n hc [(3, .int q32), (0, .ref (A 0)), (1, .int x1), (2, .int x2)] dX9_carried_35 (by decide) rfl ?_
      refine r_iconst hc (0 : Int32) dX9_carried_36 rfl ?_
      refine r_istore hc [(4, .int (0 : Int32)), (3, .int q32), (0, .ref (A 0)), (1, .int x1), (2, .int x2)] dX9_carried_37 (by decide) rfl ?_
      refine r_iconst hc (0 : Int32) dX9_carried_39 rfl ?_
      refine r_istore hc [(5, .int (0 : Int32)), (4, .int (0 : Int32)), (3, .int q32), (0, .ref (A 0)), (1, .int x1), (2, .int x2)] dX9_carried_40 (by decide) rfl ?_
      exact V.sub [3, 4, 5, 2, 1, 0] rfl (L42 FU q28 x1 x2 q32 (0 : Int32) (0 : Int32) hf)
    · have hf := o_pos c_2 hf
      refine r_bipush hc (-2 : Int32) dX9_carried_19 rfl ?_
      exact r_iret hK (congrArg (fun z9 => z9.1) (Option.some.inj hf)) (congrArg (fun z9 => (wM cy A z9.2)) (Option.some.inj hf)) dX9_carried_21
def X9_hinges_J144 (k43 : MS → Int32 → Int32 → Int32 → Int32 → Int32 → Option (Int32 × MS)) (k58 : MS → Int32 → Int32 → Int32 → Int32 → Int32 → Int32 → Option (Int32 × MS)) (z : MS) (x1 : Int32) (x2 : Int32) (x3 : Int32) (x4 : Int32) (x5 : Int32) (x6 : Int32) : Option (Int32 × MS) :=
  (k58 z x1 x2 x3 x4 x5 (x6 + (1 : Int32)))
def X9_hinges_J143 (k43 : MS → Int32 → Int32 → Int32 → Int32 → Int32 → Option (Int32 × MS)) (k58 : MS → Int32 → Int32 → Int32 → Int32 → Int32 → Int32 → Option (Int32 × MS)) (z : MS) (x1 : Int32) (x2 : Int32) (x4 : Int32) (x5 : Int32) (x6 : Int32) (s0 : Int32) : Option (Int32 × MS) :=
  (X9_hinges_J144 k43 k58 z x1 x2 s0 x4 x5 x6)
def X9_hinges_J129 (k43 : MS → Int32 → Int32 → Int32 → Int32 → Int32 → Option (Int32 × MS)) (k58 : MS → Int32 → Int32 → Int32 → Int32 → Int32 → Int32 → Option (Int32 × MS)) (z : MS) (x1 : Int32) (x2 : Int32) (x3 : Int32) (x5 : Int32) (x6 : Int32) (x7 : Int32) (s0 : Int32) : Option (Int32 × MS) :=
  (if x3 ≤ x7 then (X9_hinges_J143 k43 k58 z x1 x2 s0 x5 x6 x3) else (X9_hinges_J143 k43 k58 z x1 x2 s0 x5 x6 x7))
def X9_hinges_B58 (k43 : MS → Int32 → Int32 → Int32 → Int32 → Int32 → Option (Int32 × MS)) (k58 : MS → Int32 → Int32 → Int32 → Int32 → Int32 → Int32 → Option (Int32 × MS)) (z : MS) (x1 : Int32) (x2 : Int32) (x3 : Int32) (x4 : Int32) (x5 : Int32) (x6 : Int32) : Option (Int32 × MS) :=
  (if (M_rooms z) ≤ x6 then (k43 z x1 x2 x3 x4 (x5 + (1 : Int32))) else (chk (((6 : Int32) * x5) + x6) 36 (if ((M_width z) ((((6 : Int32) * x5) + x6)).toNatClampNeg) ≤ 0 then (X9_hinges_J144 k43 k58 z x1 x2 x3 x4 x5 x6) else ((f_X9_asNow z).bind fun q84 => (ltA (M_set_loose q84 (((6 : Int32) * x5) + x6)) fun z96 => ((f_X9_goMinutes z96 x1).bind fun q101 => ((f_X9_fullest q101).bind fun q105 => (if x3 ≤ q105 then (X9_hinges_J129 k43 k58 q101 x1 x2 x3 x5 x6 q105 x4) else (X9_hinges_J129 k43 k58 q101 x1 x2 x3 x5 x6 q105 (((10 : Int32) * x5) + x6))))))))))
def X9_hinges_B43 (k43 : MS → Int32 → Int32 → Int32 → Int32 → Int32 → Option (Int32 × MS)) (z : MS) (x1 : Int32) (x2 : Int32) (x3 : Int32) (x4 : Int32) (x5 : Int32) : Option (Int32 × MS) :=
  (if (M_rooms z) ≤ x5 then (if x2 = 0 then (some (x3, z)) else (some (x4, z))) else (it (X9_hinges_B58 k43) (fun _ _ _ _ _ _ _ => none) FU z x1 x2 x3 x4 x5 (x5 + (1 : Int32))))
def f_X9_hinges (z : MS) (x1 : Int32) (x2 : Int32) : Option (Int32 × MS) :=
  ((f_X9_in x1 (0 : Int32) (20 : Int32)).bind fun q4 => (if q4 = 0 then (some ((-2 : Int32), z)) else ((f_X9_in x2 (0 : Int32) (1 : Int32)).bind fun q13 => (if q13 = 0 then (some ((-2 : Int32), z)) else ((f_X9_asNow z).bind fun q23 => ((f_X9_goMinutes q23 x1).bind fun q28 => ((f_X9_fullest q28).bind fun q32 => (it X9_hinges_B43 (fun _ _ _ _ _ _ => none) FU q28 x1 x2 q32 (-6 : Int32) (0 : Int32)))))))))
theorem kv_X9_hinges : KV RX9 yX9_hinges cX9_hinges 8 (some .int) 2 := ⟨mw_1163, mw_1164, mw_65, mw_1165, by decide +kernel⟩
set_option maxHeartbeats 8000000 in
set_option maxRecDepth 100000 in
theorem c_X9_hinges {l : Launch} {E : va_G} {cy : Nat → ClassId} (A : Nat → Nat) (z : MS) (x1 : Int32) (x2 : Int32) (q : Int32 × MS) (hf : f_X9_hinges z x1 x2 = some q) : Ci l yX9_hinges cX9_hinges 8 (some .int) 7 205 E cy [.ref (A 0), .int x1, .int x2] (wM cy A z) q.1 (wM cy A q.2) := by
  refine Ci.of RX9 (by decide) rfl (Nat.le_of_ble_eq_true rfl) ?_
  intro K hK
  have hc := hK.cq
  have L43 : ∀ (n43 : Nat) (z : MS) (x1 : Int32) (x2 : Int32) (x3 : Int32) (x4 : Int32) (x5 : Int32), it X9_hinges_B43 (fun _ _ _ _ _ _ => none) n43 z x1 x2 x3 x4 x5 = some q → V K (wM cy A z) 43 [(0, .ref (A 0)), (1, .int x1), (2, .int x2), (3, .int x3), (4, .int x4), (5, .int x5)] [] := by
    intro n43
    induction n43 with
    | zero => intro z x1 x2 x3 x4 x5 hf; exact (o_none hf).elim
    | succ n43 ih43 =>
      have L58 : ∀ (n58 : Nat) (z : MS) (x1 : Int32) (x2 : Int32) (x3 : Int32) (x4 : Int32) (x5 : Int32) (x6 : Int32), it (X9_hinges_B58 (it X9_hinges_B43 (fun _ _ _ _ _ _ => none) n43)) (fun _ _ _ _ _ _ _ => none) n58 z x1 x2 x3 x4 x5 x6 = some q → V K (wM cy A z) 58 [(0, .ref (A 0)), (1, .int x1), (2, .int x2), (3, .int x3), (4, .int x4), (5, .int x5), (6, .int x6)] [] := by
        intro n58
        induction n58 with
        | zero => intro z x1 x2 x3 x4 x5 x6 hf; exact (o_none hf).elim
        | succ n58 ih58 =>
          have J144 : ∀ (z : MS) (x1 : Int32) (x2 : Int32) (x3 : Int32) (x4 : Int32) (x5 : Int32) (x6 : Int32), X9_hinges_J144 (it X9_hinges_B43 (fun _ _ _ _ _ _ => none) n43) (it (X9_hinges_B58 (it X9_hinges_B43 (fun _ _ _ _ _ _ => none) n43)) (fun _ _ _ _ _ _ _ => none) n58) z x1 x2 x3 x4 x5 x6 = some q → V K (wM cy A z) 144 [(0, .ref (A 0)), (1, .int x1), (2, .int x2), (3, .int x3), (4, .int x4), (5, .int x5), (6, .int x6)] [] := by
            intro z x1 x2 x3 x4 x5 x6 hf
            unfold X9_hinges_J144 at hf
            refine r_iinc hc 6 [(6, .int (x6 + (1 : Int32))), (0, .ref (A 0)), (1, .int x1), (2, .int x2), (3, .int x3), (4, .int x4), (5, .int x5)] (x6 + (1 : Int32)) dX9_hinges_144 rfl rfl (by decide) rfl ?_
            refine r_goto hc 58 dX9_hinges_147 (by decide) ?_
            exact V.sub [1, 2, 3, 4, 5, 6, 0] rfl (ih58 z x1 x2 x3 x4 x5 (x6 + (1 : Int32)) hf)
          have J143 : ∀ (z : MS) (x1 : Int32) (x2 : Int32) (x4 : Int32) (x5 : Int32) (x6 : Int32) (s0 : Int32), X9_hinges_J143 (it X9_hinges_B43 (fun _ _ _ _ _ _ => none) n43) (it (X9_hinges_B58 (it X9_hinges_B43 (fun _ _ _ _ _ _ => none) n43)) (fun _ _ _ _ _ _ _ => none) n58) z x1 x2 x4 x5 x6 s0 = some q → V K (wM cy A z) 143 [(0, .ref (A 0)), (1, .int x1), (2, .int x2), (4, .int x4), (5, .int x5), (6, .int x6)] [.int s0] := by
            intro z x1 x2 x4 x5 x6 s0 hf
            unfold X9_hinges_J143 at hf
            refine r_istore_n hc [(3, .int s0), (0, .ref (A 0)), (1, .int x1), (2, .int x2), (4, .int x4), (5, .int x5), (6, .int x6)] dX9_hinges_143 (by decide) rfl ?_
            exact V.sub [1, 2, 3, 0, 4, 5, 6] rfl (J144 z x1 x2 s0 x4 x5 x6 hf)
          have J129 : ∀ (z : MS) (x1 : Int32) (x2 : Int32) (x3 : Int32) (x5 : Int32) (x6 : Int32) (x7 : Int32) (s0 : Int32), X9_hinges_J129 (it X9_hinges_B43 (fun _ _ _ _ _ _ => none) n43) (it (X9_hinges_B58 (it X9_hinges_B43 (fun _ _ _ _ _ _ => none) n43)) (fun _ _ _ _ _ _ _ => none) n58) z x1 x2 x3 x5 x6 x7 s0 = some q → V K (wM cy A z) 129 [(0, .ref (A 0)), (1, .int x1), (2, .int x2), (3, .int x3), (5, .int x5), (6, .int x6), (7, .int x7)] [.int s0] := by
            intro z x1 x2 x3 x5 x6 x7 s0 hf
            unfold X9_hinges_J129 at hf
            refine r_istore hc [(4, .int s0), (0, .ref (A 0)), (1, .int x1), (2, .int x2), (3, .int x3), (5, .int x5), (6, .int x6), (7, .int x7)] dX9_hinges_129 (by decide) rfl ?_
            refine r_iload hc 7 dX9_hinges_131 rfl ?_
            refine r_iload_n hc 4 dX9_hinges_133 rfl ?_
            refine r_icmp_ge hc 142 dX9_hinges_134 (by decide) (fun c_9 => ?_) (fun c_9 => ?_)
            · have hf := o_pos c_9 hf
              refine r_iload_n hc 4 dX9_hinges_142 rfl ?_
              exact V.sub [1, 2, 3, 0, 5, 6] rfl (J143 z x1 x2 s0 x5 x6 x3 hf)
            · have hf := o_neg c_9 hf
              refine r_iload hc 7 dX9_hinges_137 rfl ?_
              refine r_goto hc 143 dX9_hinges_139 (by decide) ?_
              exact V.sub [1, 2, 3, 0, 5, 6] rfl (J143 z x1 x2 s0 x5 x6 x7 hf)
          intro z x1 x2 x3 x4 x5 x6 hf
          replace hf : X9_hinges_B58 (it X9_hinges_B43 (fun _ _ _ _ _ _ => none) n43) (it (X9_hinges_B58 (it X9_hinges_B43 (fun _ _ _ _ _ _ => none) n43)) (fun _ _ _ _ _ _ _ => none) n58) z x1 x2 x3 x4 x5 x6 = some q := hf
          unfold X9_hinges_B58 at hf
          refine r_iload hc 6 dX9_hinges_58 rfl ?_
          refine r_aload_n hc 0 dX9_hinges_60 rfl ?_
          refine r_get (v := .int (M_rooms z)) hc iw_X9 0 rfl rfl 0 (by decide) mw_860 rfl dX9_hinges_61 ?_
          refine r_icmp_ge hc 150 dX9_hinges_64 (by decide) (fun c_5 => ?_) (fun c_5 => ?_)
          · have hf := o_pos c_5 hf
            refine r_iinc hc 5 [(5, .int (x5 + (1 : Int32))), (0, .ref (A 0)), (1, .int x1), (2, .int x2), (3, .int x3), (4, .int x4), (6, .int x6)] (x5 + (1 : Int32)) dX9_hinges_150 rfl rfl (by decide) rfl ?_
            refine r_goto hc 43 dX9_hinges_153 (by decide) ?_
            exact V.sub [1, 2, 3, 4, 5, 0] rfl (ih43 z x1 x2 x3 x4 (x5 + (1 : Int32)) hf)
          · have hf := o_neg c_5 hf
            refine r_aload_n hc 0 dX9_hinges_67 rfl ?_
            refine r_get (v := .ref (A 4)) hc iw_X9 0 rfl rfl 4 (by decide) mw_864 rfl dX9_hinges_68 ?_
            refine r_bipush hc (6 : Int32) dX9_hinges_71 rfl ?_
            refine r_iload hc 5 dX9_hinges_73 rfl ?_
            refine r_imul hc dX9_hinges_75 ?_
            refine r_iload hc 6 dX9_hinges_76 rfl ?_
            refine r_iadd hc dX9_hinges_78 ?_
            obtain ⟨i_6, hf⟩ := chk_some hf
            refine r_iald (f := (M_width z)) hc 4 rfl i_6 dX9_hinges_79 ?_
            refine r_if_le hc 144 dX9_hinges_80 (by decide) (fun c_7 => ?_) (fun c_7 => ?_)
            · have hf := o_pos c_7 hf
              exact V.sub [0, 1, 2, 3, 4, 5, 6] rfl (J144 z x1 x2 x3 x4 x5 x6 hf)
            · have hf := o_neg c_7 hf
              refine r_aload_n hc 0 dX9_hinges_83 rfl ?_
              obtain ⟨q84, hq84, hf⟩ := o_bind hf
              refine r_callVv (ws' := (wM cy A q84)) (As := []) (rest := []) hc (c_X9_asNow A z q84 hq84) kv_X9_asNow mw_1028 0 rfl rfl _ _ _ (Sp_all _ _) rfl rfl (Nat.le_of_ble_eq_true rfl) ⟨by decide, by decide⟩ dX9_hinges_84 ?_
              refine r_aload_n hc 0 dX9_hinges_87 rfl ?_
              refine r_bipush hc (6 : Int32) dX9_hinges_88 rfl ?_
              refine r_iload hc 5 dX9_hinges_90 rfl ?_
              refine r_imul hc dX9_hinges_92 ?_
              refine r_iload hc 6 dX9_hinges_93 rfl ?_
              refine r_iadd hc dX9_hinges_95 ?_
              obtain ⟨z96, ez96, hf⟩ := lt_some hf
              refine r_put hc iw_X9 tyX9 tyX9_ok nmX9 0 rfl rfl 20 (by decide) mw_880 rfl rfl rfl (Nat.le_of_ble_eq_true rfl) dX9_hinges_96 (wM cy A z96) (wM_s_loose ez96) ?_
              refine r_aload_n hc 0 dX9_hinges_99 rfl ?_
              refine r_iload_n hc 1 dX9_hinges_100 rfl ?_
              obtain ⟨q101, hq101, hf⟩ := o_bind hf
              refine r_callVv (ws' := (wM cy A q101)) (As := [.int x1]) (rest := []) hc (c_X9_goMinutes A z96 x1 q101 hq101) kv_X9_goMinutes mw_1120 0 rfl rfl _ _ _ (Sp_all _ _) rfl rfl (Nat.le_of_ble_eq_true rfl) ⟨by decide, by decide⟩ dX9_hinges_101 ?_
              refine r_aload_n hc 0 dX9_hinges_104 rfl ?_
              obtain ⟨q105, hq105, hf⟩ := o_bind hf
              refine r_callVi (ws' := (wM cy A q101)) (As := []) (rest := []) hc (c_X9_fullest A q101 q105 hq105) kv_X9_fullest mw_1154 0 rfl rfl _ _ _ (Sp_all _ _) rfl rfl (Nat.le_of_ble_eq_true rfl) ⟨by decide, by decide⟩ dX9_hinges_105 ?_
              refine r_istore hc [(7, .int q105), (0, .ref (A 0)), (1, .int x1), (2, .int x2), (3, .int x3), (4, .int x4), (5, .int x5), (6, .int x6)] dX9_hinges_108 (by decide) rfl ?_
              refine r_iload hc 0 dX9_hinges_110 rfl ?_
              refine r_iload_n hc 4 dX9_hinges_112 rfl ?_
              refine r_icmp_ge hc 127 dX9_hinges_113 (by decide) (fun c_8 => ?_) (fun c_8 => ?_)
              · have hf := o_pos c_8 hf
                refine r_iload hc 5 dX9_hinges_127 rfl ?_
                exact V.sub [1, 2, 3, 4, 6, 7, 0] rfl (J129 q101 x1 x2 x3 x5 x6 q105 x4 hf)
              · have hf := o_neg c_8 hf
                refine r_bipush hc (10 : Int32) dX9_hinges_116 rfl ?_
                refine r_iload hc 6 dX9_hinges_118 rfl ?_
                refine r_imul hc dX9_hinges_120 ?_
                refine r_iload hc 7 dX9_hinges_121 rfl ?_
                refine r_iadd hc dX9_hinges_123 ?_
                refine r_goto hc 129 dX9_hinges_124 (by decide) ?_
                exact V.sub [1, 2, 3, 4, 6, 7, 0] rfl (J129 q101 x1 x2 x3 x5 x6 q105 (((10 : Int32) * x5) + x6) hf)
      intro z x1 x2 x3 x4 x5 hf
      replace hf : X9_hinges_B43 (it X9_hinges_B43 (fun _ _ _ _ _ _ => none) n43) z x1 x2 x3 x4 x5 = some q := hf
      unfold X9_hinges_B43 at hf
      refine r_iload hc 5 dX9_hinges_43 rfl ?_
      refine r_aload_n hc 0 dX9_hinges_45 rfl ?_
      refine r_get (v := .int (M_rooms z)) hc iw_X9 0 rfl rfl 0 (by decide) mw_860 rfl dX9_hinges_46 ?_
      refine r_icmp_ge hc 156 dX9_hinges_49 (by decide) (fun c_3 => ?_) (fun c_3 => ?_)
      · have hf := o_pos c_3 hf
        refine r_iload_n hc 2 dX9_hinges_156 rfl ?_
        refine r_if_ne hc 164 dX9_hinges_157 (by decide) (fun c_4 => ?_) (fun c_4 => ?_)
        · have hf := o_neg c_4 hf
          refine r_iload hc 4 dX9_hinges_164 rfl ?_
          exact r_iret hK (congrArg (fun z9 => z9.1) (Option.some.inj hf)) (congrArg (fun z9 => (wM cy A z9.2)) (Option.some.inj hf)) dX9_hinges_166
        · have hf := o_pos c_4 hf
          refine r_iload_n hc 3 dX9_hinges_160 rfl ?_
          refine r_goto hc 166 dX9_hinges_161 (by decide) ?_
          exact r_iret hK (congrArg (fun z9 => z9.1) (Option.some.inj hf)) (congrArg (fun z9 => (wM cy A z9.2)) (Option.some.inj hf)) dX9_hinges_166
      · have hf := o_neg c_3 hf
        refine r_iload hc 5 dX9_hinges_52 rfl ?_
        refine r_iconst hc (1 : Int32) dX9_hinges_54 rfl ?_
        refine r_iadd hc dX9_hinges_55 ?_
        refine r_istore hc [(6, .int (x5 + (1 : Int32))), (0, .ref (A 0)), (1, .int x1), (2, .int x2), (3, .int x3), (4, .int x4), (5, .int x5)] dX9_hinges_56 (by decide) rfl ?_
        exact V.sub [1, 2, 3, 4, 5, 6, 0] rfl (L58 FU z x1 x2 x3 x4 x5 (x5 + (1 : Int32)) hf)
  show V K (wM cy A z) 0 [(0, .ref (A 0)), (1, .int x1), (2, .int x2)] []
  unfold f_X9_hinges at hf
  refine r_iload_n hc 1 dX9_hinges_0 rfl ?_
  refine r_iconst hc (0 : Int32) dX9_hinges_1 rfl ?_
  refine r_bipush hc (20 : Int32) dX9_hinges_2 rfl ?_
  obtain ⟨q4, hq4, hf⟩ := o_bind hf
  refine r_callSi (ws' := (wM cy A z)) (As := [.int x1, .int (0 : Int32), .int (20 : Int32)]) (rest := []) hc (c_X9_in  x1 (0 : Int32) (20 : Int32) q4 hq4) ks_X9_in mw_955 _ _ _ (Sp_none _) rfl rfl (Nat.le_of_ble_eq_true rfl) ⟨by decide, by decide⟩ dX9_hinges_4 ?_
  refine r_if_eq hc 19 dX9_hinges_7 (by decide) (fun c_1 => ?_) (fun c_1 => ?_)
  · have hf := o_pos c_1 hf
    refine r_bipush hc (-2 : Int32) dX9_hinges_19 rfl ?_
    exact r_iret hK (congrArg (fun z9 => z9.1) (Option.some.inj hf)) (congrArg (fun z9 => (wM cy A z9.2)) (Option.some.inj hf)) dX9_hinges_21
  · have hf := o_neg c_1 hf
    refine r_iload_n hc 2 dX9_hinges_10 rfl ?_
    refine r_iconst hc (0 : Int32) dX9_hinges_11 rfl ?_
    refine r_iconst hc (1 : Int32) dX9_hinges_12 rfl ?_
    obtain ⟨q13, hq13, hf⟩ := o_bind hf
    refine r_callSi (ws' := (wM cy A z)) (As := [.int x2, .int (0 : Int32), .int (1 : Int32)]) (rest := []) hc (c_X9_in  x2 (0 : Int32) (1 : Int32) q13 hq13) ks_X9_in mw_955 _ _ _ (Sp_none _) rfl rfl (Nat.le_of_ble_eq_true rfl) ⟨by decide, by decide⟩ dX9_hinges_13 ?_
    refine r_if_ne hc 22 dX9_hinges_16 (by decide) (fun c_2 => ?_) (fun c_2 => ?_)
    · have hf := o_neg c_2 hf
      refine r_aload_n hc 0 dX9_hinges_22 rfl ?_
      obtain ⟨q23, hq23, hf⟩ := o_bind hf
      refine r_callVv (ws' := (wM cy A q23)) (As := []) (rest := []) hc (c_X9_asNow A z q23 hq23) kv_X9_asNow mw_1028 0 rfl rfl _ _ _ (Sp_all _ _) rfl rfl (Nat.le_of_ble_eq_true rfl) ⟨by decide, by decide⟩ dX9_hinges_23 ?_
      refine r_aload_n hc 0 dX9_hinges_26 rfl ?_
      refine r_iload_n hc 1 dX9_hinges_27 rfl ?_
      obtain ⟨q28, hq28, hf⟩ := o_bind hf
      refine r_callVv (ws' := (wM cy A q28)) (As := [.int x1]) (rest := []) hc (c_X9_goMinutes A q23 x1 q28 hq28) kv_X9_goMinutes mw_1120 0 rfl rfl _ _ _ (Sp_all _ _) rfl rfl (Nat.le_of_ble_eq_true rfl) ⟨by decide, by decide⟩ dX9_hinges_28 ?_
      refine r_aload_n hc 0 dX9_hinges_31 rfl ?_
      obtain ⟨q32, hq32, hf⟩ := o_bind hf
      refine r_callVi (ws' := (wM cy A q28)) (As := []) (rest := []) hc (c_X9_fullest A q28 q32 hq32) kv_X9_fullest mw_1154 0 rfl rfl _ _ _ (Sp_all _ _) rfl rfl (Nat.le_of_ble_eq_true rfl) ⟨by decide, by decide⟩ dX9_hinges_32 ?_
      refine r_istore_n hc [(3, .int q32), (0, .ref (A 0)), (1, .int x1), (2, .int x2)] dX9_hinges_35 (by decide) rfl ?_
      refine r_bipush hc (-6 : Int32) dX9_hinges_36 rfl ?_
      refine r_istore hc [(4, .int (-6 : Int32)), (3, .int q32), (0, .ref (A 0)), (1, .int x1), (2, .int x2)] dX9_hinges_38 (by decide) rfl ?_
      refine r_iconst hc (0 : Int32) dX9_hinges_40 rfl ?_
      refine r_istore hc [(5, .int (0 : Int32)), (4, .int (-6 : Int32)), (3, .int q32), (0, .ref (A 0)), (1, .int x1), (2, .int x2)] dX9_hinges_41 (by decide) rfl ?_
      exact V.sub [3, 4, 5, 2, 1, 0] rfl (L43 FU q28 x1 x2 q32 (-6 : Int32) (0 : Int32) hf)
    · have hf := o_pos c_2 hf
      refine r_bipush hc (-2 : Int32) dX9_hinges_19 rfl ?_
      exact r_iret hK (congrArg (fun z9 => z9.1) (Option.some.inj hf)) (congrArg (fun z9 => (wM cy A z9.2)) (Option.some.inj hf)) dX9_hinges_21
def X9_best_J67 (k34 : MS → Int32 → Int32 → Int32 → Int32 → Option (Int32 × MS)) (z : MS) (x1 : Int32) (x2 : Int32) (x3 : Int32) (x4 : Int32) : Option (Int32 × MS) :=
  (k34 z x1 x2 x3 (x4 + (1 : Int32)))
def X9_best_B34 (k34 : MS → Int32 → Int32 → Int32 → Int32 → Option (Int32 × MS)) (z : MS) (x1 : Int32) (x2 : Int32) (x3 : Int32) (x4 : Int32) : Option (Int32 × MS) :=
  (if (M_rooms z) ≤ x4 then (some (x2, z)) else ((f_X9_drawOf z x1 x4 (-6 : Int32) (0 : Int32)).bind fun q50 => (if q50 ≤ x3 then (X9_best_J67 k34 z x1 x2 x3 x4) else (X9_best_J67 k34 z x1 x4 q50 x4))))
def f_X9_best (z : MS) (x1 : Int32) : Option (Int32 × MS) :=
  ((f_X9_isThere z x1).bind fun q2 => (if q2 = 0 then (some ((-1 : Int32), z)) else ((f_X9_asNow z).bind fun q11 => (chk x1 8 ((f_X9_drawOf q11 x1 ((M_at q11) (x1).toNatClampNeg) (-6 : Int32) (0 : Int32)).bind fun q27 => (it X9_best_B34 (fun _ _ _ _ _ => none) FU q11 x1 ((M_at q11) (x1).toNatClampNeg) q27 (0 : Int32)))))))
theorem kv_X9_best : KV RX9 yX9_best cX9_best 6 (some .int) 1 := ⟨mw_1167, mw_1168, mw_65, mw_1169, by decide +kernel⟩
set_option maxHeartbeats 8000000 in
set_option maxRecDepth 100000 in
theorem c_X9_best {l : Launch} {E : va_G} {cy : Nat → ClassId} (A : Nat → Nat) (z : MS) (x1 : Int32) (q : Int32 × MS) (hf : f_X9_best z x1 = some q) : Ci l yX9_best cX9_best 6 (some .int) 4 131 E cy [.ref (A 0), .int x1] (wM cy A z) q.1 (wM cy A q.2) := by
  refine Ci.of RX9 (by decide) rfl (Nat.le_of_ble_eq_true rfl) ?_
  intro K hK
  have hc := hK.cq
  have L34 : ∀ (n34 : Nat) (z : MS) (x1 : Int32) (x2 : Int32) (x3 : Int32) (x4 : Int32), it X9_best_B34 (fun _ _ _ _ _ => none) n34 z x1 x2 x3 x4 = some q → V K (wM cy A z) 34 [(0, .ref (A 0)), (1, .int x1), (2, .int x2), (3, .int x3), (4, .int x4)] [] := by
    intro n34
    induction n34 with
    | zero => intro z x1 x2 x3 x4 hf; exact (o_none hf).elim
    | succ n34 ih34 =>
      have J67 : ∀ (z : MS) (x1 : Int32) (x2 : Int32) (x3 : Int32) (x4 : Int32), X9_best_J67 (it X9_best_B34 (fun _ _ _ _ _ => none) n34) z x1 x2 x3 x4 = some q → V K (wM cy A z) 67 [(0, .ref (A 0)), (1, .int x1), (2, .int x2), (3, .int x3), (4, .int x4)] [] := by
        intro z x1 x2 x3 x4 hf
        unfold X9_best_J67 at hf
        refine r_iinc hc 4 [(4, .int (x4 + (1 : Int32))), (0, .ref (A 0)), (1, .int x1), (2, .int x2), (3, .int x3)] (x4 + (1 : Int32)) dX9_best_67 rfl rfl (by decide) rfl ?_
        refine r_goto hc 34 dX9_best_70 (by decide) ?_
        exact V.sub [1, 2, 3, 4, 0] rfl (ih34 z x1 x2 x3 (x4 + (1 : Int32)) hf)
      intro z x1 x2 x3 x4 hf
      replace hf : X9_best_B34 (it X9_best_B34 (fun _ _ _ _ _ => none) n34) z x1 x2 x3 x4 = some q := hf
      unfold X9_best_B34 at hf
      refine r_iload hc 4 dX9_best_34 rfl ?_
      refine r_aload_n hc 0 dX9_best_36 rfl ?_
      refine r_get (v := .int (M_rooms z)) hc iw_X9 0 rfl rfl 0 (by decide) mw_860 rfl dX9_best_37 ?_
      refine r_icmp_ge hc 73 dX9_best_40 (by decide) (fun c_3 => ?_) (fun c_3 => ?_)
      · have hf := o_pos c_3 hf
        refine r_iload_n hc 2 dX9_best_73 rfl ?_
        exact r_iret hK (congrArg (fun z9 => z9.1) (Option.some.inj hf)) (congrArg (fun z9 => (wM cy A z9.2)) (Option.some.inj hf)) dX9_best_74
      · have hf := o_neg c_3 hf
        refine r_aload_n hc 0 dX9_best_43 rfl ?_
        refine r_iload_n hc 1 dX9_best_44 rfl ?_
        refine r_iload hc 4 dX9_best_45 rfl ?_
        refine r_bipush hc (-6 : Int32) dX9_best_47 rfl ?_
        refine r_iconst hc (0 : Int32) dX9_best_49 rfl ?_
        obtain ⟨q50, hq50, hf⟩ := o_bind hf
        refine r_callVi (ws' := (wM cy A z)) (As := [.int x1, .int x4, .int (-6 : Int32), .int (0 : Int32)]) (rest := []) hc (c_X9_drawOf A z x1 x4 (-6 : Int32) (0 : Int32) q50 hq50) kv_X9_drawOf mw_1044 0 rfl rfl _ _ _ (Sp_all _ _) rfl rfl (Nat.le_of_ble_eq_true rfl) ⟨by decide, by decide⟩ dX9_best_50 ?_
        refine r_istore hc [(5, .int q50), (0, .ref (A 0)), (1, .int x1), (2, .int x2), (3, .int x3), (4, .int x4)] dX9_best_53 (by decide) rfl ?_
        refine r_iload hc 0 dX9_best_55 rfl ?_
        refine r_iload_n hc 4 dX9_best_57 rfl ?_
        refine r_icmp_le hc 67 dX9_best_58 (by decide) (fun c_4 => ?_) (fun c_4 => ?_)
        · have hf := o_pos c_4 hf
          exact V.sub [1, 2, 3, 4, 5] rfl (J67 z x1 x2 x3 x4 hf)
        · have hf := o_neg c_4 hf
          refine r_iload hc 5 dX9_best_61 rfl ?_
          refine r_istore_n hc [(2, .int x4), (5, .int q50), (0, .ref (A 0)), (1, .int x1), (3, .int x3), (4, .int x4)] dX9_best_63 (by decide) rfl ?_
          refine r_iload hc 1 dX9_best_64 rfl ?_
          refine r_istore_n hc [(3, .int q50), (2, .int x4), (5, .int q50), (0, .ref (A 0)), (1, .int x1), (4, .int x4)] dX9_best_66 (by decide) rfl ?_
          exact V.sub [3, 4, 1, 0, 5] rfl (J67 z x1 x4 q50 x4 hf)
  show V K (wM cy A z) 0 [(0, .ref (A 0)), (1, .int x1)] []
  unfold f_X9_best at hf
  refine r_aload_n hc 0 dX9_best_0 rfl ?_
  refine r_iload_n hc 1 dX9_best_1 rfl ?_
  obtain ⟨q2, hq2, hf⟩ := o_bind hf
  refine r_callVi (ws' := (wM cy A z)) (As := [.int x1]) (rest := []) hc (c_X9_isThere A z x1 q2 hq2) kv_X9_isThere mw_996 0 rfl rfl _ _ _ (Sp_all _ _) rfl rfl (Nat.le_of_ble_eq_true rfl) ⟨by decide, by decide⟩ dX9_best_2 ?_
  refine r_if_ne hc 10 dX9_best_5 (by decide) (fun c_1 => ?_) (fun c_1 => ?_)
  · have hf := o_neg c_1 hf
    refine r_aload_n hc 0 dX9_best_10 rfl ?_
    obtain ⟨q11, hq11, hf⟩ := o_bind hf
    refine r_callVv (ws' := (wM cy A q11)) (As := []) (rest := []) hc (c_X9_asNow A z q11 hq11) kv_X9_asNow mw_1028 0 rfl rfl _ _ _ (Sp_all _ _) rfl rfl (Nat.le_of_ble_eq_true rfl) ⟨by decide, by decide⟩ dX9_best_11 ?_
    refine r_aload_n hc 0 dX9_best_14 rfl ?_
    refine r_get (v := .ref (A 12)) hc iw_X9 0 rfl rfl 15 (by decide) mw_875 rfl dX9_best_15 ?_
    refine r_iload_n hc 1 dX9_best_18 rfl ?_
    obtain ⟨i_2, hf⟩ := chk_some hf
    refine r_iald (f := (M_at q11)) hc 12 rfl i_2 dX9_best_19 ?_
    refine r_istore_n hc [(2, .int ((M_at q11) (x1).toNatClampNeg)), (0, .ref (A 0)), (1, .int x1)] dX9_best_20 (by decide) rfl ?_
    refine r_aload_n hc 1 dX9_best_21 rfl ?_
    refine r_iload_n hc 2 dX9_best_22 rfl ?_
    refine r_iload_n hc 0 dX9_best_23 rfl ?_
    refine r_bipush hc (-6 : Int32) dX9_best_24 rfl ?_
    refine r_iconst hc (0 : Int32) dX9_best_26 rfl ?_
    obtain ⟨q27, hq27, hf⟩ := o_bind hf
    refine r_callVi (ws' := (wM cy A q11)) (As := [.int x1, .int ((M_at q11) (x1).toNatClampNeg), .int (-6 : Int32), .int (0 : Int32)]) (rest := []) hc (c_X9_drawOf A q11 x1 ((M_at q11) (x1).toNatClampNeg) (-6 : Int32) (0 : Int32) q27 hq27) kv_X9_drawOf mw_1044 0 rfl rfl _ _ _ (Sp_all _ _) rfl rfl (Nat.le_of_ble_eq_true rfl) ⟨by decide, by decide⟩ dX9_best_27 ?_
    refine r_istore_n hc [(3, .int q27), (2, .int ((M_at q11) (x1).toNatClampNeg)), (0, .ref (A 0)), (1, .int x1)] dX9_best_30 (by decide) rfl ?_
    refine r_iconst hc (0 : Int32) dX9_best_31 rfl ?_
    refine r_istore hc [(4, .int (0 : Int32)), (3, .int q27), (2, .int ((M_at q11) (x1).toNatClampNeg)), (0, .ref (A 0)), (1, .int x1)] dX9_best_32 (by decide) rfl ?_
    exact V.sub [3, 4, 2, 1, 0] rfl (L34 FU q11 x1 ((M_at q11) (x1).toNatClampNeg) q27 (0 : Int32) hf)
  · have hf := o_pos c_1 hf
    refine r_iconst hc (-1 : Int32) dX9_best_8 rfl ?_
    exact r_iret hK (congrArg (fun z9 => z9.1) (Option.some.inj hf)) (congrArg (fun z9 => (wM cy A z9.2)) (Option.some.inj hf)) dX9_best_9
def X9_areAtRest_J141 (k36 : MS → Int32 → Int32 → Option (Int32)) (z : MS) (x1 : Int32) (x2 : Int32) : Option (Int32) :=
  (k36 z x1 (x2 + (1 : Int32)))
def X9_areAtRest_J135 (k36 : MS → Int32 → Int32 → Option (Int32)) (k73 : MS → Int32 → Int32 → Int32 → Int32 → Option (Int32)) (z : MS) (x1 : Int32) (x2 : Int32) (x3 : Int32) (x4 : Int32) : Option (Int32) :=
  (k73 z x1 x2 x3 (x4 + (1 : Int32)))
def X9_areAtRest_B73 (k36 : MS → Int32 → Int32 → Option (Int32)) (k73 : MS → Int32 → Int32 → Int32 → Int32 → Option (Int32)) (z : MS) (x1 : Int32) (x2 : Int32) (x3 : Int32) (x4 : Int32) : Option (Int32) :=
  (if (M_rooms z) ≤ x4 then (X9_areAtRest_J141 k36 z x1 x2) else ((f_X9_has x1 x2).bind fun q84 => (if q84 = 0 then (X9_areAtRest_J141 k36 z x1 x2) else (chk x2 8 (if x4 = ((M_at z) (x2).toNatClampNeg) then (X9_areAtRest_J135 k36 k73 z x1 x2 x3 x4) else ((f_X9_countIn z x4 (-6 : Int32)).bind fun q106 => (chk x4 6 (if ((M_size z) (x4).toNatClampNeg) ≤ q106 then (X9_areAtRest_J135 k36 k73 z x1 x2 x3 x4) else ((f_X9_drawOf z x2 x4 (-6 : Int32) (0 : Int32)).bind fun q126 => (if q126 ≤ x3 then (X9_areAtRest_J135 k36 k73 z x1 x2 x3 x4) else (some ((0 : Int32)))))))))))))
def X9_areAtRest_J69 (k36 : MS → Int32 → Int32 → Option (Int32)) (z : MS) (x1 : Int32) (x2 : Int32) (s0 : Int32) : Option (Int32) :=
  (it (X9_areAtRest_B73 k36) (fun _ _ _ _ _ => none) FU z x1 x2 s0 (0 : Int32))
def X9_areAtRest_B36 (k36 : MS → Int32 → Int32 → Option (Int32)) (z : MS) (x1 : Int32) (x2 : Int32) : Option (Int32) :=
  (if (8 : Int32) ≤ x2 then (some ((1 : Int32))) else ((f_X9_has x1 x2).bind fun q44 => (if q44 = 0 then (X9_areAtRest_J69 k36 z x1 x2 (1000000 : Int32)) else (chk x2 8 ((f_X9_drawOf z x2 ((M_at z) (x2).toNatClampNeg) (-6 : Int32) (0 : Int32)).bind fun q61 => (X9_areAtRest_J69 k36 z x1 x2 q61))))))
def X9_areAtRest_B2 (k2 : MS → Int32 → Int32 → Option (Int32)) (z : MS) (x1 : Int32) (x2 : Int32) : Option (Int32) :=
  (if (M_rooms z) ≤ x2 then (it X9_areAtRest_B36 (fun _ _ _ => none) FU z x1 (0 : Int32)) else ((f_X9_countIn z x2 (-6 : Int32)).bind fun q14 => (chk x2 6 (if q14 ≤ ((M_size z) (x2).toNatClampNeg) then (k2 z x1 (x2 + (1 : Int32))) else (some ((0 : Int32)))))))
def f_X9_areAtRest (z : MS) (x1 : Int32) : Option (Int32) :=
  (it X9_areAtRest_B2 (fun _ _ _ => none) FU z x1 (0 : Int32))
theorem kv_X9_areAtRest : KV RX9 yX9_areAtRest cX9_areAtRest 5 (some .boolean) 1 := ⟨mw_1176, mw_53, mw_65, mw_1177, by decide +kernel⟩
set_option maxHeartbeats 8000000 in
set_option maxRecDepth 100000 in
theorem c_X9_areAtRest {l : Launch} {E : va_G} {cy : Nat → ClassId} (A : Nat → Nat) (z : MS) (x1 : Int32) (q : Int32) (hf : f_X9_areAtRest z x1 = some q) : Ci l yX9_areAtRest cX9_areAtRest 5 (some .boolean) 4 131 E cy [.ref (A 0), .int x1] (wM cy A z) q (wM cy A z) := by
  refine Ci.of RX9 (by decide) rfl (Nat.le_of_ble_eq_true rfl) ?_
  intro K hK
  have hc := hK.cq
  have L36 : ∀ (n36 : Nat) (x1 : Int32) (x2 : Int32), it X9_areAtRest_B36 (fun _ _ _ => none) n36 z x1 x2 = some q → V K (wM cy A z) 36 [(0, .ref (A 0)), (1, .int x1), (2, .int x2)] [] := by
    intro n36
    induction n36 with
    | zero => intro x1 x2 hf; exact (o_none hf).elim
    | succ n36 ih36 =>
      have J141 : ∀ (x1 : Int32) (x2 : Int32), X9_areAtRest_J141 (it X9_areAtRest_B36 (fun _ _ _ => none) n36) z x1 x2 = some q → V K (wM cy A z) 141 [(0, .ref (A 0)), (1, .int x1), (2, .int x2)] [] := by
        intro x1 x2 hf
        unfold X9_areAtRest_J141 at hf
        refine r_iinc hc 2 [(2, .int (x2 + (1 : Int32))), (0, .ref (A 0)), (1, .int x1)] (x2 + (1 : Int32)) dX9_areAtRest_141 rfl rfl (by decide) rfl ?_
        refine r_goto hc 36 dX9_areAtRest_144 (by decide) ?_
        exact V.sub [1, 2, 0] rfl (ih36 x1 (x2 + (1 : Int32)) hf)
      have L73 : ∀ (n73 : Nat) (x1 : Int32) (x2 : Int32) (x3 : Int32) (x4 : Int32), it (X9_areAtRest_B73 (it X9_areAtRest_B36 (fun _ _ _ => none) n36)) (fun _ _ _ _ _ => none) n73 z x1 x2 x3 x4 = some q → V K (wM cy A z) 73 [(0, .ref (A 0)), (1, .int x1), (2, .int x2), (3, .int x3), (4, .int x4)] [] := by
        intro n73
        induction n73 with
        | zero => intro x1 x2 x3 x4 hf; exact (o_none hf).elim
        | succ n73 ih73 =>
          have J135 : ∀ (x1 : Int32) (x2 : Int32) (x3 : Int32) (x4 : Int32), X9_areAtRest_J135 (it X9_areAtRest_B36 (fun _ _ _ => none) n36) (it (X9_areAtRest_B73 (it X9_areAtRest_B36 (fun _ _ _ => none) n36)) (fun _ _ _ _ _ => none) n73) z x1 x2 x3 x4 = some q → V K (wM cy A z) 135 [(0, .ref (A 0)), (1, .int x1), (2, .int x2), (3, .int x3), (4, .int x4)] [] := by
            intro x1 x2 x3 x4 hf
            unfold X9_areAtRest_J135 at hf
            refine r_iinc hc 4 [(4, .int (x4 + (1 : Int32))), (0, .ref (A 0)), (1, .int x1), (2, .int x2), (3, .int x3)] (x4 + (1 : Int32)) dX9_areAtRest_135 rfl rfl (by decide) rfl ?_
            refine r_goto hc 73 dX9_areAtRest_138 (by decide) ?_
            exact V.sub [1, 2, 3, 4, 0] rfl (ih73 x1 x2 x3 (x4 + (1 : Int32)) hf)
          intro x1 x2 x3 x4 hf
          replace hf : X9_areAtRest_B73 (it X9_areAtRest_B36 (fun _ _ _ => none) n36) (it (X9_areAtRest_B73 (it X9_areAtRest_B36 (fun _ _ _ => none) n36)) (fun _ _ _ _ _ => none) n73) z x1 x2 x3 x4 = some q := hf
          unfold X9_areAtRest_B73 at hf
          refine r_iload hc 4 dX9_areAtRest_73 rfl ?_
          refine r_aload_n hc 0 dX9_areAtRest_75 rfl ?_
          refine r_get (v := .int (M_rooms z)) hc iw_X9 0 rfl rfl 0 (by decide) mw_860 rfl dX9_areAtRest_76 ?_
          refine r_icmp_ge hc 141 dX9_areAtRest_79 (by decide) (fun c_7 => ?_) (fun c_7 => ?_)
          · have hf := o_pos c_7 hf
            exact V.sub [0, 1, 2] rfl (J141 x1 x2 hf)
          · have hf := o_neg c_7 hf
            refine r_iload_n hc 1 dX9_areAtRest_82 rfl ?_
            refine r_iload_n hc 2 dX9_areAtRest_83 rfl ?_
            obtain ⟨q84, hq84, hf⟩ := o_bind hf
            refine r_callSi (ws' := (wM cy A z)) (As := [.int x1, .int x2]) (rest := []) hc (c_X9_has  x1 x2 q84 hq84) ks_X9_has mw_970 _ _ _ (Sp_none _) rfl rfl (Nat.le_of_ble_eq_true rfl) ⟨by decide, by decide⟩ dX9_areAtRest_84 ?_
            refine r_if_eq hc 141 dX9_areAtRest_87 (by decide) (fun c_8 => ?_) (fun c_8 => ?_)
            · have hf := o_pos c_8 hf
              exact V.sub [0, 1, 2] rfl (J141 x1 x2 hf)
            · have hf := o_neg c_8 hf
              refine r_iload hc 4 dX9_areAtRest_90 rfl ?_
              refine r_aload_n hc 0 dX9_areAtRest_92 rfl ?_
              refine r_get (v := .ref (A 12)) hc iw_X9 0 rfl rfl 15 (by decide) mw_875 rfl dX9_areAtRest_93 ?_
              refine r_iload_n hc 2 dX9_areAtRest_96 rfl ?_
              obtain ⟨i_9, hf⟩ := chk_some hf
              refine r_iald (f := (M_at z)) hc 12 rfl i_9 dX9_areAtRest_97 ?_
              refine r_icmp_eq hc 135 dX9_areAtRest_98 (by decide) (fun c_10 => ?_) (fun c_10 => ?_)
              · have hf := o_pos c_10 hf
                exact V.sub [0, 1, 2, 3, 4] rfl (J135 x1 x2 x3 x4 hf)
              · have hf := o_neg c_10 hf
                refine r_aload_n hc 0 dX9_areAtRest_101 rfl ?_
                refine r_iload hc 4 dX9_areAtRest_102 rfl ?_
                refine r_bipush hc (-6 : Int32) dX9_areAtRest_104 rfl ?_
                obtain ⟨q106, hq106, hf⟩ := o_bind hf
                refine r_callVi (ws' := (wM cy A z)) (As := [.int x4, .int (-6 : Int32)]) (rest := []) hc (c_X9_countIn A z x4 (-6 : Int32) q106 hq106) kv_X9_countIn mw_1048 0 rfl rfl _ _ _ (Sp_all _ _) rfl rfl (Nat.le_of_ble_eq_true rfl) ⟨by decide, by decide⟩ dX9_areAtRest_106 ?_
                refine r_aload_n hc 0 dX9_areAtRest_109 rfl ?_
                refine r_get (v := .ref (A 2)) hc iw_X9 0 rfl rfl 2 (by decide) mw_862 rfl dX9_areAtRest_110 ?_
                refine r_iload hc 4 dX9_areAtRest_113 rfl ?_
                obtain ⟨i_11, hf⟩ := chk_some hf
                refine r_iald (f := (M_size z)) hc 2 rfl i_11 dX9_areAtRest_115 ?_
                refine r_icmp_ge hc 135 dX9_areAtRest_116 (by decide) (fun c_12 => ?_) (fun c_12 => ?_)
                · have hf := o_pos c_12 hf
                  exact V.sub [0, 1, 2, 3, 4] rfl (J135 x1 x2 x3 x4 hf)
                · have hf := o_neg c_12 hf
                  refine r_aload_n hc 0 dX9_areAtRest_119 rfl ?_
                  refine r_iload_n hc 2 dX9_areAtRest_120 rfl ?_
                  refine r_iload hc 4 dX9_areAtRest_121 rfl ?_
                  refine r_bipush hc (-6 : Int32) dX9_areAtRest_123 rfl ?_
                  refine r_iconst hc (0 : Int32) dX9_areAtRest_125 rfl ?_
                  obtain ⟨q126, hq126, hf⟩ := o_bind hf
                  refine r_callVi (ws' := (wM cy A z)) (As := [.int x2, .int x4, .int (-6 : Int32), .int (0 : Int32)]) (rest := []) hc (c_X9_drawOf A z x2 x4 (-6 : Int32) (0 : Int32) q126 hq126) kv_X9_drawOf mw_1044 0 rfl rfl _ _ _ (Sp_all _ _) rfl rfl (Nat.le_of_ble_eq_true rfl) ⟨by decide, by decide⟩ dX9_areAtRest_126 ?_
                  refine r_iload_n hc 3 dX9_areAtRest_129 rfl ?_
                  refine r_icmp_le hc 135 dX9_areAtRest_130 (by decide) (fun c_13 => ?_) (fun c_13 => ?_)
                  · have hf := o_pos c_13 hf
                    exact V.sub [0, 1, 2, 3, 4] rfl (J135 x1 x2 x3 x4 hf)
                  · have hf := o_neg c_13 hf
                    refine r_iconst hc (0 : Int32) dX9_areAtRest_133 rfl ?_
                    exact r_zret hK rfl (Option.some.inj hf) rfl dX9_areAtRest_134
      have J69 : ∀ (x1 : Int32) (x2 : Int32) (s0 : Int32), X9_areAtRest_J69 (it X9_areAtRest_B36 (fun _ _ _ => none) n36) z x1 x2 s0 = some q → V K (wM cy A z) 69 [(0, .ref (A 0)), (1, .int x1), (2, .int x2)] [.int s0] := by
        intro x1 x2 s0 hf
        unfold X9_areAtRest_J69 at hf
        refine r_istore_n hc [(3, .int s0), (0, .ref (A 0)), (1, .int x1), (2, .int x2)] dX9_areAtRest_69 (by decide) rfl ?_
        refine r_iconst hc (0 : Int32) dX9_areAtRest_70 rfl ?_
        refine r_istore hc [(4, .int (0 : Int32)), (3, .int s0), (0, .ref (A 0)), (1, .int x1), (2, .int x2)] dX9_areAtRest_71 (by decide) rfl ?_
        exact V.sub [2, 3, 4, 1, 0] rfl (L73 FU x1 x2 s0 (0 : Int32) hf)
      intro x1 x2 hf
      replace hf : X9_areAtRest_B36 (it X9_areAtRest_B36 (fun _ _ _ => none) n36) z x1 x2 = some q := hf
      unfold X9_areAtRest_B36 at hf
      refine r_iload_n hc 2 dX9_areAtRest_36 rfl ?_
      refine r_bipush hc (8 : Int32) dX9_areAtRest_37 rfl ?_
      refine r_icmp_ge hc 147 dX9_areAtRest_39 (by decide) (fun c_4 => ?_) (fun c_4 => ?_)
      · have hf := o_pos c_4 hf
        refine r_iconst hc (1 : Int32) dX9_areAtRest_147 rfl ?_
        exact r_zret hK rfl (Option.some.inj hf) rfl dX9_areAtRest_148
      · have hf := o_neg c_4 hf
        refine r_iload_n hc 1 dX9_areAtRest_42 rfl ?_
        refine r_iload_n hc 2 dX9_areAtRest_43 rfl ?_
        obtain ⟨q44, hq44, hf⟩ := o_bind hf
        refine r_callSi (ws' := (wM cy A z)) (As := [.int x1, .int x2]) (rest := []) hc (c_X9_has  x1 x2 q44 hq44) ks_X9_has mw_970 _ _ _ (Sp_none _) rfl rfl (Nat.le_of_ble_eq_true rfl) ⟨by decide, by decide⟩ dX9_areAtRest_44 ?_
        refine r_if_eq hc 67 dX9_areAtRest_47 (by decide) (fun c_5 => ?_) (fun c_5 => ?_)
        · have hf := o_pos c_5 hf
          refine r_ldc (v := (1000000 : Int32)) hc mw_1178 dX9_areAtRest_67 ?_
          exact V.sub [0, 1, 2] rfl (J69 x1 x2 (1000000 : Int32) hf)
        · have hf := o_neg c_5 hf
          refine r_aload_n hc 0 dX9_areAtRest_50 rfl ?_
          refine r_iload_n hc 2 dX9_areAtRest_51 rfl ?_
          refine r_aload_n hc 0 dX9_areAtRest_52 rfl ?_
          refine r_get (v := .ref (A 12)) hc iw_X9 0 rfl rfl 15 (by decide) mw_875 rfl dX9_areAtRest_53 ?_
          refine r_iload_n hc 2 dX9_areAtRest_56 rfl ?_
          obtain ⟨i_6, hf⟩ := chk_some hf
          refine r_iald (f := (M_at z)) hc 12 rfl i_6 dX9_areAtRest_57 ?_
          refine r_bipush hc (-6 : Int32) dX9_areAtRest_58 rfl ?_
          refine r_iconst hc (0 : Int32) dX9_areAtRest_60 rfl ?_
          obtain ⟨q61, hq61, hf⟩ := o_bind hf
          refine r_callVi (ws' := (wM cy A z)) (As := [.int x2, .int ((M_at z) (x2).toNatClampNeg), .int (-6 : Int32), .int (0 : Int32)]) (rest := []) hc (c_X9_drawOf A z x2 ((M_at z) (x2).toNatClampNeg) (-6 : Int32) (0 : Int32) q61 hq61) kv_X9_drawOf mw_1044 0 rfl rfl _ _ _ (Sp_all _ _) rfl rfl (Nat.le_of_ble_eq_true rfl) ⟨by decide, by decide⟩ dX9_areAtRest_61 ?_
          refine r_goto hc 69 dX9_areAtRest_64 (by decide) ?_
          exact V.sub [0, 1, 2] rfl (J69 x1 x2 q61 hf)
  have L2 : ∀ (n2 : Nat) (x1 : Int32) (x2 : Int32), it X9_areAtRest_B2 (fun _ _ _ => none) n2 z x1 x2 = some q → V K (wM cy A z) 2 [(0, .ref (A 0)), (1, .int x1), (2, .int x2)] [] := by
    intro n2
    induction n2 with
    | zero => intro x1 x2 hf; exact (o_none hf).elim
    | succ n2 ih2 =>
      intro x1 x2 hf
      replace hf : X9_areAtRest_B2 (it X9_areAtRest_B2 (fun _ _ _ => none) n2) z x1 x2 = some q := hf
      unfold X9_areAtRest_B2 at hf
      refine r_iload_n hc 2 dX9_areAtRest_2 rfl ?_
      refine r_aload_n hc 0 dX9_areAtRest_3 rfl ?_
      refine r_get (v := .int (M_rooms z)) hc iw_X9 0 rfl rfl 0 (by decide) mw_860 rfl dX9_areAtRest_4 ?_
      refine r_icmp_ge hc 34 dX9_areAtRest_7 (by decide) (fun c_1 => ?_) (fun c_1 => ?_)
      · have hf := o_pos c_1 hf
        refine r_iconst hc (0 : Int32) dX9_areAtRest_34 rfl ?_
        refine r_istore_n hc [(2, .int (0 : Int32)), (0, .ref (A 0)), (1, .int x1)] dX9_areAtRest_35 (by decide) rfl ?_
        exact V.sub [1, 2, 0] rfl (L36 FU x1 (0 : Int32) hf)
      · have hf := o_neg c_1 hf
        refine r_aload_n hc 0 dX9_areAtRest_10 rfl ?_
        refine r_iload_n hc 2 dX9_areAtRest_11 rfl ?_
        refine r_bipush hc (-6 : Int32) dX9_areAtRest_12 rfl ?_
        obtain ⟨q14, hq14, hf⟩ := o_bind hf
        refine r_callVi (ws' := (wM cy A z)) (As := [.int x2, .int (-6 : Int32)]) (rest := []) hc (c_X9_countIn A z x2 (-6 : Int32) q14 hq14) kv_X9_countIn mw_1048 0 rfl rfl _ _ _ (Sp_all _ _) rfl rfl (Nat.le_of_ble_eq_true rfl) ⟨by decide, by decide⟩ dX9_areAtRest_14 ?_
        refine r_aload_n hc 0 dX9_areAtRest_17 rfl ?_
        refine r_get (v := .ref (A 2)) hc iw_X9 0 rfl rfl 2 (by decide) mw_862 rfl dX9_areAtRest_18 ?_
        refine r_iload_n hc 2 dX9_areAtRest_21 rfl ?_
        obtain ⟨i_2, hf⟩ := chk_some hf
        refine r_iald (f := (M_size z)) hc 2 rfl i_2 dX9_areAtRest_22 ?_
        refine r_icmp_le hc 28 dX9_areAtRest_23 (by decide) (fun c_3 => ?_) (fun c_3 => ?_)
        · have hf := o_pos c_3 hf
          refine r_iinc hc 2 [(2, .int (x2 + (1 : Int32))), (0, .ref (A 0)), (1, .int x1)] (x2 + (1 : Int32)) dX9_areAtRest_28 rfl rfl (by decide) rfl ?_
          refine r_goto hc 2 dX9_areAtRest_31 (by decide) ?_
          exact V.sub [1, 2, 0] rfl (ih2 x1 (x2 + (1 : Int32)) hf)
        · have hf := o_neg c_3 hf
          refine r_iconst hc (0 : Int32) dX9_areAtRest_26 rfl ?_
          exact r_zret hK rfl (Option.some.inj hf) rfl dX9_areAtRest_27
  show V K (wM cy A z) 0 [(0, .ref (A 0)), (1, .int x1)] []
  unfold f_X9_areAtRest at hf
  refine r_iconst hc (0 : Int32) dX9_areAtRest_0 rfl ?_
  refine r_istore_n hc [(2, .int (0 : Int32)), (0, .ref (A 0)), (1, .int x1)] dX9_areAtRest_1 (by decide) rfl ?_
  exact V.sub [1, 2, 0] rfl (L2 FU x1 (0 : Int32) hf)
def X9_rests_J196 (k99 : MS → Int32 → Int32 → Int32 → Int32 → Int32 → Int32 → Option (Int32 × MS)) (z : MS) (x1 : Int32) (x2 : Int32) (x3 : Int32) (x4 : Int32) (x5 : Int32) (x6 : Int32) : Option (Int32 × MS) :=
  (k99 z x1 x2 x3 x4 x5 (x6 + (1 : Int32)))
def X9_rests_J191 (k99 : MS → Int32 → Int32 → Int32 → Int32 → Int32 → Int32 → Option (Int32 × MS)) (z : MS) (x1 : Int32) (x2 : Int32) (x3 : Int32) (x4 : Int32) (x6 : Int32) (s0 : Int32) : Option (Int32 × MS) :=
  (X9_rests_J196 k99 z x1 x2 x3 (x4 + (1 : Int32)) s0 x6)
def X9_rests_J189 (k99 : MS → Int32 → Int32 → Int32 → Int32 → Int32 → Int32 → Option (Int32 × MS)) (z : MS) (x1 : Int32) (x2 : Int32) (x3 : Int32) (x4 : Int32) (x5 : Int32) (x6 : Int32) : Option (Int32 × MS) :=
  (X9_rests_J191 k99 z x1 x2 x3 x4 x6 x5)
def X9_rests_J157 (k99 : MS → Int32 → Int32 → Int32 → Int32 → Int32 → Int32 → Option (Int32 × MS)) (k115 : MS → Int32 → Int32 → Int32 → Int32 → Int32 → Int32 → Int32 → Int32 → Option (Int32 × MS)) (z : MS) (x1 : Int32) (x2 : Int32) (x3 : Int32) (x4 : Int32) (x5 : Int32) (x6 : Int32) (x7 : Int32) (x8 : Int32) : Option (Int32 × MS) :=
  (k115 z x1 x2 x3 x4 x5 x6 x7 (x8 + (1 : Int32)))
def X9_rests_B115 (k99 : MS → Int32 → Int32 → Int32 → Int32 → Int32 → Int32 → Option (Int32 × MS)) (k115 : MS → Int32 → Int32 → Int32 → Int32 → Int32 → Int32 → Int32 → Int32 → Option (Int32 × MS)) (z : MS) (x1 : Int32) (x2 : Int32) (x3 : Int32) (x4 : Int32) (x5 : Int32) (x6 : Int32) (x7 : Int32) (x8 : Int32) : Option (Int32 × MS) :=
  (if (8 : Int32) ≤ x8 then ((f_X9_areAtRest z x1).bind fun q165 => (if q165 = 0 then (X9_rests_J196 k99 z x1 x2 x3 x4 x5 x6) else (if x4 = 0 then (if x2 < 0 then (X9_rests_J189 k99 z x1 x2 x3 x4 x5 x6) else (chk x2 8 (X9_rests_J191 k99 z x1 x2 x3 x4 x6 ((M_at z) (x2).toNatClampNeg)))) else (X9_rests_J189 k99 z x1 x2 x3 x4 x5 x6)))) else ((f_X9_has x1 x8).bind fun q125 => (if q125 = 0 then (X9_rests_J157 k99 k115 z x1 x2 x3 x4 x5 x6 x7 x8) else (nz (M_rooms z) (nz (x7 / (M_rooms z)) (nz (M_rooms z) (chk x8 8 (ltA (M_set_at z (upd (M_at z) (x8).toNatClampNeg ((x6 / (x7 / (M_rooms z))) - (x6 / (x7 / (M_rooms z))) / (M_rooms z) * (M_rooms z)))) fun z156 => (X9_rests_J157 k99 k115 z156 x1 x2 x3 x4 x5 x6 (x7 / (M_rooms z)) x8)))))))))
def X9_rests_B99 (k99 : MS → Int32 → Int32 → Int32 → Int32 → Int32 → Int32 → Option (Int32 × MS)) (z : MS) (x1 : Int32) (x2 : Int32) (x3 : Int32) (x4 : Int32) (x5 : Int32) (x6 : Int32) : Option (Int32 × MS) :=
  (if x3 ≤ x6 then (if 0 ≤ x2 then (some (x5, z)) else (some (x4, z))) else ((f_X9_asNow z).bind fun q106 => (it (X9_rests_B115 k99) (fun _ _ _ _ _ _ _ _ _ => none) FU q106 x1 x2 x3 x4 x5 x6 x3 (0 : Int32))))
def X9_rests_B67 (k67 : MS → Int32 → Int32 → Int32 → Int32 → Option (Int32 × MS)) (z : MS) (x1 : Int32) (x2 : Int32) (x3 : Int32) (x4 : Int32) : Option (Int32 × MS) :=
  ((f_X9_bits x1).bind fun q70 => (if q70 ≤ x4 then (it X9_rests_B99 (fun _ _ _ _ _ _ _ => none) FU z x1 x2 x3 (0 : Int32) (-6 : Int32) (0 : Int32)) else (k67 z x1 x2 (x3 * (M_rooms z)) (x4 + (1 : Int32)))))
def X9_rests_J62 (z : MS) (x1 : Int32) (x2 : Int32) : Option (Int32 × MS) :=
  (it X9_rests_B67 (fun _ _ _ _ _ => none) FU z x1 x2 (1 : Int32) (0 : Int32))
def f_X9_rests (z : MS) (x1 : Int32) (x2 : Int32) : Option (Int32 × MS) :=
  ((f_X9_in x1 (0 : Int32) (255 : Int32)).bind fun q5 => (if q5 = 0 then (some ((-2 : Int32), z)) else (if (x1 &&& ((M_there z) ^^^ (-1 : Int32))) = 0 then ((f_X9_bits x1).bind fun q26 => (if q26 ≤ (6 : Int32) then (if x2 = (-1 : Int32) then (X9_rests_J62 z x1 x2) else ((f_X9_in x2 (0 : Int32) (7 : Int32)).bind fun q46 => (if q46 = 0 then (some ((-1 : Int32), z)) else ((f_X9_has x1 x2).bind fun q54 => (if q54 = 0 then (some ((-1 : Int32), z)) else (X9_rests_J62 z x1 x2)))))) else (some ((-4 : Int32), z)))) else (some ((-2 : Int32), z)))))
theorem kv_X9_rests : KV RX9 yX9_rests cX9_rests 9 (some .int) 2 := ⟨mw_1171, mw_1172, mw_65, mw_1173, by decide +kernel⟩
set_option maxHeartbeats 8000000 in
set_option maxRecDepth 100000 in
theorem c_X9_rests {l : Launch} {E : va_G} {cy : Nat → ClassId} (A : Nat → Nat) (z : MS) (x1 : Int32) (x2 : Int32) (q : Int32 × MS) (hf : f_X9_rests z x1 x2 = some q) : Ci l yX9_rests cX9_rests 9 (some .int) 5 155 E cy [.ref (A 0), .int x1, .int x2] (wM cy A z) q.1 (wM cy A q.2) := by
  refine Ci.of RX9 (by decide) rfl (Nat.le_of_ble_eq_true rfl) ?_
  intro K hK
  have hc := hK.cq
  have L99 : ∀ (n99 : Nat) (z : MS) (x1 : Int32) (x2 : Int32) (x3 : Int32) (x4 : Int32) (x5 : Int32) (x6 : Int32), it X9_rests_B99 (fun _ _ _ _ _ _ _ => none) n99 z x1 x2 x3 x4 x5 x6 = some q → V K (wM cy A z) 99 [(0, .ref (A 0)), (1, .int x1), (2, .int x2), (3, .int x3), (4, .int x4), (5, .int x5), (6, .int x6)] [] := by
    intro n99
    induction n99 with
    | zero => intro z x1 x2 x3 x4 x5 x6 hf; exact (o_none hf).elim
    | succ n99 ih99 =>
      have J196 : ∀ (z : MS) (x1 : Int32) (x2 : Int32) (x3 : Int32) (x4 : Int32) (x5 : Int32) (x6 : Int32), X9_rests_J196 (it X9_rests_B99 (fun _ _ _ _ _ _ _ => none) n99) z x1 x2 x3 x4 x5 x6 = some q → V K (wM cy A z) 196 [(0, .ref (A 0)), (1, .int x1), (2, .int x2), (3, .int x3), (4, .int x4), (5, .int x5), (6, .int x6)] [] := by
        intro z x1 x2 x3 x4 x5 x6 hf
        unfold X9_rests_J196 at hf
        refine r_iinc hc 6 [(6, .int (x6 + (1 : Int32))), (0, .ref (A 0)), (1, .int x1), (2, .int x2), (3, .int x3), (4, .int x4), (5, .int x5)] (x6 + (1 : Int32)) dX9_rests_196 rfl rfl (by decide) rfl ?_
        refine r_goto hc 99 dX9_rests_199 (by decide) ?_
        exact V.sub [1, 2, 3, 4, 5, 6, 0] rfl (ih99 z x1 x2 x3 x4 x5 (x6 + (1 : Int32)) hf)
      have J191 : ∀ (z : MS) (x1 : Int32) (x2 : Int32) (x3 : Int32) (x4 : Int32) (x6 : Int32) (s0 : Int32), X9_rests_J191 (it X9_rests_B99 (fun _ _ _ _ _ _ _ => none) n99) z x1 x2 x3 x4 x6 s0 = some q → V K (wM cy A z) 191 [(0, .ref (A 0)), (1, .int x1), (2, .int x2), (3, .int x3), (4, .int x4), (6, .int x6)] [.int s0] := by
        intro z x1 x2 x3 x4 x6 s0 hf
        unfold X9_rests_J191 at hf
        refine r_istore hc [(5, .int s0), (0, .ref (A 0)), (1, .int x1), (2, .int x2), (3, .int x3), (4, .int x4), (6, .int x6)] dX9_rests_191 (by decide) rfl ?_
        refine r_iinc hc 5 [(4, .int (x4 + (1 : Int32))), (5, .int s0), (0, .ref (A 0)), (1, .int x1), (2, .int x2), (3, .int x3), (6, .int x6)] (x4 + (1 : Int32)) dX9_rests_193 rfl rfl (by decide) rfl ?_
        exact V.sub [2, 3, 4, 5, 0, 1, 6] rfl (J196 z x1 x2 x3 (x4 + (1 : Int32)) s0 x6 hf)
      have J189 : ∀ (z : MS) (x1 : Int32) (x2 : Int32) (x3 : Int32) (x4 : Int32) (x5 : Int32) (x6 : Int32), X9_rests_J189 (it X9_rests_B99 (fun _ _ _ _ _ _ _ => none) n99) z x1 x2 x3 x4 x5 x6 = some q → V K (wM cy A z) 189 [(0, .ref (A 0)), (1, .int x1), (2, .int x2), (3, .int x3), (4, .int x4), (5, .int x5), (6, .int x6)] [] := by
        intro z x1 x2 x3 x4 x5 x6 hf
        unfold X9_rests_J189 at hf
        refine r_iload hc 5 dX9_rests_189 rfl ?_
        exact V.sub [0, 1, 2, 3, 4, 6] rfl (J191 z x1 x2 x3 x4 x6 x5 hf)
      have L115 : ∀ (n115 : Nat) (z : MS) (x1 : Int32) (x2 : Int32) (x3 : Int32) (x4 : Int32) (x5 : Int32) (x6 : Int32) (x7 : Int32) (x8 : Int32), it (X9_rests_B115 (it X9_rests_B99 (fun _ _ _ _ _ _ _ => none) n99)) (fun _ _ _ _ _ _ _ _ _ => none) n115 z x1 x2 x3 x4 x5 x6 x7 x8 = some q → V K (wM cy A z) 115 [(0, .ref (A 0)), (1, .int x1), (2, .int x2), (3, .int x3), (4, .int x4), (5, .int x5), (6, .int x6), (7, .int x7), (8, .int x8)] [] := by
        intro n115
        induction n115 with
        | zero => intro z x1 x2 x3 x4 x5 x6 x7 x8 hf; exact (o_none hf).elim
        | succ n115 ih115 =>
          have J157 : ∀ (z : MS) (x1 : Int32) (x2 : Int32) (x3 : Int32) (x4 : Int32) (x5 : Int32) (x6 : Int32) (x7 : Int32) (x8 : Int32), X9_rests_J157 (it X9_rests_B99 (fun _ _ _ _ _ _ _ => none) n99) (it (X9_rests_B115 (it X9_rests_B99 (fun _ _ _ _ _ _ _ => none) n99)) (fun _ _ _ _ _ _ _ _ _ => none) n115) z x1 x2 x3 x4 x5 x6 x7 x8 = some q → V K (wM cy A z) 157 [(0, .ref (A 0)), (1, .int x1), (2, .int x2), (3, .int x3), (4, .int x4), (5, .int x5), (6, .int x6), (7, .int x7), (8, .int x8)] [] := by
            intro z x1 x2 x3 x4 x5 x6 x7 x8 hf
            unfold X9_rests_J157 at hf
            refine r_iinc hc 8 [(8, .int (x8 + (1 : Int32))), (0, .ref (A 0)), (1, .int x1), (2, .int x2), (3, .int x3), (4, .int x4), (5, .int x5), (6, .int x6), (7, .int x7)] (x8 + (1 : Int32)) dX9_rests_157 rfl rfl (by decide) rfl ?_
            refine r_goto hc 115 dX9_rests_160 (by decide) ?_
            exact V.sub [1, 2, 3, 4, 5, 6, 7, 8, 0] rfl (ih115 z x1 x2 x3 x4 x5 x6 x7 (x8 + (1 : Int32)) hf)
          intro z x1 x2 x3 x4 x5 x6 x7 x8 hf
          replace hf : X9_rests_B115 (it X9_rests_B99 (fun _ _ _ _ _ _ _ => none) n99) (it (X9_rests_B115 (it X9_rests_B99 (fun _ _ _ _ _ _ _ => none) n99)) (fun _ _ _ _ _ _ _ _ _ => none) n115) z x1 x2 x3 x4 x5 x6 x7 x8 = some q := hf
          unfold X9_rests_B115 at hf
          refine r_iload hc 8 dX9_rests_115 rfl ?_
          refine r_bipush hc (8 : Int32) dX9_rests_117 rfl ?_
          refine r_icmp_ge hc 163 dX9_rests_119 (by decide) (fun c_10 => ?_) (fun c_10 => ?_)
          · have hf := o_pos c_10 hf
            refine r_aload_n hc 0 dX9_rests_163 rfl ?_
            refine r_iload_n hc 1 dX9_rests_164 rfl ?_
            obtain ⟨q165, hq165, hf⟩ := o_bind hf
            refine r_callVi (ws' := (wM cy A z)) (As := [.int x1]) (rest := []) hc (c_X9_areAtRest A z x1 q165 hq165) kv_X9_areAtRest mw_1174 0 rfl rfl _ _ _ (Sp_all _ _) rfl rfl (Nat.le_of_ble_eq_true rfl) ⟨by decide, by decide⟩ dX9_rests_165 ?_
            refine r_if_eq hc 196 dX9_rests_168 (by decide) (fun c_11 => ?_) (fun c_11 => ?_)
            · have hf := o_pos c_11 hf
              exact V.sub [0, 1, 2, 3, 4, 5, 6] rfl (J196 z x1 x2 x3 x4 x5 x6 hf)
            · have hf := o_neg c_11 hf
              refine r_iload hc 4 dX9_rests_171 rfl ?_
              refine r_if_ne hc 189 dX9_rests_173 (by decide) (fun c_12 => ?_) (fun c_12 => ?_)
              · have hf := o_neg c_12 hf
                exact V.sub [0, 1, 2, 3, 4, 5, 6] rfl (J189 z x1 x2 x3 x4 x5 x6 hf)
              · have hf := o_pos c_12 hf
                refine r_iload_n hc 2 dX9_rests_176 rfl ?_
                refine r_if_lt hc 189 dX9_rests_177 (by decide) (fun c_13 => ?_) (fun c_13 => ?_)
                · have hf := o_pos c_13 hf
                  exact V.sub [0, 1, 2, 3, 4, 5, 6] rfl (J189 z x1 x2 x3 x4 x5 x6 hf)
                · have hf := o_neg c_13 hf
                  refine r_aload_n hc 0 dX9_rests_180 rfl ?_
                  refine r_get (v := .ref (A 12)) hc iw_X9 0 rfl rfl 15 (by decide) mw_875 rfl dX9_rests_181 ?_
                  refine r_iload_n hc 2 dX9_rests_184 rfl ?_
                  obtain ⟨i_14, hf⟩ := chk_some hf
                  refine r_iald (f := (M_at z)) hc 12 rfl i_14 dX9_rests_185 ?_
                  refine r_goto hc 191 dX9_rests_186 (by decide) ?_
                  exact V.sub [0, 1, 2, 3, 4, 6] rfl (J191 z x1 x2 x3 x4 x6 ((M_at z) (x2).toNatClampNeg) hf)
          · have hf := o_neg c_10 hf
            refine r_iload_n hc 1 dX9_rests_122 rfl ?_
            refine r_iload hc 8 dX9_rests_123 rfl ?_
            obtain ⟨q125, hq125, hf⟩ := o_bind hf
            refine r_callSi (ws' := (wM cy A z)) (As := [.int x1, .int x8]) (rest := []) hc (c_X9_has  x1 x8 q125 hq125) ks_X9_has mw_970 _ _ _ (Sp_none _) rfl rfl (Nat.le_of_ble_eq_true rfl) ⟨by decide, by decide⟩ dX9_rests_125 ?_
            refine r_if_eq hc 157 dX9_rests_128 (by decide) (fun c_15 => ?_) (fun c_15 => ?_)
            · have hf := o_pos c_15 hf
              exact V.sub [0, 1, 2, 3, 4, 5, 6, 7, 8] rfl (J157 z x1 x2 x3 x4 x5 x6 x7 x8 hf)
            · have hf := o_neg c_15 hf
              refine r_iload hc 7 dX9_rests_131 rfl ?_
              refine r_aload_n hc 0 dX9_rests_133 rfl ?_
              refine r_get (v := .int (M_rooms z)) hc iw_X9 0 rfl rfl 0 (by decide) mw_860 rfl dX9_rests_134 ?_
              obtain ⟨z_16, hf⟩ := nz_some hf
              refine r_idiv hc dX9_rests_137 z_16 ?_
              refine r_istore hc [(7, .int (x7 / (M_rooms z))), (0, .ref (A 0)), (1, .int x1), (2, .int x2), (3, .int x3), (4, .int x4), (5, .int x5), (6, .int x6), (8, .int x8)] dX9_rests_138 (by decide) rfl ?_
              refine r_aload_n hc 1 dX9_rests_140 rfl ?_
              refine r_get (v := .ref (A 12)) hc iw_X9 0 rfl rfl 15 (by decide) mw_875 rfl dX9_rests_141 ?_
              refine r_iload hc 8 dX9_rests_144 rfl ?_
              refine r_iload hc 7 dX9_rests_146 rfl ?_
              refine r_iload hc 0 dX9_rests_148 rfl ?_
              obtain ⟨z_17, hf⟩ := nz_some hf
              refine r_idiv hc dX9_rests_150 z_17 ?_
              refine r_aload_n hc 1 dX9_rests_151 rfl ?_
              refine r_get (v := .int (M_rooms z)) hc iw_X9 0 rfl rfl 0 (by decide) mw_860 rfl dX9_rests_152 ?_
              obtain ⟨z_18, hf⟩ := nz_some hf
              refine r_irem hc dX9_rests_155 z_18 ?_
              obtain ⟨i_19, hf⟩ := chk_some hf
              obtain ⟨z156, ez156, hf⟩ := lt_some hf
              refine r_iast (f := (M_at z)) hc 12 rfl i_19 dX9_rests_156 _ rfl (wM cy A z156) (wM_s_at ez156) ?_
              exact V.sub [1, 2, 3, 4, 5, 6, 7, 0, 8] rfl (J157 z156 x1 x2 x3 x4 x5 x6 (x7 / (M_rooms z)) x8 hf)
      intro z x1 x2 x3 x4 x5 x6 hf
      replace hf : X9_rests_B99 (it X9_rests_B99 (fun _ _ _ _ _ _ _ => none) n99) z x1 x2 x3 x4 x5 x6 = some q := hf
      unfold X9_rests_B99 at hf
      refine r_iload hc 6 dX9_rests_99 rfl ?_
      refine r_iload_n hc 3 dX9_rests_101 rfl ?_
      refine r_icmp_ge hc 202 dX9_rests_102 (by decide) (fun c_8 => ?_) (fun c_8 => ?_)
      · have hf := o_pos c_8 hf
        refine r_iload_n hc 2 dX9_rests_202 rfl ?_
        refine r_if_ge hc 211 dX9_rests_203 (by decide) (fun c_9 => ?_) (fun c_9 => ?_)
        · have hf := o_pos c_9 hf
          refine r_iload hc 5 dX9_rests_211 rfl ?_
          exact r_iret hK (congrArg (fun z9 => z9.1) (Option.some.inj hf)) (congrArg (fun z9 => (wM cy A z9.2)) (Option.some.inj hf)) dX9_rests_213
        · have hf := o_neg c_9 hf
          refine r_iload hc 4 dX9_rests_206 rfl ?_
          refine r_goto hc 213 dX9_rests_208 (by decide) ?_
          exact r_iret hK (congrArg (fun z9 => z9.1) (Option.some.inj hf)) (congrArg (fun z9 => (wM cy A z9.2)) (Option.some.inj hf)) dX9_rests_213
      · have hf := o_neg c_8 hf
        refine r_aload_n hc 0 dX9_rests_105 rfl ?_
        obtain ⟨q106, hq106, hf⟩ := o_bind hf
        refine r_callVv (ws' := (wM cy A q106)) (As := []) (rest := []) hc (c_X9_asNow A z q106 hq106) kv_X9_asNow mw_1028 0 rfl rfl _ _ _ (Sp_all _ _) rfl rfl (Nat.le_of_ble_eq_true rfl) ⟨by decide, by decide⟩ dX9_rests_106 ?_
        refine r_iload_n hc 3 dX9_rests_109 rfl ?_
        refine r_istore hc [(7, .int x3), (0, .ref (A 0)), (1, .int x1), (2, .int x2), (3, .int x3), (4, .int x4), (5, .int x5), (6, .int x6)] dX9_rests_110 (by decide) rfl ?_
        refine r_iconst hc (0 : Int32) dX9_rests_112 rfl ?_
        refine r_istore hc [(8, .int (0 : Int32)), (7, .int x3), (0, .ref (A 0)), (1, .int x1), (2, .int x2), (3, .int x3), (4, .int x4), (5, .int x5), (6, .int x6)] dX9_rests_113 (by decide) rfl ?_
        exact V.sub [2, 3, 4, 5, 6, 7, 8, 1, 0] rfl (L115 FU q106 x1 x2 x3 x4 x5 x6 x3 (0 : Int32) hf)
  have L67 : ∀ (n67 : Nat) (z : MS) (x1 : Int32) (x2 : Int32) (x3 : Int32) (x4 : Int32), it X9_rests_B67 (fun _ _ _ _ _ => none) n67 z x1 x2 x3 x4 = some q → V K (wM cy A z) 67 [(0, .ref (A 0)), (1, .int x1), (2, .int x2), (3, .int x3), (4, .int x4)] [] := by
    intro n67
    induction n67 with
    | zero => intro z x1 x2 x3 x4 hf; exact (o_none hf).elim
    | succ n67 ih67 =>
      intro z x1 x2 x3 x4 hf
      replace hf : X9_rests_B67 (it X9_rests_B67 (fun _ _ _ _ _ => none) n67) z x1 x2 x3 x4 = some q := hf
      unfold X9_rests_B67 at hf
      refine r_iload hc 4 dX9_rests_67 rfl ?_
      refine r_iload_n hc 1 dX9_rests_69 rfl ?_
      obtain ⟨q70, hq70, hf⟩ := o_bind hf
      refine r_callSi (ws' := (wM cy A z)) (As := [.int x1]) (rest := [.int x4]) hc (c_X9_bits  x1 q70 hq70) ks_X9_bits mw_989 _ _ _ (Sp_none _) rfl rfl (Nat.le_of_ble_eq_true rfl) ⟨by decide, by decide⟩ dX9_rests_70 ?_
      refine r_icmp_ge hc 89 dX9_rests_73 (by decide) (fun c_7 => ?_) (fun c_7 => ?_)
      · have hf := o_pos c_7 hf
        refine r_iconst hc (0 : Int32) dX9_rests_89 rfl ?_
        refine r_istore hc [(4, .int (0 : Int32)), (0, .ref (A 0)), (1, .int x1), (2, .int x2), (3, .int x3)] dX9_rests_90 (by decide) rfl ?_
        refine r_bipush hc (-6 : Int32) dX9_rests_92 rfl ?_
        refine r_istore hc [(5, .int (-6 : Int32)), (4, .int (0 : Int32)), (0, .ref (A 0)), (1, .int x1), (2, .int x2), (3, .int x3)] dX9_rests_94 (by decide) rfl ?_
        refine r_iconst hc (0 : Int32) dX9_rests_96 rfl ?_
        refine r_istore hc [(6, .int (0 : Int32)), (5, .int (-6 : Int32)), (4, .int (0 : Int32)), (0, .ref (A 0)), (1, .int x1), (2, .int x2), (3, .int x3)] dX9_rests_97 (by decide) rfl ?_
        exact V.sub [3, 4, 5, 6, 2, 1, 0] rfl (L99 FU z x1 x2 x3 (0 : Int32) (-6 : Int32) (0 : Int32) hf)
      · have hf := o_neg c_7 hf
        refine r_iload_n hc 3 dX9_rests_76 rfl ?_
        refine r_aload_n hc 0 dX9_rests_77 rfl ?_
        refine r_get (v := .int (M_rooms z)) hc iw_X9 0 rfl rfl 0 (by decide) mw_860 rfl dX9_rests_78 ?_
        refine r_imul hc dX9_rests_81 ?_
        refine r_istore_n hc [(3, .int (x3 * (M_rooms z))), (0, .ref (A 0)), (1, .int x1), (2, .int x2), (4, .int x4)] dX9_rests_82 (by decide) rfl ?_
        refine r_iinc hc 4 [(4, .int (x4 + (1 : Int32))), (3, .int (x3 * (M_rooms z))), (0, .ref (A 0)), (1, .int x1), (2, .int x2)] (x4 + (1 : Int32)) dX9_rests_83 rfl rfl (by decide) rfl ?_
        refine r_goto hc 67 dX9_rests_86 (by decide) ?_
        exact V.sub [2, 3, 4, 1, 0] rfl (ih67 z x1 x2 (x3 * (M_rooms z)) (x4 + (1 : Int32)) hf)
  have J62 : ∀ (z : MS) (x1 : Int32) (x2 : Int32), X9_rests_J62  z x1 x2 = some q → V K (wM cy A z) 62 [(0, .ref (A 0)), (1, .int x1), (2, .int x2)] [] := by
    intro z x1 x2 hf
    unfold X9_rests_J62 at hf
    refine r_iconst hc (1 : Int32) dX9_rests_62 rfl ?_
    refine r_istore_n hc [(3, .int (1 : Int32)), (0, .ref (A 0)), (1, .int x1), (2, .int x2)] dX9_rests_63 (by decide) rfl ?_
    refine r_iconst hc (0 : Int32) dX9_rests_64 rfl ?_
    refine r_istore hc [(4, .int (0 : Int32)), (3, .int (1 : Int32)), (0, .ref (A 0)), (1, .int x1), (2, .int x2)] dX9_rests_65 (by decide) rfl ?_
    exact V.sub [2, 3, 4, 1, 0] rfl (L67 FU z x1 x2 (1 : Int32) (0 : Int32) hf)
  show V K (wM cy A z) 0 [(0, .ref (A 0)), (1, .int x1), (2, .int x2)] []
  unfold f_X9_rests at hf
  refine r_iload_n hc 1 dX9_rests_0 rfl ?_
  refine r_iconst hc (0 : Int32) dX9_rests_1 rfl ?_
  refine r_sipush hc (255 : Int32) dX9_rests_2 rfl ?_
  obtain ⟨q5, hq5, hf⟩ := o_bind hf
  refine r_callSi (ws' := (wM cy A z)) (As := [.int x1, .int (0 : Int32), .int (255 : Int32)]) (rest := []) hc (c_X9_in  x1 (0 : Int32) (255 : Int32) q5 hq5) ks_X9_in mw_955 _ _ _ (Sp_none _) rfl rfl (Nat.le_of_ble_eq_true rfl) ⟨by decide, by decide⟩ dX9_rests_5 ?_
  refine r_if_eq hc 22 dX9_rests_8 (by decide) (fun c_1 => ?_) (fun c_1 => ?_)
  · have hf := o_pos c_1 hf
    refine r_bipush hc (-2 : Int32) dX9_rests_22 rfl ?_
    exact r_iret hK (congrArg (fun z9 => z9.1) (Option.some.inj hf)) (congrArg (fun z9 => (wM cy A z9.2)) (Option.some.inj hf)) dX9_rests_24
  · have hf := o_neg c_1 hf
    refine r_iload_n hc 1 dX9_rests_11 rfl ?_
    refine r_aload_n hc 0 dX9_rests_12 rfl ?_
    refine r_get (v := .int (M_there z)) hc iw_X9 0 rfl rfl 5 (by decide) mw_865 rfl dX9_rests_13 ?_
    refine r_iconst hc (-1 : Int32) dX9_rests_16 rfl ?_
    refine r_ixor hc dX9_rests_17 ?_
    refine r_iand hc dX9_rests_18 ?_
    refine r_if_eq hc 25 dX9_rests_19 (by decide) (fun c_2 => ?_) (fun c_2 => ?_)
    · have hf := o_pos c_2 hf
      refine r_iload_n hc 1 dX9_rests_25 rfl ?_
      obtain ⟨q26, hq26, hf⟩ := o_bind hf
      refine r_callSi (ws' := (wM cy A z)) (As := [.int x1]) (rest := []) hc (c_X9_bits  x1 q26 hq26) ks_X9_bits mw_989 _ _ _ (Sp_none _) rfl rfl (Nat.le_of_ble_eq_true rfl) ⟨by decide, by decide⟩ dX9_rests_26 ?_
      refine r_bipush hc (6 : Int32) dX9_rests_29 rfl ?_
      refine r_icmp_le hc 37 dX9_rests_31 (by decide) (fun c_3 => ?_) (fun c_3 => ?_)
      · have hf := o_pos c_3 hf
        refine r_iload_n hc 2 dX9_rests_37 rfl ?_
        refine r_iconst hc (-1 : Int32) dX9_rests_38 rfl ?_
        refine r_icmp_eq hc 62 dX9_rests_39 (by decide) (fun c_4 => ?_) (fun c_4 => ?_)
        · have hf := o_pos c_4 hf
          exact V.sub [0, 1, 2] rfl (J62 z x1 x2 hf)
        · have hf := o_neg c_4 hf
          refine r_iload_n hc 2 dX9_rests_42 rfl ?_
          refine r_iconst hc (0 : Int32) dX9_rests_43 rfl ?_
          refine r_bipush hc (7 : Int32) dX9_rests_44 rfl ?_
          obtain ⟨q46, hq46, hf⟩ := o_bind hf
          refine r_callSi (ws' := (wM cy A z)) (As := [.int x2, .int (0 : Int32), .int (7 : Int32)]) (rest := []) hc (c_X9_in  x2 (0 : Int32) (7 : Int32) q46 hq46) ks_X9_in mw_955 _ _ _ (Sp_none _) rfl rfl (Nat.le_of_ble_eq_true rfl) ⟨by decide, by decide⟩ dX9_rests_46 ?_
          refine r_if_eq hc 60 dX9_rests_49 (by decide) (fun c_5 => ?_) (fun c_5 => ?_)
          · have hf := o_pos c_5 hf
            refine r_iconst hc (-1 : Int32) dX9_rests_60 rfl ?_
            exact r_iret hK (congrArg (fun z9 => z9.1) (Option.some.inj hf)) (congrArg (fun z9 => (wM cy A z9.2)) (Option.some.inj hf)) dX9_rests_61
          · have hf := o_neg c_5 hf
            refine r_iload_n hc 1 dX9_rests_52 rfl ?_
            refine r_iload_n hc 2 dX9_rests_53 rfl ?_
            obtain ⟨q54, hq54, hf⟩ := o_bind hf
            refine r_callSi (ws' := (wM cy A z)) (As := [.int x1, .int x2]) (rest := []) hc (c_X9_has  x1 x2 q54 hq54) ks_X9_has mw_970 _ _ _ (Sp_none _) rfl rfl (Nat.le_of_ble_eq_true rfl) ⟨by decide, by decide⟩ dX9_rests_54 ?_
            refine r_if_ne hc 62 dX9_rests_57 (by decide) (fun c_6 => ?_) (fun c_6 => ?_)
            · have hf := o_neg c_6 hf
              exact V.sub [0, 1, 2] rfl (J62 z x1 x2 hf)
            · have hf := o_pos c_6 hf
              refine r_iconst hc (-1 : Int32) dX9_rests_60 rfl ?_
              exact r_iret hK (congrArg (fun z9 => z9.1) (Option.some.inj hf)) (congrArg (fun z9 => (wM cy A z9.2)) (Option.some.inj hf)) dX9_rests_61
      · have hf := o_neg c_3 hf
        refine r_bipush hc (-4 : Int32) dX9_rests_34 rfl ?_
        exact r_iret hK (congrArg (fun z9 => z9.1) (Option.some.inj hf)) (congrArg (fun z9 => (wM cy A z9.2)) (Option.some.inj hf)) dX9_rests_36
    · have hf := o_neg c_2 hf
      refine r_bipush hc (-2 : Int32) dX9_rests_22 rfl ?_
      exact r_iret hK (congrArg (fun z9 => z9.1) (Option.some.inj hf)) (congrArg (fun z9 => (wM cy A z9.2)) (Option.some.inj hf)) dX9_rests_24
def X9_led_J284 (z : MS) (x5 : Int32) : Option (Int32 × MS) :=
  (some (x5, z))
def X9_led_J267 (k50 : MS → Int32 → Int32 → Int32 → Int32 → Int32 → Int32 → Option (Int32 × MS)) (z : MS) (x1 : Int32) (x2 : Int32) (x3 : Int32) (x4 : Int32) (x5 : Int32) (x6 : Int32) : Option (Int32 × MS) :=
  (k50 z x1 x2 x3 x4 x5 (x6 + (1 : Int32)))
def X9_led_J265 (k50 : MS → Int32 → Int32 → Int32 → Int32 → Int32 → Int32 → Option (Int32 × MS)) (z : MS) (x1 : Int32) (x2 : Int32) (x3 : Int32) (x4 : Int32) (x6 : Int32) (s0 : Int32) : Option (Int32 × MS) :=
  (X9_led_J267 k50 z x1 x2 x3 x4 s0 x6)
def X9_led_J234 (k50 : MS → Int32 → Int32 → Int32 → Int32 → Int32 → Int32 → Option (Int32 × MS)) (z : MS) (x1 : Int32) (x2 : Int32) (x3 : Int32) (x4 : Int32) (x5 : Int32) (x6 : Int32) (s0 : Int32) : Option (Int32 × MS) :=
  (if s0 = 0 then (X9_led_J267 k50 z x1 x2 x3 x4 x5 x6) else ((f_X9_goMinutes z x3).bind fun q243 => ((f_X9_crowdIn q243 x1).bind fun q248 => ((f_X9_bits q248).bind fun q251 => (if q251 < x2 then (X9_led_J265 k50 q243 x1 x2 x3 x4 x6 x5) else (X9_led_J265 k50 q243 x1 x2 x3 x4 x6 x6))))))
def X9_led_J233 (k50 : MS → Int32 → Int32 → Int32 → Int32 → Int32 → Int32 → Option (Int32 × MS)) (z : MS) (x1 : Int32) (x2 : Int32) (x3 : Int32) (x4 : Int32) (x5 : Int32) (x6 : Int32) : Option (Int32 × MS) :=
  (X9_led_J234 k50 z x1 x2 x3 x4 x5 x6 (0 : Int32))
def X9_led_J229 (k50 : MS → Int32 → Int32 → Int32 → Int32 → Int32 → Int32 → Option (Int32 × MS)) (z : MS) (x1 : Int32) (x2 : Int32) (x3 : Int32) (x4 : Int32) (x5 : Int32) (x6 : Int32) : Option (Int32 × MS) :=
  (X9_led_J234 k50 z x1 x2 x3 x4 x5 x6 (1 : Int32))
def X9_led_J203 (k50 : MS → Int32 → Int32 → Int32 → Int32 → Int32 → Int32 → Option (Int32 × MS)) (z : MS) (x1 : Int32) (x2 : Int32) (x3 : Int32) (x4 : Int32) (x5 : Int32) (x6 : Int32) (x7 : Int32) : Option (Int32 × MS) :=
  (if x7 = 0 then (X9_led_J233 k50 z x1 x2 x3 x4 x5 x6) else (if x6 = 0 then (X9_led_J229 k50 z x1 x2 x3 x4 x5 x6) else ((f_X9_countIn z x1 (-6 : Int32)).bind fun q217 => (chk x1 6 (if ((M_size z) (x1).toNatClampNeg) < q217 then (X9_led_J233 k50 z x1 x2 x3 x4 x5 x6) else (X9_led_J229 k50 z x1 x2 x3 x4 x5 x6))))))
def X9_led_J196 (k50 : MS → Int32 → Int32 → Int32 → Int32 → Int32 → Int32 → Option (Int32 × MS)) (k102 : MS → Int32 → Int32 → Int32 → Int32 → Int32 → Int32 → Int32 → Int32 → Option (Int32 × MS)) (z : MS) (x1 : Int32) (x2 : Int32) (x3 : Int32) (x4 : Int32) (x5 : Int32) (x6 : Int32) (x7 : Int32) (x8 : Int32) (s0 : Int32) (s1 : Int32) : Option (Int32 × MS) :=
  (chk s1 8 (ltA (M_set_busyNow z (upd (M_busyNow z) (s1).toNatClampNeg s0)) fun z196 => (k102 z196 x1 x2 x3 x4 x5 x6 x7 (x8 + (1 : Int32)))))
def X9_led_J168 (k50 : MS → Int32 → Int32 → Int32 → Int32 → Int32 → Int32 → Option (Int32 × MS)) (k102 : MS → Int32 → Int32 → Int32 → Int32 → Int32 → Int32 → Int32 → Int32 → Option (Int32 × MS)) (z : MS) (x1 : Int32) (x2 : Int32) (x3 : Int32) (x4 : Int32) (x5 : Int32) (x6 : Int32) (x7 : Int32) (x8 : Int32) (s0 : Int32) (s1 : Int32) : Option (Int32 × MS) :=
  (chk s1 8 (ltA (M_set_at z (upd (M_at z) (s1).toNatClampNeg s0)) fun z168 => ((f_X9_has x6 x8).bind fun q179 => (if q179 = 0 then (chk x8 8 (X9_led_J196 k50 k102 z168 x1 x2 x3 x4 x5 x6 x7 x8 ((M_busyNow z168) (x8).toNatClampNeg) x8)) else (X9_led_J196 k50 k102 z168 x1 x2 x3 x4 x5 x6 x7 x8 (2 : Int32) x8)))))
def X9_led_J139 (k50 : MS → Int32 → Int32 → Int32 → Int32 → Int32 → Int32 → Option (Int32 × MS)) (k102 : MS → Int32 → Int32 → Int32 → Int32 → Int32 → Int32 → Int32 → Int32 → Option (Int32 × MS)) (z : MS) (x1 : Int32) (x2 : Int32) (x3 : Int32) (x4 : Int32) (x5 : Int32) (x6 : Int32) (x8 : Int32) (s0 : Int32) : Option (Int32 × MS) :=
  ((f_X9_has x6 x8).bind fun q151 => (if q151 = 0 then (chk x8 8 (X9_led_J168 k50 k102 z x1 x2 x3 x4 x5 x6 s0 x8 ((M_at z) (x8).toNatClampNeg) x8)) else (X9_led_J168 k50 k102 z x1 x2 x3 x4 x5 x6 s0 x8 x1 x8)))
def X9_led_J134 (k50 : MS → Int32 → Int32 → Int32 → Int32 → Int32 → Int32 → Option (Int32 × MS)) (k102 : MS → Int32 → Int32 → Int32 → Int32 → Int32 → Int32 → Int32 → Int32 → Option (Int32 × MS)) (z : MS) (x1 : Int32) (x2 : Int32) (x3 : Int32) (x4 : Int32) (x5 : Int32) (x6 : Int32) (x8 : Int32) : Option (Int32 × MS) :=
  (X9_led_J139 k50 k102 z x1 x2 x3 x4 x5 x6 x8 (1 : Int32))
def X9_led_B102 (k50 : MS → Int32 → Int32 → Int32 → Int32 → Int32 → Int32 → Option (Int32 × MS)) (k102 : MS → Int32 → Int32 → Int32 → Int32 → Int32 → Int32 → Int32 → Int32 → Option (Int32 × MS)) (z : MS) (x1 : Int32) (x2 : Int32) (x3 : Int32) (x4 : Int32) (x5 : Int32) (x6 : Int32) (x7 : Int32) (x8 : Int32) : Option (Int32 × MS) :=
  (if (8 : Int32) ≤ x8 then (X9_led_J203 k50 z x1 x2 x3 x4 x5 x6 x7) else (if x7 = 0 then (X9_led_J203 k50 z x1 x2 x3 x4 x5 x6 x7) else ((f_X9_has x6 x8).bind fun q118 => (if q118 = 0 then (X9_led_J134 k50 k102 z x1 x2 x3 x4 x5 x6 x8) else (chk x8 8 (if ((M_busyNow z) (x8).toNatClampNeg) = 0 then (X9_led_J134 k50 k102 z x1 x2 x3 x4 x5 x6 x8) else (X9_led_J139 k50 k102 z x1 x2 x3 x4 x5 x6 x8 (0 : Int32))))))))
def X9_led_J93 (k50 : MS → Int32 → Int32 → Int32 → Int32 → Int32 → Int32 → Option (Int32 × MS)) (z : MS) (x1 : Int32) (x2 : Int32) (x3 : Int32) (x4 : Int32) (x5 : Int32) (x6 : Int32) (s0 : Int32) : Option (Int32 × MS) :=
  ((f_X9_asNow z).bind fun q96 => (it (X9_led_B102 k50) (fun _ _ _ _ _ _ _ _ _ => none) FU q96 x1 x2 x3 x4 x5 x6 s0 (0 : Int32)))
def X9_led_J92 (k50 : MS → Int32 → Int32 → Int32 → Int32 → Int32 → Int32 → Option (Int32 × MS)) (z : MS) (x1 : Int32) (x2 : Int32) (x3 : Int32) (x4 : Int32) (x5 : Int32) (x6 : Int32) : Option (Int32 × MS) :=
  (X9_led_J93 k50 z x1 x2 x3 x4 x5 x6 (0 : Int32))
def X9_led_J88 (k50 : MS → Int32 → Int32 → Int32 → Int32 → Int32 → Int32 → Option (Int32 × MS)) (z : MS) (x1 : Int32) (x2 : Int32) (x3 : Int32) (x4 : Int32) (x5 : Int32) (x6 : Int32) : Option (Int32 × MS) :=
  (X9_led_J93 k50 z x1 x2 x3 x4 x5 x6 (1 : Int32))
def X9_led_B50 (k50 : MS → Int32 → Int32 → Int32 → Int32 → Int32 → Int32 → Option (Int32 × MS)) (z : MS) (x1 : Int32) (x2 : Int32) (x3 : Int32) (x4 : Int32) (x5 : Int32) (x6 : Int32) : Option (Int32 × MS) :=
  (if (256 : Int32) ≤ x6 then (if x5 < 0 then (X9_led_J284 z x5) else (if x4 = (1 : Int32) then (X9_led_J284 z x5) else ((f_X9_bits x5).bind fun q291 => (some (q291, z))))) else (if (x6 &&& ((M_there z) ^^^ (-1 : Int32))) = 0 then (if x5 < 0 then (X9_led_J88 k50 z x1 x2 x3 x4 x5 x6) else ((f_X9_bits x6).bind fun q77 => ((f_X9_bits x5).bind fun q82 => (if q82 ≤ q77 then (X9_led_J92 k50 z x1 x2 x3 x4 x5 x6) else (X9_led_J88 k50 z x1 x2 x3 x4 x5 x6))))) else (X9_led_J92 k50 z x1 x2 x3 x4 x5 x6)))
def f_X9_led (z : MS) (x1 : Int32) (x2 : Int32) (x3 : Int32) (x4 : Int32) : Option (Int32 × MS) :=
  ((f_X9_isRoom z x1).bind fun q2 => (if q2 = 0 then (some ((-1 : Int32), z)) else ((f_X9_in x2 (1 : Int32) (8 : Int32)).bind fun q14 => (if q14 = 0 then (some ((-2 : Int32), z)) else ((f_X9_in x3 (0 : Int32) (20 : Int32)).bind fun q24 => (if q24 = 0 then (some ((-2 : Int32), z)) else ((f_X9_in x4 (0 : Int32) (1 : Int32)).bind fun q34 => (if q34 = 0 then (some ((-2 : Int32), z)) else (it X9_led_B50 (fun _ _ _ _ _ _ _ => none) FU z x1 x2 x3 x4 (-6 : Int32) (0 : Int32))))))))))
theorem kv_X9_led : KV RX9 yX9_led cX9_led 9 (some .int) 4 := ⟨mw_1180, mw_1181, mw_65, mw_1182, by decide +kernel⟩
set_option maxHeartbeats 8000000 in
set_option maxRecDepth 100000 in
theorem c_X9_led {l : Launch} {E : va_G} {cy : Nat → ClassId} (A : Nat → Nat) (z : MS) (x1 : Int32) (x2 : Int32) (x3 : Int32) (x4 : Int32) (q : Int32 × MS) (hf : f_X9_led z x1 x2 x3 x4 = some q) : Ci l yX9_led cX9_led 9 (some .int) 7 205 E cy [.ref (A 0), .int x1, .int x2, .int x3, .int x4] (wM cy A z) q.1 (wM cy A q.2) := by
  refine Ci.of RX9 (by decide) rfl (Nat.le_of_ble_eq_true rfl) ?_
  intro K hK
  have hc := hK.cq
  have J284 : ∀ (z : MS) (x5 : Int32), X9_led_J284  z x5 = some q → V K (wM cy A z) 284 [(5, .int x5)] [] := by
    intro z x5 hf
    unfold X9_led_J284 at hf
    refine r_iload hc 0 dX9_led_284 rfl ?_
    refine r_goto hc 294 dX9_led_286 (by decide) ?_
    exact r_iret hK (congrArg (fun z9 => z9.1) (Option.some.inj hf)) (congrArg (fun z9 => (wM cy A z9.2)) (Option.some.inj hf)) dX9_led_294
  have L50 : ∀ (n50 : Nat) (z : MS) (x1 : Int32) (x2 : Int32) (x3 : Int32) (x4 : Int32) (x5 : Int32) (x6 : Int32), it X9_led_B50 (fun _ _ _ _ _ _ _ => none) n50 z x1 x2 x3 x4 x5 x6 = some q → V K (wM cy A z) 50 [(0, .ref (A 0)), (1, .int x1), (2, .int x2), (3, .int x3), (4, .int x4), (5, .int x5), (6, .int x6)] [] := by
    intro n50
    induction n50 with
    | zero => intro z x1 x2 x3 x4 x5 x6 hf; exact (o_none hf).elim
    | succ n50 ih50 =>
      have J267 : ∀ (z : MS) (x1 : Int32) (x2 : Int32) (x3 : Int32) (x4 : Int32) (x5 : Int32) (x6 : Int32), X9_led_J267 (it X9_led_B50 (fun _ _ _ _ _ _ _ => none) n50) z x1 x2 x3 x4 x5 x6 = some q → V K (wM cy A z) 267 [(0, .ref (A 0)), (1, .int x1), (2, .int x2), (3, .int x3), (4, .int x4), (5, .int x5), (6, .int x6)] [] := by
        intro z x1 x2 x3 x4 x5 x6 hf
        unfold X9_led_J267 at hf
        refine r_iinc hc 6 [(6, .int (x6 + (1 : Int32))), (0, .ref (A 0)), (1, .int x1), (2, .int x2), (3, .int x3), (4, .int x4), (5, .int x5)] (x6 + (1 : Int32)) dX9_led_267 rfl rfl (by decide) rfl ?_
        refine r_goto hc 50 dX9_led_270 (by decide) ?_
        exact V.sub [1, 2, 3, 4, 5, 6, 0] rfl (ih50 z x1 x2 x3 x4 x5 (x6 + (1 : Int32)) hf)
      have J265 : ∀ (z : MS) (x1 : Int32) (x2 : Int32) (x3 : Int32) (x4 : Int32) (x6 : Int32) (s0 : Int32), X9_led_J265 (it X9_led_B50 (fun _ _ _ _ _ _ _ => none) n50) z x1 x2 x3 x4 x6 s0 = some q → V K (wM cy A z) 265 [(0, .ref (A 0)), (1, .int x1), (2, .int x2), (3, .int x3), (4, .int x4), (6, .int x6)] [.int s0] := by
        intro z x1 x2 x3 x4 x6 s0 hf
        unfold X9_led_J265 at hf
        refine r_istore hc [(5, .int s0), (0, .ref (A 0)), (1, .int x1), (2, .int x2), (3, .int x3), (4, .int x4), (6, .int x6)] dX9_led_265 (by decide) rfl ?_
        exact V.sub [1, 2, 3, 4, 5, 0, 6] rfl (J267 z x1 x2 x3 x4 s0 x6 hf)
      have J234 : ∀ (z : MS) (x1 : Int32) (x2 : Int32) (x3 : Int32) (x4 : Int32) (x5 : Int32) (x6 : Int32) (s0 : Int32), X9_led_J234 (it X9_led_B50 (fun _ _ _ _ _ _ _ => none) n50) z x1 x2 x3 x4 x5 x6 s0 = some q → V K (wM cy A z) 234 [(0, .ref (A 0)), (1, .int x1), (2, .int x2), (3, .int x3), (4, .int x4), (5, .int x5), (6, .int x6)] [.int s0] := by
        intro z x1 x2 x3 x4 x5 x6 s0 hf
        unfold X9_led_J234 at hf
        refine r_istore hc [(7, .int s0), (0, .ref (A 0)), (1, .int x1), (2, .int x2), (3, .int x3), (4, .int x4), (5, .int x5), (6, .int x6)] dX9_led_234 (by decide) rfl ?_
        refine r_iload hc 0 dX9_led_236 rfl ?_
        refine r_if_eq hc 267 dX9_led_238 (by decide) (fun c_26 => ?_) (fun c_26 => ?_)
        · have hf := o_pos c_26 hf
          exact V.sub [1, 2, 3, 4, 5, 6, 7] rfl (J267 z x1 x2 x3 x4 x5 x6 hf)
        · have hf := o_neg c_26 hf
          refine r_aload_n hc 1 dX9_led_241 rfl ?_
          refine r_iload_n hc 4 dX9_led_242 rfl ?_
          obtain ⟨q243, hq243, hf⟩ := o_bind hf
          refine r_callVv (ws' := (wM cy A q243)) (As := [.int x3]) (rest := []) hc (c_X9_goMinutes A z x3 q243 hq243) kv_X9_goMinutes mw_1120 0 rfl rfl _ _ _ (Sp_all _ _) rfl rfl (Nat.le_of_ble_eq_true rfl) ⟨by decide, by decide⟩ dX9_led_243 ?_
          refine r_aload_n hc 1 dX9_led_246 rfl ?_
          refine r_iload_n hc 2 dX9_led_247 rfl ?_
          obtain ⟨q248, hq248, hf⟩ := o_bind hf
          refine r_callVi (ws' := (wM cy A q243)) (As := [.int x1]) (rest := []) hc (c_X9_crowdIn A q243 x1 q248 hq248) kv_X9_crowdIn mw_1128 0 rfl rfl _ _ _ (Sp_all _ _) rfl rfl (Nat.le_of_ble_eq_true rfl) ⟨by decide, by decide⟩ dX9_led_248 ?_
          obtain ⟨q251, hq251, hf⟩ := o_bind hf
          refine r_callSi (ws' := (wM cy A q243)) (As := [.int q248]) (rest := []) hc (c_X9_bits  q248 q251 hq251) ks_X9_bits mw_989 _ _ _ (Sp_none _) rfl rfl (Nat.le_of_ble_eq_true rfl) ⟨by decide, by decide⟩ dX9_led_251 ?_
          refine r_iload_n hc 3 dX9_led_254 rfl ?_
          refine r_icmp_lt hc 263 dX9_led_255 (by decide) (fun c_27 => ?_) (fun c_27 => ?_)
          · have hf := o_pos c_27 hf
            refine r_iload hc 6 dX9_led_263 rfl ?_
            exact V.sub [1, 2, 3, 4, 5, 7] rfl (J265 q243 x1 x2 x3 x4 x6 x5 hf)
          · have hf := o_neg c_27 hf
            refine r_iload hc 7 dX9_led_258 rfl ?_
            refine r_goto hc 265 dX9_led_260 (by decide) ?_
            exact V.sub [1, 2, 3, 4, 5, 7] rfl (J265 q243 x1 x2 x3 x4 x6 x6 hf)
      have J233 : ∀ (z : MS) (x1 : Int32) (x2 : Int32) (x3 : Int32) (x4 : Int32) (x5 : Int32) (x6 : Int32), X9_led_J233 (it X9_led_B50 (fun _ _ _ _ _ _ _ => none) n50) z x1 x2 x3 x4 x5 x6 = some q → V K (wM cy A z) 233 [(0, .ref (A 0)), (1, .int x1), (2, .int x2), (3, .int x3), (4, .int x4), (5, .int x5), (6, .int x6)] [] := by
        intro z x1 x2 x3 x4 x5 x6 hf
        unfold X9_led_J233 at hf
        refine r_iconst hc (0 : Int32) dX9_led_233 rfl ?_
        exact V.sub [0, 1, 2, 3, 4, 5, 6] rfl (J234 z x1 x2 x3 x4 x5 x6 (0 : Int32) hf)
      have J229 : ∀ (z : MS) (x1 : Int32) (x2 : Int32) (x3 : Int32) (x4 : Int32) (x5 : Int32) (x6 : Int32), X9_led_J229 (it X9_led_B50 (fun _ _ _ _ _ _ _ => none) n50) z x1 x2 x3 x4 x5 x6 = some q → V K (wM cy A z) 229 [(0, .ref (A 0)), (1, .int x1), (2, .int x2), (3, .int x3), (4, .int x4), (5, .int x5), (6, .int x6)] [] := by
        intro z x1 x2 x3 x4 x5 x6 hf
        unfold X9_led_J229 at hf
        refine r_iconst hc (1 : Int32) dX9_led_229 rfl ?_
        refine r_goto hc 234 dX9_led_230 (by decide) ?_
        exact V.sub [0, 1, 2, 3, 4, 5, 6] rfl (J234 z x1 x2 x3 x4 x5 x6 (1 : Int32) hf)
      have J203 : ∀ (z : MS) (x1 : Int32) (x2 : Int32) (x3 : Int32) (x4 : Int32) (x5 : Int32) (x6 : Int32) (x7 : Int32), X9_led_J203 (it X9_led_B50 (fun _ _ _ _ _ _ _ => none) n50) z x1 x2 x3 x4 x5 x6 x7 = some q → V K (wM cy A z) 203 [(0, .ref (A 0)), (1, .int x1), (2, .int x2), (3, .int x3), (4, .int x4), (5, .int x5), (6, .int x6), (7, .int x7)] [] := by
        intro z x1 x2 x3 x4 x5 x6 x7 hf
        unfold X9_led_J203 at hf
        refine r_iload hc 7 dX9_led_203 rfl ?_
        refine r_if_eq hc 233 dX9_led_205 (by decide) (fun c_22 => ?_) (fun c_22 => ?_)
        · have hf := o_pos c_22 hf
          exact V.sub [0, 1, 2, 3, 4, 5, 6] rfl (J233 z x1 x2 x3 x4 x5 x6 hf)
        · have hf := o_neg c_22 hf
          refine r_iload hc 6 dX9_led_208 rfl ?_
          refine r_if_eq hc 229 dX9_led_210 (by decide) (fun c_23 => ?_) (fun c_23 => ?_)
          · have hf := o_pos c_23 hf
            exact V.sub [0, 1, 2, 3, 4, 5, 6] rfl (J229 z x1 x2 x3 x4 x5 x6 hf)
          · have hf := o_neg c_23 hf
            refine r_aload_n hc 0 dX9_led_213 rfl ?_
            refine r_iload_n hc 1 dX9_led_214 rfl ?_
            refine r_bipush hc (-6 : Int32) dX9_led_215 rfl ?_
            obtain ⟨q217, hq217, hf⟩ := o_bind hf
            refine r_callVi (ws' := (wM cy A z)) (As := [.int x1, .int (-6 : Int32)]) (rest := []) hc (c_X9_countIn A z x1 (-6 : Int32) q217 hq217) kv_X9_countIn mw_1048 0 rfl rfl _ _ _ (Sp_all _ _) rfl rfl (Nat.le_of_ble_eq_true rfl) ⟨by decide, by decide⟩ dX9_led_217 ?_
            refine r_aload_n hc 0 dX9_led_220 rfl ?_
            refine r_get (v := .ref (A 2)) hc iw_X9 0 rfl rfl 2 (by decide) mw_862 rfl dX9_led_221 ?_
            refine r_iload_n hc 1 dX9_led_224 rfl ?_
            obtain ⟨i_24, hf⟩ := chk_some hf
            refine r_iald (f := (M_size z)) hc 2 rfl i_24 dX9_led_225 ?_
            refine r_icmp_gt hc 233 dX9_led_226 (by decide) (fun c_25 => ?_) (fun c_25 => ?_)
            · have hf := o_pos c_25 hf
              exact V.sub [0, 1, 2, 3, 4, 5, 6] rfl (J233 z x1 x2 x3 x4 x5 x6 hf)
            · have hf := o_neg c_25 hf
              exact V.sub [0, 1, 2, 3, 4, 5, 6] rfl (J229 z x1 x2 x3 x4 x5 x6 hf)
      have L102 : ∀ (n102 : Nat) (z : MS) (x1 : Int32) (x2 : Int32) (x3 : Int32) (x4 : Int32) (x5 : Int32) (x6 : Int32) (x7 : Int32) (x8 : Int32), it (X9_led_B102 (it X9_led_B50 (fun _ _ _ _ _ _ _ => none) n50)) (fun _ _ _ _ _ _ _ _ _ => none) n102 z x1 x2 x3 x4 x5 x6 x7 x8 = some q → V K (wM cy A z) 102 [(0, .ref (A 0)), (1, .int x1), (2, .int x2), (3, .int x3), (4, .int x4), (5, .int x5), (6, .int x6), (7, .int x7), (8, .int x8)] [] := by
        intro n102
        induction n102 with
        | zero => intro z x1 x2 x3 x4 x5 x6 x7 x8 hf; exact (o_none hf).elim
        | succ n102 ih102 =>
          have J196 : ∀ (z : MS) (x1 : Int32) (x2 : Int32) (x3 : Int32) (x4 : Int32) (x5 : Int32) (x6 : Int32) (x7 : Int32) (x8 : Int32) (s0 : Int32) (s1 : Int32), X9_led_J196 (it X9_led_B50 (fun _ _ _ _ _ _ _ => none) n50) (it (X9_led_B102 (it X9_led_B50 (fun _ _ _ _ _ _ _ => none) n50)) (fun _ _ _ _ _ _ _ _ _ => none) n102) z x1 x2 x3 x4 x5 x6 x7 x8 s0 s1 = some q → V K (wM cy A z) 196 [(0, .ref (A 0)), (1, .int x1), (2, .int x2), (3, .int x3), (4, .int x4), (5, .int x5), (6, .int x6), (7, .int x7), (8, .int x8)] [.int s0, .int s1, .ref (A 13)] := by
            intro z x1 x2 x3 x4 x5 x6 x7 x8 s0 s1 hf
            unfold X9_led_J196 at hf
            obtain ⟨i_21, hf⟩ := chk_some hf
            obtain ⟨z196, ez196, hf⟩ := lt_some hf
            refine r_iast (f := (M_busyNow z)) hc 13 rfl i_21 dX9_led_196 _ rfl (wM cy A z196) (wM_s_busyNow ez196) ?_
            refine r_iinc hc 8 [(8, .int (x8 + (1 : Int32))), (0, .ref (A 0)), (1, .int x1), (2, .int x2), (3, .int x3), (4, .int x4), (5, .int x5), (6, .int x6), (7, .int x7)] (x8 + (1 : Int32)) dX9_led_197 rfl rfl (by decide) rfl ?_
            refine r_goto hc 102 dX9_led_200 (by decide) ?_
            exact V.sub [1, 2, 3, 4, 5, 6, 7, 8, 0] rfl (ih102 z196 x1 x2 x3 x4 x5 x6 x7 (x8 + (1 : Int32)) hf)
          have J168 : ∀ (z : MS) (x1 : Int32) (x2 : Int32) (x3 : Int32) (x4 : Int32) (x5 : Int32) (x6 : Int32) (x7 : Int32) (x8 : Int32) (s0 : Int32) (s1 : Int32), X9_led_J168 (it X9_led_B50 (fun _ _ _ _ _ _ _ => none) n50) (it (X9_led_B102 (it X9_led_B50 (fun _ _ _ _ _ _ _ => none) n50)) (fun _ _ _ _ _ _ _ _ _ => none) n102) z x1 x2 x3 x4 x5 x6 x7 x8 s0 s1 = some q → V K (wM cy A z) 168 [(0, .ref (A 0)), (1, .int x1), (2, .int x2), (3, .int x3), (4, .int x4), (5, .int x5), (6, .int x6), (7, .int x7), (8, .int x8)] [.int s0, .int s1, .ref (A 12)] := by
            intro z x1 x2 x3 x4 x5 x6 x7 x8 s0 s1 hf
            unfold X9_led_J168 at hf
            obtain ⟨i_18, hf⟩ := chk_some hf
            obtain ⟨z168, ez168, hf⟩ := lt_some hf
            refine r_iast (f := (M_at z)) hc 12 rfl i_18 dX9_led_168 _ rfl (wM cy A z168) (wM_s_at ez168) ?_
            refine r_aload_n hc 0 dX9_led_169 rfl ?_
            refine r_get (v := .ref (A 13)) hc iw_X9 0 rfl rfl 16 (by decide) mw_876 rfl dX9_led_170 ?_
            refine r_iload hc 8 dX9_led_173 rfl ?_
            refine r_iload hc 6 dX9_led_175 rfl ?_
            refine r_iload hc 8 dX9_led_177 rfl ?_
            obtain ⟨q179, hq179, hf⟩ := o_bind hf
            refine r_callSi (ws' := (wM cy A z168)) (As := [.int x6, .int x8]) (rest := [.int x8, .ref (A 13)]) hc (c_X9_has  x6 x8 q179 hq179) ks_X9_has mw_970 _ _ _ (Sp_none _) rfl rfl (Nat.le_of_ble_eq_true rfl) ⟨by decide, by decide⟩ dX9_led_179 ?_
            refine r_if_eq hc 189 dX9_led_182 (by decide) (fun c_19 => ?_) (fun c_19 => ?_)
            · have hf := o_pos c_19 hf
              refine r_aload_n hc 0 dX9_led_189 rfl ?_
              refine r_get (v := .ref (A 13)) hc iw_X9 0 rfl rfl 16 (by decide) mw_876 rfl dX9_led_190 ?_
              refine r_iload hc 8 dX9_led_193 rfl ?_
              obtain ⟨i_20, hf⟩ := chk_some hf
              refine r_iald (f := (M_busyNow z168)) hc 13 rfl i_20 dX9_led_195 ?_
              exact V.sub [0, 1, 2, 3, 4, 5, 6, 7, 8] rfl (J196 z168 x1 x2 x3 x4 x5 x6 x7 x8 ((M_busyNow z168) (x8).toNatClampNeg) x8 hf)
            · have hf := o_neg c_19 hf
              refine r_iconst hc (2 : Int32) dX9_led_185 rfl ?_
              refine r_goto hc 196 dX9_led_186 (by decide) ?_
              exact V.sub [0, 1, 2, 3, 4, 5, 6, 7, 8] rfl (J196 z168 x1 x2 x3 x4 x5 x6 x7 x8 (2 : Int32) x8 hf)
          have J139 : ∀ (z : MS) (x1 : Int32) (x2 : Int32) (x3 : Int32) (x4 : Int32) (x5 : Int32) (x6 : Int32) (x8 : Int32) (s0 : Int32), X9_led_J139 (it X9_led_B50 (fun _ _ _ _ _ _ _ => none) n50) (it (X9_led_B102 (it X9_led_B50 (fun _ _ _ _ _ _ _ => none) n50)) (fun _ _ _ _ _ _ _ _ _ => none) n102) z x1 x2 x3 x4 x5 x6 x8 s0 = some q → V K (wM cy A z) 139 [(0, .ref (A 0)), (1, .int x1), (2, .int x2), (3, .int x3), (4, .int x4), (5, .int x5), (6, .int x6), (8, .int x8)] [.int s0] := by
            intro z x1 x2 x3 x4 x5 x6 x8 s0 hf
            unfold X9_led_J139 at hf
            refine r_istore hc [(7, .int s0), (0, .ref (A 0)), (1, .int x1), (2, .int x2), (3, .int x3), (4, .int x4), (5, .int x5), (6, .int x6), (8, .int x8)] dX9_led_139 (by decide) rfl ?_
            refine r_aload_n hc 1 dX9_led_141 rfl ?_
            refine r_get (v := .ref (A 12)) hc iw_X9 0 rfl rfl 15 (by decide) mw_875 rfl dX9_led_142 ?_
            refine r_iload hc 8 dX9_led_145 rfl ?_
            refine r_iload hc 7 dX9_led_147 rfl ?_
            refine r_iload hc 8 dX9_led_149 rfl ?_
            obtain ⟨q151, hq151, hf⟩ := o_bind hf
            refine r_callSi (ws' := (wM cy A z)) (As := [.int x6, .int x8]) (rest := [.int x8, .ref (A 12)]) hc (c_X9_has  x6 x8 q151 hq151) ks_X9_has mw_970 _ _ _ (Sp_none _) rfl rfl (Nat.le_of_ble_eq_true rfl) ⟨by decide, by decide⟩ dX9_led_151 ?_
            refine r_if_eq hc 161 dX9_led_154 (by decide) (fun c_16 => ?_) (fun c_16 => ?_)
            · have hf := o_pos c_16 hf
              refine r_aload_n hc 1 dX9_led_161 rfl ?_
              refine r_get (v := .ref (A 12)) hc iw_X9 0 rfl rfl 15 (by decide) mw_875 rfl dX9_led_162 ?_
              refine r_iload hc 8 dX9_led_165 rfl ?_
              obtain ⟨i_17, hf⟩ := chk_some hf
              refine r_iald (f := (M_at z)) hc 12 rfl i_17 dX9_led_167 ?_
              exact V.sub [1, 2, 3, 4, 5, 6, 7, 0, 8] rfl (J168 z x1 x2 x3 x4 x5 x6 s0 x8 ((M_at z) (x8).toNatClampNeg) x8 hf)
            · have hf := o_neg c_16 hf
              refine r_iload_n hc 2 dX9_led_157 rfl ?_
              refine r_goto hc 168 dX9_led_158 (by decide) ?_
              exact V.sub [1, 2, 3, 4, 5, 6, 7, 0, 8] rfl (J168 z x1 x2 x3 x4 x5 x6 s0 x8 x1 x8 hf)
          have J134 : ∀ (z : MS) (x1 : Int32) (x2 : Int32) (x3 : Int32) (x4 : Int32) (x5 : Int32) (x6 : Int32) (x8 : Int32), X9_led_J134 (it X9_led_B50 (fun _ _ _ _ _ _ _ => none) n50) (it (X9_led_B102 (it X9_led_B50 (fun _ _ _ _ _ _ _ => none) n50)) (fun _ _ _ _ _ _ _ _ _ => none) n102) z x1 x2 x3 x4 x5 x6 x8 = some q → V K (wM cy A z) 134 [(0, .ref (A 0)), (1, .int x1), (2, .int x2), (3, .int x3), (4, .int x4), (5, .int x5), (6, .int x6), (8, .int x8)] [] := by
            intro z x1 x2 x3 x4 x5 x6 x8 hf
            unfold X9_led_J134 at hf
            refine r_iconst hc (1 : Int32) dX9_led_134 rfl ?_
            refine r_goto hc 139 dX9_led_135 (by decide) ?_
            exact V.sub [0, 1, 2, 3, 4, 5, 6, 7] rfl (J139 z x1 x2 x3 x4 x5 x6 x8 (1 : Int32) hf)
          intro z x1 x2 x3 x4 x5 x6 x7 x8 hf
          replace hf : X9_led_B102 (it X9_led_B50 (fun _ _ _ _ _ _ _ => none) n50) (it (X9_led_B102 (it X9_led_B50 (fun _ _ _ _ _ _ _ => none) n50)) (fun _ _ _ _ _ _ _ _ _ => none) n102) z x1 x2 x3 x4 x5 x6 x7 x8 = some q := hf
          unfold X9_led_B102 at hf
          refine r_iload hc 8 dX9_led_102 rfl ?_
          refine r_bipush hc (8 : Int32) dX9_led_104 rfl ?_
          refine r_icmp_ge hc 203 dX9_led_106 (by decide) (fun c_11 => ?_) (fun c_11 => ?_)
          · have hf := o_pos c_11 hf
            exact V.sub [0, 1, 2, 3, 4, 5, 6, 7] rfl (J203 z x1 x2 x3 x4 x5 x6 x7 hf)
          · have hf := o_neg c_11 hf
            refine r_iload hc 7 dX9_led_109 rfl ?_
            refine r_if_eq hc 203 dX9_led_111 (by decide) (fun c_12 => ?_) (fun c_12 => ?_)
            · have hf := o_pos c_12 hf
              exact V.sub [0, 1, 2, 3, 4, 5, 6, 7] rfl (J203 z x1 x2 x3 x4 x5 x6 x7 hf)
            · have hf := o_neg c_12 hf
              refine r_iload hc 6 dX9_led_114 rfl ?_
              refine r_iload hc 8 dX9_led_116 rfl ?_
              obtain ⟨q118, hq118, hf⟩ := o_bind hf
              refine r_callSi (ws' := (wM cy A z)) (As := [.int x6, .int x8]) (rest := []) hc (c_X9_has  x6 x8 q118 hq118) ks_X9_has mw_970 _ _ _ (Sp_none _) rfl rfl (Nat.le_of_ble_eq_true rfl) ⟨by decide, by decide⟩ dX9_led_118 ?_
              refine r_if_eq hc 134 dX9_led_121 (by decide) (fun c_13 => ?_) (fun c_13 => ?_)
              · have hf := o_pos c_13 hf
                exact V.sub [0, 1, 2, 3, 4, 5, 6, 8] rfl (J134 z x1 x2 x3 x4 x5 x6 x8 hf)
              · have hf := o_neg c_13 hf
                refine r_aload_n hc 0 dX9_led_124 rfl ?_
                refine r_get (v := .ref (A 13)) hc iw_X9 0 rfl rfl 16 (by decide) mw_876 rfl dX9_led_125 ?_
                refine r_iload hc 8 dX9_led_128 rfl ?_
                obtain ⟨i_14, hf⟩ := chk_some hf
                refine r_iald (f := (M_busyNow z)) hc 13 rfl i_14 dX9_led_130 ?_
                refine r_if_ne hc 138 dX9_led_131 (by decide) (fun c_15 => ?_) (fun c_15 => ?_)
                · have hf := o_neg c_15 hf
                  refine r_iconst hc (0 : Int32) dX9_led_138 rfl ?_
                  exact V.sub [0, 1, 2, 3, 4, 5, 6, 8] rfl (J139 z x1 x2 x3 x4 x5 x6 x8 (0 : Int32) hf)
                · have hf := o_pos c_15 hf
                  exact V.sub [0, 1, 2, 3, 4, 5, 6, 8] rfl (J134 z x1 x2 x3 x4 x5 x6 x8 hf)
      have J93 : ∀ (z : MS) (x1 : Int32) (x2 : Int32) (x3 : Int32) (x4 : Int32) (x5 : Int32) (x6 : Int32) (s0 : Int32), X9_led_J93 (it X9_led_B50 (fun _ _ _ _ _ _ _ => none) n50) z x1 x2 x3 x4 x5 x6 s0 = some q → V K (wM cy A z) 93 [(0, .ref (A 0)), (1, .int x1), (2, .int x2), (3, .int x3), (4, .int x4), (5, .int x5), (6, .int x6)] [.int s0] := by
        intro z x1 x2 x3 x4 x5 x6 s0 hf
        unfold X9_led_J93 at hf
        refine r_istore hc [(7, .int s0), (0, .ref (A 0)), (1, .int x1), (2, .int x2), (3, .int x3), (4, .int x4), (5, .int x5), (6, .int x6)] dX9_led_93 (by decide) rfl ?_
        refine r_aload_n hc 1 dX9_led_95 rfl ?_
        obtain ⟨q96, hq96, hf⟩ := o_bind hf
        refine r_callVv (ws' := (wM cy A q96)) (As := []) (rest := []) hc (c_X9_asNow A z q96 hq96) kv_X9_asNow mw_1028 0 rfl rfl _ _ _ (Sp_all _ _) rfl rfl (Nat.le_of_ble_eq_true rfl) ⟨by decide, by decide⟩ dX9_led_96 ?_
        refine r_iconst hc (0 : Int32) dX9_led_99 rfl ?_
        refine r_istore hc [(8, .int (0 : Int32)), (7, .int s0), (0, .ref (A 0)), (1, .int x1), (2, .int x2), (3, .int x3), (4, .int x4), (5, .int x5), (6, .int x6)] dX9_led_100 (by decide) rfl ?_
        exact V.sub [2, 3, 4, 5, 6, 7, 8, 1, 0] rfl (L102 FU q96 x1 x2 x3 x4 x5 x6 s0 (0 : Int32) hf)
      have J92 : ∀ (z : MS) (x1 : Int32) (x2 : Int32) (x3 : Int32) (x4 : Int32) (x5 : Int32) (x6 : Int32), X9_led_J92 (it X9_led_B50 (fun _ _ _ _ _ _ _ => none) n50) z x1 x2 x3 x4 x5 x6 = some q → V K (wM cy A z) 92 [(0, .ref (A 0)), (1, .int x1), (2, .int x2), (3, .int x3), (4, .int x4), (5, .int x5), (6, .int x6)] [] := by
        intro z x1 x2 x3 x4 x5 x6 hf
        unfold X9_led_J92 at hf
        refine r_iconst hc (0 : Int32) dX9_led_92 rfl ?_
        exact V.sub [0, 1, 2, 3, 4, 5, 6] rfl (J93 z x1 x2 x3 x4 x5 x6 (0 : Int32) hf)
      have J88 : ∀ (z : MS) (x1 : Int32) (x2 : Int32) (x3 : Int32) (x4 : Int32) (x5 : Int32) (x6 : Int32), X9_led_J88 (it X9_led_B50 (fun _ _ _ _ _ _ _ => none) n50) z x1 x2 x3 x4 x5 x6 = some q → V K (wM cy A z) 88 [(0, .ref (A 0)), (1, .int x1), (2, .int x2), (3, .int x3), (4, .int x4), (5, .int x5), (6, .int x6)] [] := by
        intro z x1 x2 x3 x4 x5 x6 hf
        unfold X9_led_J88 at hf
        refine r_iconst hc (1 : Int32) dX9_led_88 rfl ?_
        refine r_goto hc 93 dX9_led_89 (by decide) ?_
        exact V.sub [0, 1, 2, 3, 4, 5, 6] rfl (J93 z x1 x2 x3 x4 x5 x6 (1 : Int32) hf)
      intro z x1 x2 x3 x4 x5 x6 hf
      replace hf : X9_led_B50 (it X9_led_B50 (fun _ _ _ _ _ _ _ => none) n50) z x1 x2 x3 x4 x5 x6 = some q := hf
      unfold X9_led_B50 at hf
      refine r_iload hc 6 dX9_led_50 rfl ?_
      refine r_sipush hc (256 : Int32) dX9_led_52 rfl ?_
      refine r_icmp_ge hc 273 dX9_led_55 (by decide) (fun c_5 => ?_) (fun c_5 => ?_)
      · have hf := o_pos c_5 hf
        refine r_iload hc 5 dX9_led_273 rfl ?_
        refine r_if_lt hc 284 dX9_led_275 (by decide) (fun c_6 => ?_) (fun c_6 => ?_)
        · have hf := o_pos c_6 hf
          exact V.sub [5] rfl (J284 z x5 hf)
        · have hf := o_neg c_6 hf
          refine r_iload hc 4 dX9_led_278 rfl ?_
          refine r_iconst hc (1 : Int32) dX9_led_280 rfl ?_
          refine r_icmp_ne hc 289 dX9_led_281 (by decide) (fun c_7 => ?_) (fun c_7 => ?_)
          · have hf := o_neg c_7 hf
            refine r_iload hc 5 dX9_led_289 rfl ?_
            obtain ⟨q291, hq291, hf⟩ := o_bind hf
            refine r_callSi (ws' := (wM cy A z)) (As := [.int x5]) (rest := []) hc (c_X9_bits  x5 q291 hq291) ks_X9_bits mw_989 _ _ _ (Sp_none _) rfl rfl (Nat.le_of_ble_eq_true rfl) ⟨by decide, by decide⟩ dX9_led_291 ?_
            exact r_iret hK (congrArg (fun z9 => z9.1) (Option.some.inj hf)) (congrArg (fun z9 => (wM cy A z9.2)) (Option.some.inj hf)) dX9_led_294
          · have hf := o_pos c_7 hf
            exact V.sub [5] rfl (J284 z x5 hf)
      · have hf := o_neg c_5 hf
        refine r_iload hc 6 dX9_led_58 rfl ?_
        refine r_aload_n hc 0 dX9_led_60 rfl ?_
        refine r_get (v := .int (M_there z)) hc iw_X9 0 rfl rfl 5 (by decide) mw_865 rfl dX9_led_61 ?_
        refine r_iconst hc (-1 : Int32) dX9_led_64 rfl ?_
        refine r_ixor hc dX9_led_65 ?_
        refine r_iand hc dX9_led_66 ?_
        refine r_if_ne hc 92 dX9_led_67 (by decide) (fun c_8 => ?_) (fun c_8 => ?_)
        · have hf := o_neg c_8 hf
          exact V.sub [0, 1, 2, 3, 4, 5, 6] rfl (J92 z x1 x2 x3 x4 x5 x6 hf)
        · have hf := o_pos c_8 hf
          refine r_iload hc 5 dX9_led_70 rfl ?_
          refine r_if_lt hc 88 dX9_led_72 (by decide) (fun c_9 => ?_) (fun c_9 => ?_)
          · have hf := o_pos c_9 hf
            exact V.sub [0, 1, 2, 3, 4, 5, 6] rfl (J88 z x1 x2 x3 x4 x5 x6 hf)
          · have hf := o_neg c_9 hf
            refine r_iload hc 6 dX9_led_75 rfl ?_
            obtain ⟨q77, hq77, hf⟩ := o_bind hf
            refine r_callSi (ws' := (wM cy A z)) (As := [.int x6]) (rest := []) hc (c_X9_bits  x6 q77 hq77) ks_X9_bits mw_989 _ _ _ (Sp_none _) rfl rfl (Nat.le_of_ble_eq_true rfl) ⟨by decide, by decide⟩ dX9_led_77 ?_
            refine r_iload hc 5 dX9_led_80 rfl ?_
            obtain ⟨q82, hq82, hf⟩ := o_bind hf
            refine r_callSi (ws' := (wM cy A z)) (As := [.int x5]) (rest := [.int q77]) hc (c_X9_bits  x5 q82 hq82) ks_X9_bits mw_989 _ _ _ (Sp_none _) rfl rfl (Nat.le_of_ble_eq_true rfl) ⟨by decide, by decide⟩ dX9_led_82 ?_
            refine r_icmp_ge hc 92 dX9_led_85 (by decide) (fun c_10 => ?_) (fun c_10 => ?_)
            · have hf := o_pos c_10 hf
              exact V.sub [0, 1, 2, 3, 4, 5, 6] rfl (J92 z x1 x2 x3 x4 x5 x6 hf)
            · have hf := o_neg c_10 hf
              exact V.sub [0, 1, 2, 3, 4, 5, 6] rfl (J88 z x1 x2 x3 x4 x5 x6 hf)
  show V K (wM cy A z) 0 [(0, .ref (A 0)), (1, .int x1), (2, .int x2), (3, .int x3), (4, .int x4)] []
  unfold f_X9_led at hf
  refine r_aload_n hc 0 dX9_led_0 rfl ?_
  refine r_iload_n hc 1 dX9_led_1 rfl ?_
  obtain ⟨q2, hq2, hf⟩ := o_bind hf
  refine r_callVi (ws' := (wM cy A z)) (As := [.int x1]) (rest := []) hc (c_X9_isRoom A z x1 q2 hq2) kv_X9_isRoom mw_962 0 rfl rfl _ _ _ (Sp_all _ _) rfl rfl (Nat.le_of_ble_eq_true rfl) ⟨by decide, by decide⟩ dX9_led_2 ?_
  refine r_if_ne hc 10 dX9_led_5 (by decide) (fun c_1 => ?_) (fun c_1 => ?_)
  · have hf := o_neg c_1 hf
    refine r_iload_n hc 2 dX9_led_10 rfl ?_
    refine r_iconst hc (1 : Int32) dX9_led_11 rfl ?_
    refine r_bipush hc (8 : Int32) dX9_led_12 rfl ?_
    obtain ⟨q14, hq14, hf⟩ := o_bind hf
    refine r_callSi (ws' := (wM cy A z)) (As := [.int x2, .int (1 : Int32), .int (8 : Int32)]) (rest := []) hc (c_X9_in  x2 (1 : Int32) (8 : Int32) q14 hq14) ks_X9_in mw_955 _ _ _ (Sp_none _) rfl rfl (Nat.le_of_ble_eq_true rfl) ⟨by decide, by decide⟩ dX9_led_14 ?_
    refine r_if_eq hc 40 dX9_led_17 (by decide) (fun c_2 => ?_) (fun c_2 => ?_)
    · have hf := o_pos c_2 hf
      refine r_bipush hc (-2 : Int32) dX9_led_40 rfl ?_
      exact r_iret hK (congrArg (fun z9 => z9.1) (Option.some.inj hf)) (congrArg (fun z9 => (wM cy A z9.2)) (Option.some.inj hf)) dX9_led_42
    · have hf := o_neg c_2 hf
      refine r_iload_n hc 3 dX9_led_20 rfl ?_
      refine r_iconst hc (0 : Int32) dX9_led_21 rfl ?_
      refine r_bipush hc (20 : Int32) dX9_led_22 rfl ?_
      obtain ⟨q24, hq24, hf⟩ := o_bind hf
      refine r_callSi (ws' := (wM cy A z)) (As := [.int x3, .int (0 : Int32), .int (20 : Int32)]) (rest := []) hc (c_X9_in  x3 (0 : Int32) (20 : Int32) q24 hq24) ks_X9_in mw_955 _ _ _ (Sp_none _) rfl rfl (Nat.le_of_ble_eq_true rfl) ⟨by decide, by decide⟩ dX9_led_24 ?_
      refine r_if_eq hc 40 dX9_led_27 (by decide) (fun c_3 => ?_) (fun c_3 => ?_)
      · have hf := o_pos c_3 hf
        refine r_bipush hc (-2 : Int32) dX9_led_40 rfl ?_
        exact r_iret hK (congrArg (fun z9 => z9.1) (Option.some.inj hf)) (congrArg (fun z9 => (wM cy A z9.2)) (Option.some.inj hf)) dX9_led_42
      · have hf := o_neg c_3 hf
        refine r_iload hc 4 dX9_led_30 rfl ?_
        refine r_iconst hc (0 : Int32) dX9_led_32 rfl ?_
        refine r_iconst hc (1 : Int32) dX9_led_33 rfl ?_
        obtain ⟨q34, hq34, hf⟩ := o_bind hf
        refine r_callSi (ws' := (wM cy A z)) (As := [.int x4, .int (0 : Int32), .int (1 : Int32)]) (rest := []) hc (c_X9_in  x4 (0 : Int32) (1 : Int32) q34 hq34) ks_X9_in mw_955 _ _ _ (Sp_none _) rfl rfl (Nat.le_of_ble_eq_true rfl) ⟨by decide, by decide⟩ dX9_led_34 ?_
        refine r_if_ne hc 43 dX9_led_37 (by decide) (fun c_4 => ?_) (fun c_4 => ?_)
        · have hf := o_neg c_4 hf
          refine r_bipush hc (-6 : Int32) dX9_led_43 rfl ?_
          refine r_istore hc [(5, .int (-6 : Int32)), (0, .ref (A 0)), (1, .int x1), (2, .int x2), (3, .int x3), (4, .int x4)] dX9_led_45 (by decide) rfl ?_
          refine r_iconst hc (0 : Int32) dX9_led_47 rfl ?_
          refine r_istore hc [(6, .int (0 : Int32)), (5, .int (-6 : Int32)), (0, .ref (A 0)), (1, .int x1), (2, .int x2), (3, .int x3), (4, .int x4)] dX9_led_48 (by decide) rfl ?_
          exact V.sub [2, 3, 4, 5, 6, 1, 0] rfl (L50 FU z x1 x2 x3 x4 (-6 : Int32) (0 : Int32) hf)
        · have hf := o_pos c_4 hf
          refine r_bipush hc (-2 : Int32) dX9_led_40 rfl ?_
          exact r_iret hK (congrArg (fun z9 => z9.1) (Option.some.inj hf)) (congrArg (fun z9 => (wM cy A z9.2)) (Option.some.inj hf)) dX9_led_42
  · have hf := o_pos c_1 hf
    refine r_iconst hc (-1 : Int32) dX9_led_8 rfl ?_
    exact r_iret hK (congrArg (fun z9 => z9.1) (Option.some.inj hf)) (congrArg (fun z9 => (wM cy A z9.2)) (Option.some.inj hf)) dX9_led_9
