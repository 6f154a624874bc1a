def X9_goParty_J258 (k11 : MS → Int32 → Option (Int32 × MS)) (z : MS) (x1 : Int32) : Option (Int32 × MS) :=
  (if (M_reason z) ≤ 0 then (ltA (M_set_events z ((M_events z) + (1 : Int32))) fun z277 => (k11 z277 x1)) else (some ((M_events z), z)))
def X9_goParty_J255 (k11 : MS → Int32 → Option (Int32 × MS)) (z : MS) (x1 : Int32) : Option (Int32 × MS) :=
  (X9_goParty_J258 k11 z (x1 + (2 : Int32)))
def X9_goParty_J206 (k11 : MS → Int32 → Option (Int32 × MS)) (z : MS) (x1 : Int32) : Option (Int32 × MS) :=
  (X9_goParty_J258 k11 z (x1 + (3 : Int32)))
def X9_goParty_J122 (k11 : MS → Int32 → Option (Int32 × MS)) (z : MS) (x1 : Int32) : Option (Int32 × MS) :=
  (X9_goParty_J258 k11 z (x1 + (3 : Int32)))
def X9_goParty_B11 (k11 : MS → Int32 → Option (Int32 × MS)) (z : MS) (x1 : Int32) : Option (Int32 × MS) :=
  (if (M_signs z) ≤ x1 then (some ((-6 : Int32), z)) else (chk x1 60 (ltA (M_set_reason z (0 : Int32)) fun z28 => (if ((M_pad z) (x1).toNatClampNeg) = (46 : Int32) then ((f_X9_pass z28).bind fun q38 => (X9_goParty_J258 k11 q38.2 (x1 + (1 : Int32)))) else ((f_X9_in ((M_pad z) (x1).toNatClampNeg) (97 : Int32) (102 : Int32)).bind fun q53 => (if q53 = 0 then (chk (x1 + (1 : Int32)) 60 ((f_X9_in ((M_pad z28) ((x1 + (1 : Int32))).toNatClampNeg) (65 : Int32) (72 : Int32)).bind fun q140 => (if q140 = 0 then (chk (x1 + (1 : Int32)) 60 ((f_X9_whyNotDo z28 (((M_pad z) (x1).toNatClampNeg) - (65 : Int32)) ((M_pad z28) ((x1 + (1 : Int32))).toNatClampNeg)).bind fun q226 => (ltA (M_set_reason z28 q226) fun z229 => (if (M_reason z229) = 0 then (chk (x1 + (1 : Int32)) 60 ((f_X9_act z229 (((M_pad z) (x1).toNatClampNeg) - (65 : Int32)) ((M_pad z229) ((x1 + (1 : Int32))).toNatClampNeg)).bind fun q252 => (X9_goParty_J255 k11 q252 x1))) else (X9_goParty_J255 k11 z229 x1))))) else (chk (x1 + (1 : Int32)) 60 ((f_X9_whyNotTalk z28 (((M_pad z) (x1).toNatClampNeg) - (65 : Int32)) (((M_pad z28) ((x1 + (1 : Int32))).toNatClampNeg) - (65 : Int32))).bind fun q163 => (ltA (M_set_reason z28 q163) fun z166 => (if (M_reason z166) = 0 then (chk (x1 + (1 : Int32)) 60 (chk (x1 + (2 : Int32)) 60 ((f_X9_talk z166 (((M_pad z) (x1).toNatClampNeg) - (65 : Int32)) (((M_pad z166) ((x1 + (1 : Int32))).toNatClampNeg) - (65 : Int32)) (((M_pad z166) ((x1 + (2 : Int32))).toNatClampNeg) - (48 : Int32))).bind fun q203 => (X9_goParty_J206 k11 q203 x1)))) else (X9_goParty_J206 k11 z166 x1)))))))) else (chk (x1 + (2 : Int32)) 60 (chk (x1 + (1 : Int32)) 60 ((f_X9_whyNotCarry z28 (((M_pad z) (x1).toNatClampNeg) - (97 : Int32)) (((M_pad z28) ((x1 + (1 : Int32))).toNatClampNeg) - (97 : Int32)) (((M_pad z28) ((x1 + (2 : Int32))).toNatClampNeg) - (48 : Int32))).bind fun q89 => (ltA (M_set_reason z28 q89) fun z92 => (if (M_reason z92) = 0 then (chk (x1 + (1 : Int32)) 60 ((f_X9_carry z92 (((M_pad z) (x1).toNatClampNeg) - (97 : Int32)) (((M_pad z92) ((x1 + (1 : Int32))).toNatClampNeg) - (97 : Int32)) (((M_pad z28) ((x1 + (2 : Int32))).toNatClampNeg) - (48 : Int32))).bind fun q119 => (X9_goParty_J122 k11 q119 x1))) else (X9_goParty_J122 k11 z92 x1))))))))))))
def f_X9_goParty (z : MS) : Option (Int32 × MS) :=
  ((f_X9_asNow z).bind fun q1 => (ltA (M_set_events q1 (0 : Int32)) fun z6 => (it X9_goParty_B11 (fun _ _ => none) FU z6 (0 : Int32))))
theorem kv_X9_goParty : KV RX9 yX9_goParty cX9_goParty 4 (some .int) 0 := ⟨mw_1026, mw_30, mw_65, mw_1027, by decide +kernel⟩
set_option maxHeartbeats 8000000 in
set_option maxRecDepth 100000 in
theorem c_X9_goParty {l : Launch} {E : va_G} {cy : Nat → ClassId} (A : Nat → Nat) (z : MS) (q : Int32 × MS) (hf : f_X9_goParty z = some q) : Ci l yX9_goParty cX9_goParty 4 (some .int) 6 183 E cy [.ref (A 0)] (wM cy A z) q.1 (wM cy A q.2) := by
  refine Ci.of RX9 (by decide) rfl (Nat.le_of_ble_eq_true rfl) ?_
  intro K hK
  have hc := hK.cq
  have L11 : ∀ (n11 : Nat) (z : MS) (x1 : Int32), it X9_goParty_B11 (fun _ _ => none) n11 z x1 = some q → V K (wM cy A z) 11 [(0, .ref (A 0)), (1, .int x1)] [] := by
    intro n11
    induction n11 with
    | zero => intro z x1 hf; exact (o_none hf).elim
    | succ n11 ih11 =>
      have J258 : ∀ (z : MS) (x1 : Int32), X9_goParty_J258 (it X9_goParty_B11 (fun _ _ => none) n11) z x1 = some q → V K (wM cy A z) 258 [(0, .ref (A 0)), (1, .int x1)] [] := by
        intro z x1 hf
        unfold X9_goParty_J258 at hf
        refine r_aload_n hc 0 dX9_goParty_258 rfl ?_
        refine r_get (v := .int (M_reason z)) hc iw_X9 0 rfl rfl 22 (by decide) mw_882 rfl dX9_goParty_259 ?_
        refine r_if_le hc 270 dX9_goParty_262 (by decide) (fun c_18 => ?_) (fun c_18 => ?_)
        · have hf := o_pos c_18 hf
          refine r_aload_n hc 0 dX9_goParty_270 rfl ?_
          refine r_dup hc dX9_goParty_271 rfl ?_
          refine r_get (v := .int (M_events z)) hc iw_X9 0 rfl rfl 23 (by decide) mw_883 rfl dX9_goParty_272 ?_
          refine r_iconst hc (1 : Int32) dX9_goParty_275 rfl ?_
          refine r_iadd hc dX9_goParty_276 ?_
          obtain ⟨z277, ez277, hf⟩ := lt_some hf
          refine r_put hc iw_X9 tyX9 tyX9_ok nmX9 0 rfl rfl 23 (by decide) mw_883 rfl rfl rfl (Nat.le_of_ble_eq_true rfl) dX9_goParty_277 (wM cy A z277) (wM_s_events ez277) ?_
          refine r_goto hc 11 dX9_goParty_280 (by decide) ?_
          exact V.sub [0, 1] rfl (ih11 z277 x1 hf)
        · have hf := o_neg c_18 hf
          refine r_aload_n hc 0 dX9_goParty_265 rfl ?_
          refine r_get (v := .int (M_events z)) hc iw_X9 0 rfl rfl 23 (by decide) mw_883 rfl dX9_goParty_266 ?_
          exact r_iret hK (congrArg (fun z9 => z9.1) (Option.some.inj hf)) (congrArg (fun z9 => (wM cy A z9.2)) (Option.some.inj hf)) dX9_goParty_269
      have J255 : ∀ (z : MS) (x1 : Int32), X9_goParty_J255 (it X9_goParty_B11 (fun _ _ => none) n11) z x1 = some q → V K (wM cy A z) 255 [(0, .ref (A 0)), (1, .int x1)] [] := by
        intro z x1 hf
        unfold X9_goParty_J255 at hf
        refine r_iinc hc 1 [(1, .int (x1 + (2 : Int32))), (0, .ref (A 0))] (x1 + (2 : Int32)) dX9_goParty_255 rfl rfl (by decide) rfl ?_
        exact V.sub [1, 0] rfl (J258 z (x1 + (2 : Int32)) hf)
      have J206 : ∀ (z : MS) (x1 : Int32), X9_goParty_J206 (it X9_goParty_B11 (fun _ _ => none) n11) z x1 = some q → V K (wM cy A z) 206 [(0, .ref (A 0)), (1, .int x1)] [] := by
        intro z x1 hf
        unfold X9_goParty_J206 at hf
        refine r_iinc hc 1 [(1, .int (x1 + (3 : Int32))), (0, .ref (A 0))] (x1 + (3 : Int32)) dX9_goParty_206 rfl rfl (by decide) rfl ?_
        refine r_goto hc 258 dX9_goParty_209 (by decide) ?_
        exact V.sub [1, 0] rfl (J258 z (x1 + (3 : Int32)) hf)
      have J122 : ∀ (z : MS) (x1 : Int32), X9_goParty_J122 (it X9_goParty_B11 (fun _ _ => none) n11) z x1 = some q → V K (wM cy A z) 122 [(0, .ref (A 0)), (1, .int x1)] [] := by
        intro z x1 hf
        unfold X9_goParty_J122 at hf
        refine r_iinc hc 1 [(1, .int (x1 + (3 : Int32))), (0, .ref (A 0))] (x1 + (3 : Int32)) dX9_goParty_122 rfl rfl (by decide) rfl ?_
        refine r_goto hc 258 dX9_goParty_125 (by decide) ?_
        exact V.sub [1, 0] rfl (J258 z (x1 + (3 : Int32)) hf)
      intro z x1 hf
      replace hf : X9_goParty_B11 (it X9_goParty_B11 (fun _ _ => none) n11) z x1 = some q := hf
      unfold X9_goParty_B11 at hf
      refine r_iload_n hc 1 dX9_goParty_11 rfl ?_
      refine r_aload_n hc 0 dX9_goParty_12 rfl ?_
      refine r_get (v := .int (M_signs z)) hc iw_X9 0 rfl rfl 13 (by decide) mw_873 rfl dX9_goParty_13 ?_
      refine r_icmp_ge hc 283 dX9_goParty_16 (by decide) (fun c_1 => ?_) (fun c_1 => ?_)
      · have hf := o_pos c_1 hf
        refine r_bipush hc (-6 : Int32) dX9_goParty_283 rfl ?_
        exact r_iret hK (congrArg (fun z9 => z9.1) (Option.some.inj hf)) (congrArg (fun z9 => (wM cy A z9.2)) (Option.some.inj hf)) dX9_goParty_285
      · have hf := o_neg c_1 hf
        refine r_aload_n hc 0 dX9_goParty_19 rfl ?_
        refine r_get (v := .ref (A 11)) hc iw_X9 0 rfl rfl 14 (by decide) mw_874 rfl dX9_goParty_20 ?_
        refine r_iload_n hc 1 dX9_goParty_23 rfl ?_
        obtain ⟨i_2, hf⟩ := chk_some hf
        refine r_iald (f := (M_pad z)) hc 11 rfl i_2 dX9_goParty_24 ?_
        refine r_istore_n hc [(2, .int ((M_pad z) (x1).toNatClampNeg)), (0, .ref (A 0)), (1, .int x1)] dX9_goParty_25 (by decide) rfl ?_
        refine r_aload_n hc 1 dX9_goParty_26 rfl ?_
        refine r_iconst hc (0 : Int32) dX9_goParty_27 rfl ?_
        obtain ⟨z28, ez28, hf⟩ := lt_some hf
        refine r_put hc iw_X9 tyX9 tyX9_ok nmX9 0 rfl rfl 22 (by decide) mw_882 rfl rfl rfl (Nat.le_of_ble_eq_true rfl) dX9_goParty_28 (wM cy A z28) (wM_s_reason ez28) ?_
        refine r_iload_n hc 0 dX9_goParty_31 rfl ?_
        refine r_bipush hc (46 : Int32) dX9_goParty_32 rfl ?_
        refine r_icmp_ne hc 48 dX9_goParty_34 (by decide) (fun c_3 => ?_) (fun c_3 => ?_)
        · have hf := o_neg c_3 hf
          refine r_iload_n hc 0 dX9_goParty_48 rfl ?_
          refine r_bipush hc (97 : Int32) dX9_goParty_49 rfl ?_
          refine r_bipush hc (102 : Int32) dX9_goParty_51 rfl ?_
          obtain ⟨q53, hq53, hf⟩ := o_bind hf
          refine r_callSi (ws' := (wM cy A z28)) (As := [.int ((M_pad z) (x1).toNatClampNeg), .int (97 : Int32), .int (102 : Int32)]) (rest := []) hc (c_X9_in  ((M_pad z) (x1).toNatClampNeg) (97 : Int32) (102 : Int32) q53 hq53) ks_X9_in mw_955 _ _ _ (Sp_none _) rfl rfl (Nat.le_of_ble_eq_true rfl) ⟨by decide, by decide⟩ dX9_goParty_53 ?_
          refine r_if_eq hc 128 dX9_goParty_56 (by decide) (fun c_4 => ?_) (fun c_4 => ?_)
          · have hf := o_pos c_4 hf
            refine r_aload_n hc 1 dX9_goParty_128 rfl ?_
            refine r_get (v := .ref (A 11)) hc iw_X9 0 rfl rfl 14 (by decide) mw_874 rfl dX9_goParty_129 ?_
            refine r_iload_n hc 2 dX9_goParty_132 rfl ?_
            refine r_iconst hc (1 : Int32) dX9_goParty_133 rfl ?_
            refine r_iadd hc dX9_goParty_134 ?_
            obtain ⟨i_5, hf⟩ := chk_some hf
            refine r_iald (f := (M_pad z28)) hc 11 rfl i_5 dX9_goParty_135 ?_
            refine r_bipush hc (65 : Int32) dX9_goParty_136 rfl ?_
            refine r_bipush hc (72 : Int32) dX9_goParty_138 rfl ?_
            obtain ⟨q140, hq140, hf⟩ := o_bind hf
            refine r_callSi (ws' := (wM cy A z28)) (As := [.int ((M_pad z28) ((x1 + (1 : Int32))).toNatClampNeg), .int (65 : Int32), .int (72 : Int32)]) (rest := []) hc (c_X9_in  ((M_pad z28) ((x1 + (1 : Int32))).toNatClampNeg) (65 : Int32) (72 : Int32) q140 hq140) ks_X9_in mw_955 _ _ _ (Sp_none _) rfl rfl (Nat.le_of_ble_eq_true rfl) ⟨by decide, by decide⟩ dX9_goParty_140 ?_
            refine r_if_eq hc 212 dX9_goParty_143 (by decide) (fun c_6 => ?_) (fun c_6 => ?_)
            · have hf := o_pos c_6 hf
              refine r_aload_n hc 1 dX9_goParty_212 rfl ?_
              refine r_aload_n hc 1 dX9_goParty_213 rfl ?_
              refine r_iload_n hc 0 dX9_goParty_214 rfl ?_
              refine r_bipush hc (65 : Int32) dX9_goParty_215 rfl ?_
              refine r_isub hc dX9_goParty_217 ?_
              refine r_aload_n hc 1 dX9_goParty_218 rfl ?_
              refine r_get (v := .ref (A 11)) hc iw_X9 0 rfl rfl 14 (by decide) mw_874 rfl dX9_goParty_219 ?_
              refine r_iload_n hc 2 dX9_goParty_222 rfl ?_
              refine r_iconst hc (1 : Int32) dX9_goParty_223 rfl ?_
              refine r_iadd hc dX9_goParty_224 ?_
              obtain ⟨i_7, hf⟩ := chk_some hf
              refine r_iald (f := (M_pad z28)) hc 11 rfl i_7 dX9_goParty_225 ?_
              obtain ⟨q226, hq226, hf⟩ := o_bind hf
              refine r_callVi (ws' := (wM cy A z28)) (As := [.int (((M_pad z) (x1).toNatClampNeg) - (65 : Int32)), .int ((M_pad z28) ((x1 + (1 : Int32))).toNatClampNeg)]) (rest := [.ref (A 0)]) hc (c_X9_whyNotDo A z28 (((M_pad z) (x1).toNatClampNeg) - (65 : Int32)) ((M_pad z28) ((x1 + (1 : Int32))).toNatClampNeg) q226 hq226) kv_X9_whyNotDo mw_1076 0 rfl rfl _ _ _ (Sp_all _ _) rfl rfl (Nat.le_of_ble_eq_true rfl) ⟨by decide, by decide⟩ dX9_goParty_226 ?_
              obtain ⟨z229, ez229, hf⟩ := lt_some hf
              refine r_put hc iw_X9 tyX9 tyX9_ok nmX9 0 rfl rfl 22 (by decide) mw_882 rfl rfl rfl (Nat.le_of_ble_eq_true rfl) dX9_goParty_229 (wM cy A z229) (wM_s_reason ez229) ?_
              refine r_aload_n hc 1 dX9_goParty_232 rfl ?_
              refine r_get (v := .int (M_reason z229)) hc iw_X9 0 rfl rfl 22 (by decide) mw_882 rfl dX9_goParty_233 ?_
              refine r_if_ne hc 255 dX9_goParty_236 (by decide) (fun c_8 => ?_) (fun c_8 => ?_)
              · have hf := o_neg c_8 hf
                exact V.sub [1, 2] rfl (J255 z229 x1 hf)
              · have hf := o_pos c_8 hf
                refine r_aload_n hc 1 dX9_goParty_239 rfl ?_
                refine r_iload_n hc 0 dX9_goParty_240 rfl ?_
                refine r_bipush hc (65 : Int32) dX9_goParty_241 rfl ?_
                refine r_isub hc dX9_goParty_243 ?_
                refine r_aload_n hc 1 dX9_goParty_244 rfl ?_
                refine r_get (v := .ref (A 11)) hc iw_X9 0 rfl rfl 14 (by decide) mw_874 rfl dX9_goParty_245 ?_
                refine r_iload_n hc 2 dX9_goParty_248 rfl ?_
                refine r_iconst hc (1 : Int32) dX9_goParty_249 rfl ?_
                refine r_iadd hc dX9_goParty_250 ?_
                obtain ⟨i_9, hf⟩ := chk_some hf
                refine r_iald (f := (M_pad z229)) hc 11 rfl i_9 dX9_goParty_251 ?_
                obtain ⟨q252, hq252, hf⟩ := o_bind hf
                refine r_callVv (ws' := (wM cy A q252)) (As := [.int (((M_pad z) (x1).toNatClampNeg) - (65 : Int32)), .int ((M_pad z229) ((x1 + (1 : Int32))).toNatClampNeg)]) (rest := []) hc (c_X9_act A z229 (((M_pad z) (x1).toNatClampNeg) - (65 : Int32)) ((M_pad z229) ((x1 + (1 : Int32))).toNatClampNeg) q252 hq252) kv_X9_act mw_1084 0 rfl rfl _ _ _ (Sp_all _ _) rfl rfl (Nat.le_of_ble_eq_true rfl) ⟨by decide, by decide⟩ dX9_goParty_252 ?_
                exact V.sub [1, 2] rfl (J255 q252 x1 hf)
            · have hf := o_neg c_6 hf
              refine r_aload_n hc 1 dX9_goParty_146 rfl ?_
              refine r_aload_n hc 1 dX9_goParty_147 rfl ?_
              refine r_iload_n hc 0 dX9_goParty_148 rfl ?_
              refine r_bipush hc (65 : Int32) dX9_goParty_149 rfl ?_
              refine r_isub hc dX9_goParty_151 ?_
              refine r_aload_n hc 1 dX9_goParty_152 rfl ?_
              refine r_get (v := .ref (A 11)) hc iw_X9 0 rfl rfl 14 (by decide) mw_874 rfl dX9_goParty_153 ?_
              refine r_iload_n hc 2 dX9_goParty_156 rfl ?_
              refine r_iconst hc (1 : Int32) dX9_goParty_157 rfl ?_
              refine r_iadd hc dX9_goParty_158 ?_
              obtain ⟨i_10, hf⟩ := chk_some hf
              refine r_iald (f := (M_pad z28)) hc 11 rfl i_10 dX9_goParty_159 ?_
              refine r_bipush hc (65 : Int32) dX9_goParty_160 rfl ?_
              refine r_isub hc dX9_goParty_162 ?_
              obtain ⟨q163, hq163, hf⟩ := o_bind hf
              refine r_callVi (ws' := (wM cy A z28)) (As := [.int (((M_pad z) (x1).toNatClampNeg) - (65 : Int32)), .int (((M_pad z28) ((x1 + (1 : Int32))).toNatClampNeg) - (65 : Int32))]) (rest := [.ref (A 0)]) hc (c_X9_whyNotTalk A z28 (((M_pad z) (x1).toNatClampNeg) - (65 : Int32)) (((M_pad z28) ((x1 + (1 : Int32))).toNatClampNeg) - (65 : Int32)) q163 hq163) kv_X9_whyNotTalk mw_1064 0 rfl rfl _ _ _ (Sp_all _ _) rfl rfl (Nat.le_of_ble_eq_true rfl) ⟨by decide, by decide⟩ dX9_goParty_163 ?_
              obtain ⟨z166, ez166, hf⟩ := lt_some hf
              refine r_put hc iw_X9 tyX9 tyX9_ok nmX9 0 rfl rfl 22 (by decide) mw_882 rfl rfl rfl (Nat.le_of_ble_eq_true rfl) dX9_goParty_166 (wM cy A z166) (wM_s_reason ez166) ?_
              refine r_aload_n hc 1 dX9_goParty_169 rfl ?_
              refine r_get (v := .int (M_reason z166)) hc iw_X9 0 rfl rfl 22 (by decide) mw_882 rfl dX9_goParty_170 ?_
              refine r_if_ne hc 206 dX9_goParty_173 (by decide) (fun c_11 => ?_) (fun c_11 => ?_)
              · have hf := o_neg c_11 hf
                exact V.sub [1, 2] rfl (J206 z166 x1 hf)
              · have hf := o_pos c_11 hf
                refine r_aload_n hc 1 dX9_goParty_176 rfl ?_
                refine r_iload_n hc 0 dX9_goParty_177 rfl ?_
                refine r_bipush hc (65 : Int32) dX9_goParty_178 rfl ?_
                refine r_isub hc dX9_goParty_180 ?_
                refine r_aload_n hc 1 dX9_goParty_181 rfl ?_
                refine r_get (v := .ref (A 11)) hc iw_X9 0 rfl rfl 14 (by decide) mw_874 rfl dX9_goParty_182 ?_
                refine r_iload_n hc 2 dX9_goParty_185 rfl ?_
                refine r_iconst hc (1 : Int32) dX9_goParty_186 rfl ?_
                refine r_iadd hc dX9_goParty_187 ?_
                obtain ⟨i_12, hf⟩ := chk_some hf
                refine r_iald (f := (M_pad z166)) hc 11 rfl i_12 dX9_goParty_188 ?_
                refine r_bipush hc (65 : Int32) dX9_goParty_189 rfl ?_
                refine r_isub hc dX9_goParty_191 ?_
                refine r_aload_n hc 1 dX9_goParty_192 rfl ?_
                refine r_get (v := .ref (A 11)) hc iw_X9 0 rfl rfl 14 (by decide) mw_874 rfl dX9_goParty_193 ?_
                refine r_iload_n hc 2 dX9_goParty_196 rfl ?_
                refine r_iconst hc (2 : Int32) dX9_goParty_197 rfl ?_
                refine r_iadd hc dX9_goParty_198 ?_
                obtain ⟨i_13, hf⟩ := chk_some hf
                refine r_iald (f := (M_pad z166)) hc 11 rfl i_13 dX9_goParty_199 ?_
                refine r_bipush hc (48 : Int32) dX9_goParty_200 rfl ?_
                refine r_isub hc dX9_goParty_202 ?_
                obtain ⟨q203, hq203, hf⟩ := o_bind hf
                refine r_callVv (ws' := (wM cy A q203)) (As := [.int (((M_pad z) (x1).toNatClampNeg) - (65 : Int32)), .int (((M_pad z166) ((x1 + (1 : Int32))).toNatClampNeg) - (65 : Int32)), .int (((M_pad z166) ((x1 + (2 : Int32))).toNatClampNeg) - (48 : Int32))]) (rest := []) hc (c_X9_talk A z166 (((M_pad z) (x1).toNatClampNeg) - (65 : Int32)) (((M_pad z166) ((x1 + (1 : Int32))).toNatClampNeg) - (65 : Int32)) (((M_pad z166) ((x1 + (2 : Int32))).toNatClampNeg) - (48 : Int32)) q203 hq203) kv_X9_talk mw_1072 0 rfl rfl _ _ _ (Sp_all _ _) rfl rfl (Nat.le_of_ble_eq_true rfl) ⟨by decide, by decide⟩ dX9_goParty_203 ?_
                exact V.sub [1, 2] rfl (J206 q203 x1 hf)
          · have hf := o_neg c_4 hf
            refine r_aload_n hc 1 dX9_goParty_59 rfl ?_
            refine r_get (v := .ref (A 11)) hc iw_X9 0 rfl rfl 14 (by decide) mw_874 rfl dX9_goParty_60 ?_
            refine r_iload_n hc 2 dX9_goParty_63 rfl ?_
            refine r_iconst hc (2 : Int32) dX9_goParty_64 rfl ?_
            refine r_iadd hc dX9_goParty_65 ?_
            obtain ⟨i_14, hf⟩ := chk_some hf
            refine r_iald (f := (M_pad z28)) hc 11 rfl i_14 dX9_goParty_66 ?_
            refine r_bipush hc (48 : Int32) dX9_goParty_67 rfl ?_
            refine r_isub hc dX9_goParty_69 ?_
            refine r_istore_n hc [(3, .int (((M_pad z28) ((x1 + (2 : Int32))).toNatClampNeg) - (48 : Int32))), (2, .int ((M_pad z) (x1).toNatClampNeg)), (0, .ref (A 0)), (1, .int x1)] dX9_goParty_70 (by decide) rfl ?_
            refine r_aload_n hc 2 dX9_goParty_71 rfl ?_
            refine r_aload_n hc 2 dX9_goParty_72 rfl ?_
            refine r_iload_n hc 1 dX9_goParty_73 rfl ?_
            refine r_bipush hc (97 : Int32) dX9_goParty_74 rfl ?_
            refine r_isub hc dX9_goParty_76 ?_
            refine r_aload_n hc 2 dX9_goParty_77 rfl ?_
            refine r_get (v := .ref (A 11)) hc iw_X9 0 rfl rfl 14 (by decide) mw_874 rfl dX9_goParty_78 ?_
            refine r_iload_n hc 3 dX9_goParty_81 rfl ?_
            refine r_iconst hc (1 : Int32) dX9_goParty_82 rfl ?_
            refine r_iadd hc dX9_goParty_83 ?_
            obtain ⟨i_15, hf⟩ := chk_some hf
            refine r_iald (f := (M_pad z28)) hc 11 rfl i_15 dX9_goParty_84 ?_
            refine r_bipush hc (97 : Int32) dX9_goParty_85 rfl ?_
            refine r_isub hc dX9_goParty_87 ?_
            refine r_iload_n hc 0 dX9_goParty_88 rfl ?_
            obtain ⟨q89, hq89, hf⟩ := o_bind hf
            refine r_callVi (ws' := (wM cy A z28)) (As := [.int (((M_pad z) (x1).toNatClampNeg) - (97 : Int32)), .int (((M_pad z28) ((x1 + (1 : Int32))).toNatClampNeg) - (97 : Int32)), .int (((M_pad z28) ((x1 + (2 : Int32))).toNatClampNeg) - (48 : Int32))]) (rest := [.ref (A 0)]) hc (c_X9_whyNotCarry A z28 (((M_pad z) (x1).toNatClampNeg) - (97 : Int32)) (((M_pad z28) ((x1 + (1 : Int32))).toNatClampNeg) - (97 : Int32)) (((M_pad z28) ((x1 + (2 : Int32))).toNatClampNeg) - (48 : Int32)) q89 hq89) kv_X9_whyNotCarry mw_1056 0 rfl rfl _ _ _ (Sp_all _ _) rfl rfl (Nat.le_of_ble_eq_true rfl) ⟨by decide, by decide⟩ dX9_goParty_89 ?_
            obtain ⟨z92, ez92, hf⟩ := lt_some hf
            refine r_put hc iw_X9 tyX9 tyX9_ok nmX9 0 rfl rfl 22 (by decide) mw_882 rfl rfl rfl (Nat.le_of_ble_eq_true rfl) dX9_goParty_92 (wM cy A z92) (wM_s_reason ez92) ?_
            refine r_aload_n hc 2 dX9_goParty_95 rfl ?_
            refine r_get (v := .int (M_reason z92)) hc iw_X9 0 rfl rfl 22 (by decide) mw_882 rfl dX9_goParty_96 ?_
            refine r_if_ne hc 122 dX9_goParty_99 (by decide) (fun c_16 => ?_) (fun c_16 => ?_)
            · have hf := o_neg c_16 hf
              exact V.sub [2, 3] rfl (J122 z92 x1 hf)
            · have hf := o_pos c_16 hf
              refine r_aload_n hc 2 dX9_goParty_102 rfl ?_
              refine r_iload_n hc 1 dX9_goParty_103 rfl ?_
              refine r_bipush hc (97 : Int32) dX9_goParty_104 rfl ?_
              refine r_isub hc dX9_goParty_106 ?_
              refine r_aload_n hc 2 dX9_goParty_107 rfl ?_
              refine r_get (v := .ref (A 11)) hc iw_X9 0 rfl rfl 14 (by decide) mw_874 rfl dX9_goParty_108 ?_
              refine r_iload_n hc 3 dX9_goParty_111 rfl ?_
              refine r_iconst hc (1 : Int32) dX9_goParty_112 rfl ?_
              refine r_iadd hc dX9_goParty_113 ?_
              obtain ⟨i_17, hf⟩ := chk_some hf
              refine r_iald (f := (M_pad z92)) hc 11 rfl i_17 dX9_goParty_114 ?_
              refine r_bipush hc (97 : Int32) dX9_goParty_115 rfl ?_
              refine r_isub hc dX9_goParty_117 ?_
              refine r_iload_n hc 0 dX9_goParty_118 rfl ?_
              obtain ⟨q119, hq119, hf⟩ := o_bind hf
              refine r_callVv (ws' := (wM cy A q119)) (As := [.int (((M_pad z) (x1).toNatClampNeg) - (97 : Int32)), .int (((M_pad z92) ((x1 + (1 : Int32))).toNatClampNeg) - (97 : Int32)), .int (((M_pad z28) ((x1 + (2 : Int32))).toNatClampNeg) - (48 : Int32))]) (rest := []) hc (c_X9_carry A z92 (((M_pad z) (x1).toNatClampNeg) - (97 : Int32)) (((M_pad z92) ((x1 + (1 : Int32))).toNatClampNeg) - (97 : Int32)) (((M_pad z28) ((x1 + (2 : Int32))).toNatClampNeg) - (48 : Int32)) q119 hq119) kv_X9_carry mw_1060 0 rfl rfl _ _ _ (Sp_all _ _) rfl rfl (Nat.le_of_ble_eq_true rfl) ⟨by decide, by decide⟩ dX9_goParty_119 ?_
              exact V.sub [2, 3] rfl (J122 q119 x1 hf)
        · have hf := o_pos c_3 hf
          refine r_aload_n hc 1 dX9_goParty_37 rfl ?_
          obtain ⟨q38, hq38, hf⟩ := o_bind hf
          refine r_callVi (ws' := (wM cy A q38.2)) (As := []) (rest := []) hc (c_X9_pass A z28 q38 hq38) kv_X9_pass mw_1032 0 rfl rfl _ _ _ (Sp_all _ _) rfl rfl (Nat.le_of_ble_eq_true rfl) ⟨by decide, by decide⟩ dX9_goParty_38 ?_
          refine r_pop hc dX9_goParty_41 rfl ?_
          refine r_iinc hc 2 [(1, .int (x1 + (1 : Int32))), (2, .int ((M_pad z) (x1).toNatClampNeg)), (0, .ref (A 0))] (x1 + (1 : Int32)) dX9_goParty_42 rfl rfl (by decide) rfl ?_
          refine r_goto hc 258 dX9_goParty_45 (by decide) ?_
          exact V.sub [2, 0] rfl (J258 q38.2 (x1 + (1 : Int32)) hf)
  show V K (wM cy A z) 0 [(0, .ref (A 0))] []
  unfold f_X9_goParty at hf
  refine r_aload_n hc 0 dX9_goParty_0 rfl ?_
  obtain ⟨q1, hq1, hf⟩ := o_bind hf
  refine r_callVv (ws' := (wM cy A q1)) (As := []) (rest := []) hc (c_X9_asNow A z q1 hq1) kv_X9_asNow mw_1028 0 rfl rfl _ _ _ (Sp_all _ _) rfl rfl (Nat.le_of_ble_eq_true rfl) ⟨by decide, by decide⟩ dX9_goParty_1 ?_
  refine r_aload_n hc 0 dX9_goParty_4 rfl ?_
  refine r_iconst hc (0 : Int32) dX9_goParty_5 rfl ?_
  obtain ⟨z6, ez6, hf⟩ := lt_some hf
  refine r_put hc iw_X9 tyX9 tyX9_ok nmX9 0 rfl rfl 23 (by decide) mw_883 rfl rfl rfl (Nat.le_of_ble_eq_true rfl) dX9_goParty_6 (wM cy A z6) (wM_s_events ez6) ?_
  refine r_iconst hc (0 : Int32) dX9_goParty_9 rfl ?_
  refine r_istore_n hc [(1, .int (0 : Int32)), (0, .ref (A 0))] dX9_goParty_10 (by decide) rfl ?_
  exact V.sub [1, 0] rfl (L11 FU z6 (0 : Int32) hf)
def X9_judge_J35 (z : MS) (x2 : Int32) : Option (Int32 × MS) :=
  (some (x2, z))
def f_X9_judge (z : MS) (x1 : Int32) : Option (Int32 × MS) :=
  ((f_X9_in x1 (0 : Int32) (1 : Int32)).bind fun q3 => (if q3 = 0 then (some ((-2 : Int32), z)) else ((f_X9_faultOf z).bind fun q13 => (if q13 < 0 then ((f_X9_goParty z).bind fun q23 => (if q23.1 < 0 then (X9_judge_J35 q23.2 q23.1) else (if x1 = 0 then (X9_judge_J35 q23.2 q23.1) else (some ((M_reason q23.2), q23.2))))) else (some ((-5 : Int32), z))))))
theorem kv_X9_judge : KV RX9 yX9_judge cX9_judge 3 (some .int) 1 := ⟨mw_1021, mw_1022, mw_65, mw_1023, by decide +kernel⟩
set_option maxHeartbeats 8000000 in
set_option maxRecDepth 100000 in
theorem c_X9_judge {l : Launch} {E : va_G} {cy : Nat → ClassId} (A : Nat → Nat) (z : MS) (x1 : Int32) (q : Int32 × MS) (hf : f_X9_judge z x1 = some q) : Ci l yX9_judge cX9_judge 3 (some .int) 7 206 E cy [.ref (A 0), .int x1] (wM cy A z) q.1 (wM cy A q.2) := by
  refine Ci.of RX9 (by decide) rfl (Nat.le_of_ble_eq_true rfl) ?_
  intro K hK
  have hc := hK.cq
  have J35 : ∀ (z : MS) (x2 : Int32), X9_judge_J35  z x2 = some q → V K (wM cy A z) 35 [(2, .int x2)] [] := by
    intro z x2 hf
    unfold X9_judge_J35 at hf
    refine r_iload_n hc 0 dX9_judge_35 rfl ?_
    refine r_goto hc 43 dX9_judge_36 (by decide) ?_
    exact r_iret hK (congrArg (fun z9 => z9.1) (Option.some.inj hf)) (congrArg (fun z9 => (wM cy A z9.2)) (Option.some.inj hf)) dX9_judge_43
  show V K (wM cy A z) 0 [(0, .ref (A 0)), (1, .int x1)] []
  unfold f_X9_judge at hf
  refine r_iload_n hc 1 dX9_judge_0 rfl ?_
  refine r_iconst hc (0 : Int32) dX9_judge_1 rfl ?_
  refine r_iconst hc (1 : Int32) dX9_judge_2 rfl ?_
  obtain ⟨q3, hq3, hf⟩ := o_bind hf
  refine r_callSi (ws' := (wM cy A z)) (As := [.int x1, .int (0 : Int32), .int (1 : Int32)]) (rest := []) hc (c_X9_in  x1 (0 : Int32) (1 : Int32) q3 hq3) ks_X9_in mw_955 _ _ _ (Sp_none _) rfl rfl (Nat.le_of_ble_eq_true rfl) ⟨by decide, by decide⟩ dX9_judge_3 ?_
  refine r_if_ne hc 12 dX9_judge_6 (by decide) (fun c_1 => ?_) (fun c_1 => ?_)
  · have hf := o_neg c_1 hf
    refine r_aload_n hc 0 dX9_judge_12 rfl ?_
    obtain ⟨q13, hq13, hf⟩ := o_bind hf
    refine r_callVi (ws' := (wM cy A z)) (As := []) (rest := []) hc (c_X9_faultOf A z q13 hq13) kv_X9_faultOf mw_1016 0 rfl rfl _ _ _ (Sp_all _ _) rfl rfl (Nat.le_of_ble_eq_true rfl) ⟨by decide, by decide⟩ dX9_judge_13 ?_
    refine r_if_lt hc 22 dX9_judge_16 (by decide) (fun c_2 => ?_) (fun c_2 => ?_)
    · have hf := o_pos c_2 hf
      refine r_aload_n hc 0 dX9_judge_22 rfl ?_
      obtain ⟨q23, hq23, hf⟩ := o_bind hf
      refine r_callVi (ws' := (wM cy A q23.2)) (As := []) (rest := []) hc (c_X9_goParty A z q23 hq23) kv_X9_goParty mw_1024 0 rfl rfl _ _ _ (Sp_all _ _) rfl rfl (Nat.le_of_ble_eq_true rfl) ⟨by decide, by decide⟩ dX9_judge_23 ?_
      refine r_istore_n hc [(2, .int q23.1), (0, .ref (A 0)), (1, .int x1)] dX9_judge_26 (by decide) rfl ?_
      refine r_iload_n hc 0 dX9_judge_27 rfl ?_
      refine r_if_lt hc 35 dX9_judge_28 (by decide) (fun c_3 => ?_) (fun c_3 => ?_)
      · have hf := o_pos c_3 hf
        exact V.sub [0] rfl (J35 q23.2 q23.1 hf)
      · have hf := o_neg c_3 hf
        refine r_iload_n hc 2 dX9_judge_31 rfl ?_
        refine r_if_ne hc 39 dX9_judge_32 (by decide) (fun c_4 => ?_) (fun c_4 => ?_)
        · have hf := o_neg c_4 hf
          refine r_aload_n hc 1 dX9_judge_39 rfl ?_
          refine r_get (v := .int (M_reason q23.2)) hc iw_X9 0 rfl rfl 22 (by decide) mw_882 rfl dX9_judge_40 ?_
          exact r_iret hK (congrArg (fun z9 => z9.1) (Option.some.inj hf)) (congrArg (fun z9 => (wM cy A z9.2)) (Option.some.inj hf)) dX9_judge_43
        · have hf := o_pos c_4 hf
          exact V.sub [0] rfl (J35 q23.2 q23.1 hf)
    · have hf := o_neg c_2 hf
      refine r_bipush hc (-5 : Int32) dX9_judge_19 rfl ?_
      exact r_iret hK (congrArg (fun z9 => z9.1) (Option.some.inj hf)) (congrArg (fun z9 => (wM cy A z9.2)) (Option.some.inj hf)) dX9_judge_21
  · have hf := o_pos c_1 hf
    refine r_bipush hc (-2 : Int32) dX9_judge_9 rfl ?_
    exact r_iret hK (congrArg (fun z9 => z9.1) (Option.some.inj hf)) (congrArg (fun z9 => (wM cy A z9.2)) (Option.some.inj hf)) dX9_judge_11
def X9_barOfParty_J14 (z : MS) : Option (Int32 × MS) :=
  (some ((-5 : Int32), z))
def f_X9_barOfParty (z : MS) : Option (Int32 × MS) :=
  ((f_X9_faultOf z).bind fun q1 => (if 0 ≤ q1 then (X9_barOfParty_J14 z) else ((f_X9_goParty z).bind fun q8 => (if q8.1 < 0 then (some ((0 : Int32), q8.2)) else (X9_barOfParty_J14 q8.2)))))
theorem kv_X9_barOfParty : KV RX9 yX9_barOfParty cX9_barOfParty 1 (some .int) 0 := ⟨mw_1094, mw_46, mw_65, mw_1095, by decide +kernel⟩
set_option maxHeartbeats 8000000 in
set_option maxRecDepth 100000 in
theorem c_X9_barOfParty {l : Launch} {E : va_G} {cy : Nat → ClassId} (A : Nat → Nat) (z : MS) (q : Int32 × MS) (hf : f_X9_barOfParty z = some q) : Ci l yX9_barOfParty cX9_barOfParty 1 (some .int) 7 206 E cy [.ref (A 0)] (wM cy A z) q.1 (wM cy A q.2) := by
  refine Ci.of RX9 (by decide) rfl (Nat.le_of_ble_eq_true rfl) ?_
  intro K hK
  have hc := hK.cq
  have J14 : ∀ (z : MS), X9_barOfParty_J14  z = some q → V K (wM cy A z) 14 [] [] := by
    intro z hf
    unfold X9_barOfParty_J14 at hf
    refine r_bipush hc (-5 : Int32) dX9_barOfParty_14 rfl ?_
    refine r_goto hc 20 dX9_barOfParty_16 (by decide) ?_
    exact r_iret hK (congrArg (fun z9 => z9.1) (Option.some.inj hf)) (congrArg (fun z9 => (wM cy A z9.2)) (Option.some.inj hf)) dX9_barOfParty_20
  show V K (wM cy A z) 0 [(0, .ref (A 0))] []
  unfold f_X9_barOfParty at hf
  refine r_aload_n hc 0 dX9_barOfParty_0 rfl ?_
  obtain ⟨q1, hq1, hf⟩ := o_bind hf
  refine r_callVi (ws' := (wM cy A z)) (As := []) (rest := []) hc (c_X9_faultOf A z q1 hq1) kv_X9_faultOf mw_1016 0 rfl rfl _ _ _ (Sp_all _ _) rfl rfl (Nat.le_of_ble_eq_true rfl) ⟨by decide, by decide⟩ dX9_barOfParty_1 ?_
  refine r_if_ge hc 14 dX9_barOfParty_4 (by decide) (fun c_1 => ?_) (fun c_1 => ?_)
  · have hf := o_pos c_1 hf
    exact V.sub [] rfl (J14 z hf)
  · have hf := o_neg c_1 hf
    refine r_aload_n hc 0 dX9_barOfParty_7 rfl ?_
    obtain ⟨q8, hq8, hf⟩ := o_bind hf
    refine r_callVi (ws' := (wM cy A q8.2)) (As := []) (rest := []) hc (c_X9_goParty A z q8 hq8) kv_X9_goParty mw_1024 0 rfl rfl _ _ _ (Sp_all _ _) rfl rfl (Nat.le_of_ble_eq_true rfl) ⟨by decide, by decide⟩ dX9_barOfParty_8 ?_
    refine r_if_lt hc 19 dX9_barOfParty_11 (by decide) (fun c_2 => ?_) (fun c_2 => ?_)
    · have hf := o_pos c_2 hf
      refine r_iconst hc (0 : Int32) dX9_barOfParty_19 rfl ?_
      exact r_iret hK (congrArg (fun z9 => z9.1) (Option.some.inj hf)) (congrArg (fun z9 => (wM cy A z9.2)) (Option.some.inj hf)) dX9_barOfParty_20
    · have hf := o_neg c_2 hf
      exact V.sub [] rfl (J14 q8.2 hf)
def X9_done_B74 (k74 : MS → Int32 → Option (Int32 × MS)) (z : MS) (x1 : Int32) : Option (Int32 × MS) :=
  (if (24 : Int32) ≤ x1 then (ltA (M_set_signs z (0 : Int32)) fun z100 => (some ((M_events z100), z100))) else (chk x1 24 (chk x1 24 (ltA (M_set_things z (upd (M_things z) (x1).toNatClampNeg ((M_thingsNow z) (x1).toNatClampNeg))) fun z91 => (k74 z91 (x1 + (1 : Int32)))))))
def X9_done_B12 (k12 : MS → Int32 → Option (Int32 × MS)) (z : MS) (x1 : Int32) : Option (Int32 × MS) :=
  (if (8 : Int32) ≤ x1 then (it X9_done_B74 (fun _ _ => none) FU z (0 : Int32)) else (chk x1 8 (chk x1 8 (ltA (M_set_place z (upd (M_place z) (x1).toNatClampNeg ((M_at z) (x1).toNatClampNeg))) fun z29 => (chk x1 8 (chk x1 8 (ltA (M_set_busy z29 (upd (M_busy z29) (x1).toNatClampNeg ((M_busyNow z29) (x1).toNatClampNeg))) fun z41 => (chk x1 8 (chk x1 8 (ltA (M_set_with z41 (upd (M_with z41) (x1).toNatClampNeg ((M_withNow z41) (x1).toNatClampNeg))) fun z53 => (chk x1 8 (chk x1 8 (ltA (M_set_left z53 (upd (M_left z53) (x1).toNatClampNeg ((M_leftNow z53) (x1).toNatClampNeg))) fun z65 => (k12 z65 (x1 + (1 : Int32))))))))))))))))
def f_X9_done (z : MS) : Option (Int32 × MS) :=
  ((f_X9_barOfParty z).bind fun q1 => (if 0 ≤ q1.1 then (it X9_done_B12 (fun _ _ => none) FU q1.2 (0 : Int32)) else (some ((-5 : Int32), q1.2))))
theorem kv_X9_done : KV RX9 yX9_done cX9_done 2 (some .int) 0 := ⟨mw_1089, mw_1090, mw_65, mw_1091, by decide +kernel⟩
set_option maxHeartbeats 8000000 in
set_option maxRecDepth 100000 in
theorem c_X9_done {l : Launch} {E : va_G} {cy : Nat → ClassId} (A : Nat → Nat) (z : MS) (q : Int32 × MS) (hf : f_X9_done z = some q) : Ci l yX9_done cX9_done 2 (some .int) 8 226 E cy [.ref (A 0)] (wM cy A z) q.1 (wM cy A q.2) := by
  refine Ci.of RX9 (by decide) rfl (Nat.le_of_ble_eq_true rfl) ?_
  intro K hK
  have hc := hK.cq
  have L74 : ∀ (n74 : Nat) (z : MS) (x1 : Int32), it X9_done_B74 (fun _ _ => none) n74 z x1 = some q → V K (wM cy A z) 74 [(0, .ref (A 0)), (1, .int x1)] [] := by
    intro n74
    induction n74 with
    | zero => intro z x1 hf; exact (o_none hf).elim
    | succ n74 ih74 =>
      intro z x1 hf
      replace hf : X9_done_B74 (it X9_done_B74 (fun _ _ => none) n74) z x1 = some q := hf
      unfold X9_done_B74 at hf
      refine r_iload_n hc 1 dX9_done_74 rfl ?_
      refine r_bipush hc (24 : Int32) dX9_done_75 rfl ?_
      refine r_icmp_ge hc 98 dX9_done_77 (by decide) (fun c_11 => ?_) (fun c_11 => ?_)
      · have hf := o_pos c_11 hf
        refine r_aload_n hc 0 dX9_done_98 rfl ?_
        refine r_iconst hc (0 : Int32) dX9_done_99 rfl ?_
        obtain ⟨z100, ez100, hf⟩ := lt_some hf
        refine r_put hc iw_X9 tyX9 tyX9_ok nmX9 0 rfl rfl 13 (by decide) mw_873 rfl rfl rfl (Nat.le_of_ble_eq_true rfl) dX9_done_100 (wM cy A z100) (wM_s_signs ez100) ?_
        refine r_aload_n hc 0 dX9_done_103 rfl ?_
        refine r_get (v := .int (M_events z100)) hc iw_X9 0 rfl rfl 23 (by decide) mw_883 rfl dX9_done_104 ?_
        exact r_iret hK (congrArg (fun z9 => z9.1) (Option.some.inj hf)) (congrArg (fun z9 => (wM cy A z9.2)) (Option.some.inj hf)) dX9_done_107
      · have hf := o_neg c_11 hf
        refine r_aload_n hc 0 dX9_done_80 rfl ?_
        refine r_get (v := .ref (A 1)) hc iw_X9 0 rfl rfl 1 (by decide) mw_861 rfl dX9_done_81 ?_
        refine r_iload_n hc 1 dX9_done_84 rfl ?_
        refine r_aload_n hc 0 dX9_done_85 rfl ?_
        refine r_get (v := .ref (A 16)) hc iw_X9 0 rfl rfl 19 (by decide) mw_879 rfl dX9_done_86 ?_
        refine r_iload_n hc 1 dX9_done_89 rfl ?_
        obtain ⟨i_12, hf⟩ := chk_some hf
        refine r_iald (f := (M_thingsNow z)) hc 16 rfl i_12 dX9_done_90 ?_
        obtain ⟨i_13, hf⟩ := chk_some hf
        obtain ⟨z91, ez91, hf⟩ := lt_some hf
        refine r_iast (f := (M_things z)) hc 1 rfl i_13 dX9_done_91 _ rfl (wM cy A z91) (wM_s_things ez91) ?_
        refine r_iinc hc 1 [(1, .int (x1 + (1 : Int32))), (0, .ref (A 0))] (x1 + (1 : Int32)) dX9_done_92 rfl rfl (by decide) rfl ?_
        refine r_goto hc 74 dX9_done_95 (by decide) ?_
        exact V.sub [1, 0] rfl (ih74 z91 (x1 + (1 : Int32)) hf)
  have L12 : ∀ (n12 : Nat) (z : MS) (x1 : Int32), it X9_done_B12 (fun _ _ => none) n12 z x1 = some q → V K (wM cy A z) 12 [(0, .ref (A 0)), (1, .int x1)] [] := by
    intro n12
    induction n12 with
    | zero => intro z x1 hf; exact (o_none hf).elim
    | succ n12 ih12 =>
      intro z x1 hf
      replace hf : X9_done_B12 (it X9_done_B12 (fun _ _ => none) n12) z x1 = some q := hf
      unfold X9_done_B12 at hf
      refine r_iload_n hc 1 dX9_done_12 rfl ?_
      refine r_bipush hc (8 : Int32) dX9_done_13 rfl ?_
      refine r_icmp_ge hc 72 dX9_done_15 (by decide) (fun c_2 => ?_) (fun c_2 => ?_)
      · have hf := o_pos c_2 hf
        refine r_iconst hc (0 : Int32) dX9_done_72 rfl ?_
        refine r_istore_n hc [(1, .int (0 : Int32)), (0, .ref (A 0))] dX9_done_73 (by decide) rfl ?_
        exact V.sub [1, 0] rfl (L74 FU z (0 : Int32) hf)
      · have hf := o_neg c_2 hf
        refine r_aload_n hc 0 dX9_done_18 rfl ?_
        refine r_get (v := .ref (A 6)) hc iw_X9 0 rfl rfl 7 (by decide) mw_867 rfl dX9_done_19 ?_
        refine r_iload_n hc 1 dX9_done_22 rfl ?_
        refine r_aload_n hc 0 dX9_done_23 rfl ?_
        refine r_get (v := .ref (A 12)) hc iw_X9 0 rfl rfl 15 (by decide) mw_875 rfl dX9_done_24 ?_
        refine r_iload_n hc 1 dX9_done_27 rfl ?_
        obtain ⟨i_3, hf⟩ := chk_some hf
        refine r_iald (f := (M_at z)) hc 12 rfl i_3 dX9_done_28 ?_
        obtain ⟨i_4, hf⟩ := chk_some hf
        obtain ⟨z29, ez29, hf⟩ := lt_some hf
        refine r_iast (f := (M_place z)) hc 6 rfl i_4 dX9_done_29 _ rfl (wM cy A z29) (wM_s_place ez29) ?_
        refine r_aload_n hc 0 dX9_done_30 rfl ?_
        refine r_get (v := .ref (A 7)) hc iw_X9 0 rfl rfl 8 (by decide) mw_868 rfl dX9_done_31 ?_
        refine r_iload_n hc 1 dX9_done_34 rfl ?_
        refine r_aload_n hc 0 dX9_done_35 rfl ?_
        refine r_get (v := .ref (A 13)) hc iw_X9 0 rfl rfl 16 (by decide) mw_876 rfl dX9_done_36 ?_
        refine r_iload_n hc 1 dX9_done_39 rfl ?_
        obtain ⟨i_5, hf⟩ := chk_some hf
        refine r_iald (f := (M_busyNow z29)) hc 13 rfl i_5 dX9_done_40 ?_
        obtain ⟨i_6, hf⟩ := chk_some hf
        obtain ⟨z41, ez41, hf⟩ := lt_some hf
        refine r_iast (f := (M_busy z29)) hc 7 rfl i_6 dX9_done_41 _ rfl (wM cy A z41) (wM_s_busy ez41) ?_
        refine r_aload_n hc 0 dX9_done_42 rfl ?_
        refine r_get (v := .ref (A 8)) hc iw_X9 0 rfl rfl 9 (by decide) mw_869 rfl dX9_done_43 ?_
        refine r_iload_n hc 1 dX9_done_46 rfl ?_
        refine r_aload_n hc 0 dX9_done_47 rfl ?_
        refine r_get (v := .ref (A 14)) hc iw_X9 0 rfl rfl 17 (by decide) mw_877 rfl dX9_done_48 ?_
        refine r_iload_n hc 1 dX9_done_51 rfl ?_
        obtain ⟨i_7, hf⟩ := chk_some hf
        refine r_iald (f := (M_withNow z41)) hc 14 rfl i_7 dX9_done_52 ?_
        obtain ⟨i_8, hf⟩ := chk_some hf
        obtain ⟨z53, ez53, hf⟩ := lt_some hf
        refine r_iast (f := (M_with z41)) hc 8 rfl i_8 dX9_done_53 _ rfl (wM cy A z53) (wM_s_with ez53) ?_
        refine r_aload_n hc 0 dX9_done_54 rfl ?_
        refine r_get (v := .ref (A 9)) hc iw_X9 0 rfl rfl 10 (by decide) mw_870 rfl dX9_done_55 ?_
        refine r_iload_n hc 1 dX9_done_58 rfl ?_
        refine r_aload_n hc 0 dX9_done_59 rfl ?_
        refine r_get (v := .ref (A 15)) hc iw_X9 0 rfl rfl 18 (by decide) mw_878 rfl dX9_done_60 ?_
        refine r_iload_n hc 1 dX9_done_63 rfl ?_
        obtain ⟨i_9, hf⟩ := chk_some hf
        refine r_iald (f := (M_leftNow z53)) hc 15 rfl i_9 dX9_done_64 ?_
        obtain ⟨i_10, hf⟩ := chk_some hf
        obtain ⟨z65, ez65, hf⟩ := lt_some hf
        refine r_iast (f := (M_left z53)) hc 9 rfl i_10 dX9_done_65 _ rfl (wM cy A z65) (wM_s_left ez65) ?_
        refine r_iinc hc 1 [(1, .int (x1 + (1 : Int32))), (0, .ref (A 0))] (x1 + (1 : Int32)) dX9_done_66 rfl rfl (by decide) rfl ?_
        refine r_goto hc 12 dX9_done_69 (by decide) ?_
        exact V.sub [1, 0] rfl (ih12 z65 (x1 + (1 : Int32)) hf)
  show V K (wM cy A z) 0 [(0, .ref (A 0))] []
  unfold f_X9_done at hf
  refine r_aload_n hc 0 dX9_done_0 rfl ?_
  obtain ⟨q1, hq1, hf⟩ := o_bind hf
  refine r_callVi (ws' := (wM cy A q1.2)) (As := []) (rest := []) hc (c_X9_barOfParty A z q1 hq1) kv_X9_barOfParty mw_1092 0 rfl rfl _ _ _ (Sp_all _ _) rfl rfl (Nat.le_of_ble_eq_true rfl) ⟨by decide, by decide⟩ dX9_done_1 ?_
  refine r_if_ge hc 10 dX9_done_4 (by decide) (fun c_1 => ?_) (fun c_1 => ?_)
  · have hf := o_pos c_1 hf
    refine r_iconst hc (0 : Int32) dX9_done_10 rfl ?_
    refine r_istore_n hc [(1, .int (0 : Int32)), (0, .ref (A 0))] dX9_done_11 (by decide) rfl ?_
    exact V.sub [1, 0] rfl (L12 FU q1.2 (0 : Int32) hf)
  · have hf := o_neg c_1 hf
    refine r_bipush hc (-5 : Int32) dX9_done_7 rfl ?_
    exact r_iret hK (congrArg (fun z9 => z9.1) (Option.some.inj hf)) (congrArg (fun z9 => (wM cy A z9.2)) (Option.some.inj hf)) dX9_done_9
def X9_stateNow_J24 (z : MS) (x1 : Int32) (x2 : Int32) (s0 : Int32) : Option (Int32) :=
  (if x2 = 0 then (chk x1 8 (some (((M_at z) (x1).toNatClampNeg)))) else (if x2 = (1 : Int32) then (chk x1 8 (some (((M_busyNow z) (x1).toNatClampNeg)))) else (if x2 = (2 : Int32) then (if s0 = 0 then (chk x1 8 (some (((M_withNow z) (x1).toNatClampNeg)))) else (some ((-6 : Int32)))) else (chk x1 8 (if ((M_busyNow z) (x1).toNatClampNeg) = (1 : Int32) then (chk x1 8 (some (((M_leftNow z) (x1).toNatClampNeg)))) else (some ((0 : Int32))))))))
def X9_stateNow_J19 (z : MS) (x1 : Int32) (x2 : Int32) : Option (Int32) :=
  (X9_stateNow_J24 z x1 x2 (1 : Int32))
def f_X9_stateNow (z : MS) (x1 : Int32) (x2 : Int32) : Option (Int32) :=
  (chk x1 8 (if ((M_busyNow z) (x1).toNatClampNeg) = 0 then (X9_stateNow_J19 z x1 x2) else (chk x1 8 (if ((M_busyNow z) (x1).toNatClampNeg) = (2 : Int32) then (X9_stateNow_J19 z x1 x2) else (X9_stateNow_J24 z x1 x2 (0 : Int32))))))
theorem kv_X9_stateNow : KV RX9 yX9_stateNow cX9_stateNow 4 (some .int) 2 := ⟨mw_1102, mw_47, mw_65, mw_1103, by decide +kernel⟩
set_option maxHeartbeats 8000000 in
set_option maxRecDepth 100000 in
theorem c_X9_stateNow {l : Launch} {E : va_G} {cy : Nat → ClassId} (A : Nat → Nat) (z : MS) (x1 : Int32) (x2 : Int32) (q : Int32) (hf : f_X9_stateNow z x1 x2 = some q) : Ci l yX9_stateNow cX9_stateNow 4 (some .int) 1 60 E cy [.ref (A 0), .int x1, .int x2] (wM cy A z) q (wM cy A z) := by
  refine Ci.of RX9 (by decide) rfl (Nat.le_of_ble_eq_true rfl) ?_
  intro K hK
  have hc := hK.cq
  have J24 : ∀ (x1 : Int32) (x2 : Int32) (s0 : Int32), X9_stateNow_J24  z x1 x2 s0 = some q → V K (wM cy A z) 24 [(0, .ref (A 0)), (1, .int x1), (2, .int x2)] [.int s0] := by
    intro x1 x2 s0 hf
    unfold X9_stateNow_J24 at hf
    refine r_istore_n hc [(3, .int s0), (0, .ref (A 0)), (1, .int x1), (2, .int x2)] dX9_stateNow_24 (by decide) rfl ?_
    refine r_iload_n hc 3 dX9_stateNow_25 rfl ?_
    refine r_if_ne hc 38 dX9_stateNow_26 (by decide) (fun c_5 => ?_) (fun c_5 => ?_)
    · have hf := o_neg c_5 hf
      refine r_iload_n hc 3 dX9_stateNow_38 rfl ?_
      refine r_iconst hc (1 : Int32) dX9_stateNow_39 rfl ?_
      refine r_icmp_ne hc 52 dX9_stateNow_40 (by decide) (fun c_6 => ?_) (fun c_6 => ?_)
      · have hf := o_neg c_6 hf
        refine r_iload_n hc 3 dX9_stateNow_52 rfl ?_
        refine r_iconst hc (2 : Int32) dX9_stateNow_53 rfl ?_
        refine r_icmp_ne hc 75 dX9_stateNow_54 (by decide) (fun c_7 => ?_) (fun c_7 => ?_)
        · have hf := o_neg c_7 hf
          refine r_aload_n hc 1 dX9_stateNow_75 rfl ?_
          refine r_get (v := .ref (A 13)) hc iw_X9 0 rfl rfl 16 (by decide) mw_876 rfl dX9_stateNow_76 ?_
          refine r_iload_n hc 2 dX9_stateNow_79 rfl ?_
          obtain ⟨i_8, hf⟩ := chk_some hf
          refine r_iald (f := (M_busyNow z)) hc 13 rfl i_8 dX9_stateNow_80 ?_
          refine r_iconst hc (1 : Int32) dX9_stateNow_81 rfl ?_
          refine r_icmp_ne hc 94 dX9_stateNow_82 (by decide) (fun c_9 => ?_) (fun c_9 => ?_)
          · have hf := o_neg c_9 hf
            refine r_iconst hc (0 : Int32) dX9_stateNow_94 rfl ?_
            exact r_iret hK (Option.some.inj hf) rfl dX9_stateNow_95
          · have hf := o_pos c_9 hf
            refine r_aload_n hc 1 dX9_stateNow_85 rfl ?_
            refine r_get (v := .ref (A 15)) hc iw_X9 0 rfl rfl 18 (by decide) mw_878 rfl dX9_stateNow_86 ?_
            refine r_iload_n hc 2 dX9_stateNow_89 rfl ?_
            obtain ⟨i_10, hf⟩ := chk_some hf
            refine r_iald (f := (M_leftNow z)) hc 15 rfl i_10 dX9_stateNow_90 ?_
            refine r_goto hc 95 dX9_stateNow_91 (by decide) ?_
            exact r_iret hK (Option.some.inj hf) rfl dX9_stateNow_95
        · have hf := o_pos c_7 hf
          refine r_iload_n hc 0 dX9_stateNow_57 rfl ?_
          refine r_if_eq hc 66 dX9_stateNow_58 (by decide) (fun c_11 => ?_) (fun c_11 => ?_)
          · have hf := o_pos c_11 hf
            refine r_aload_n hc 1 dX9_stateNow_66 rfl ?_
            refine r_get (v := .ref (A 14)) hc iw_X9 0 rfl rfl 17 (by decide) mw_877 rfl dX9_stateNow_67 ?_
            refine r_iload_n hc 2 dX9_stateNow_70 rfl ?_
            obtain ⟨i_12, hf⟩ := chk_some hf
            refine r_iald (f := (M_withNow z)) hc 14 rfl i_12 dX9_stateNow_71 ?_
            refine r_goto hc 95 dX9_stateNow_72 (by decide) ?_
            exact r_iret hK (Option.some.inj hf) rfl dX9_stateNow_95
          · have hf := o_neg c_11 hf
            refine r_bipush hc (-6 : Int32) dX9_stateNow_61 rfl ?_
            refine r_goto hc 95 dX9_stateNow_63 (by decide) ?_
            exact r_iret hK (Option.some.inj hf) rfl dX9_stateNow_95
      · have hf := o_pos c_6 hf
        refine r_aload_n hc 1 dX9_stateNow_43 rfl ?_
        refine r_get (v := .ref (A 13)) hc iw_X9 0 rfl rfl 16 (by decide) mw_876 rfl dX9_stateNow_44 ?_
        refine r_iload_n hc 2 dX9_stateNow_47 rfl ?_
        obtain ⟨i_13, hf⟩ := chk_some hf
        refine r_iald (f := (M_busyNow z)) hc 13 rfl i_13 dX9_stateNow_48 ?_
        refine r_goto hc 95 dX9_stateNow_49 (by decide) ?_
        exact r_iret hK (Option.some.inj hf) rfl dX9_stateNow_95
    · have hf := o_pos c_5 hf
      refine r_aload_n hc 1 dX9_stateNow_29 rfl ?_
      refine r_get (v := .ref (A 12)) hc iw_X9 0 rfl rfl 15 (by decide) mw_875 rfl dX9_stateNow_30 ?_
      refine r_iload_n hc 2 dX9_stateNow_33 rfl ?_
      obtain ⟨i_14, hf⟩ := chk_some hf
      refine r_iald (f := (M_at z)) hc 12 rfl i_14 dX9_stateNow_34 ?_
      refine r_goto hc 95 dX9_stateNow_35 (by decide) ?_
      exact r_iret hK (Option.some.inj hf) rfl dX9_stateNow_95
  have J19 : ∀ (x1 : Int32) (x2 : Int32), X9_stateNow_J19  z x1 x2 = some q → V K (wM cy A z) 19 [(0, .ref (A 0)), (1, .int x1), (2, .int x2)] [] := by
    intro x1 x2 hf
    unfold X9_stateNow_J19 at hf
    refine r_iconst hc (1 : Int32) dX9_stateNow_19 rfl ?_
    refine r_goto hc 24 dX9_stateNow_20 (by decide) ?_
    exact V.sub [0, 1, 2] rfl (J24 x1 x2 (1 : Int32) hf)
  show V K (wM cy A z) 0 [(0, .ref (A 0)), (1, .int x1), (2, .int x2)] []
  unfold f_X9_stateNow at hf
  refine r_aload_n hc 0 dX9_stateNow_0 rfl ?_
  refine r_get (v := .ref (A 13)) hc iw_X9 0 rfl rfl 16 (by decide) mw_876 rfl dX9_stateNow_1 ?_
  refine r_iload_n hc 1 dX9_stateNow_4 rfl ?_
  obtain ⟨i_1, hf⟩ := chk_some hf
  refine r_iald (f := (M_busyNow z)) hc 13 rfl i_1 dX9_stateNow_5 ?_
  refine r_if_eq hc 19 dX9_stateNow_6 (by decide) (fun c_2 => ?_) (fun c_2 => ?_)
  · have hf := o_pos c_2 hf
    exact V.sub [0, 1, 2] rfl (J19 x1 x2 hf)
  · have hf := o_neg c_2 hf
    refine r_aload_n hc 0 dX9_stateNow_9 rfl ?_
    refine r_get (v := .ref (A 13)) hc iw_X9 0 rfl rfl 16 (by decide) mw_876 rfl dX9_stateNow_10 ?_
    refine r_iload_n hc 1 dX9_stateNow_13 rfl ?_
    obtain ⟨i_3, hf⟩ := chk_some hf
    refine r_iald (f := (M_busyNow z)) hc 13 rfl i_3 dX9_stateNow_14 ?_
    refine r_iconst hc (2 : Int32) dX9_stateNow_15 rfl ?_
    refine r_icmp_ne hc 23 dX9_stateNow_16 (by decide) (fun c_4 => ?_) (fun c_4 => ?_)
    · have hf := o_neg c_4 hf
      refine r_iconst hc (0 : Int32) dX9_stateNow_23 rfl ?_
      exact V.sub [0, 1, 2] rfl (J24 x1 x2 (0 : Int32) hf)
    · have hf := o_pos c_4 hf
      exact V.sub [0, 1, 2] rfl (J19 x1 x2 hf)
def f_X9_state (z : MS) (x1 : Int32) (x2 : Int32) : Option (Int32 × MS) :=
  ((f_X9_isThere z x1).bind fun q2 => (if q2 = 0 then (some ((-1 : Int32), z)) else ((f_X9_in x2 (0 : Int32) (3 : Int32)).bind fun q13 => (if q13 = 0 then (some ((-2 : Int32), z)) else ((f_X9_asNow z).bind fun q23 => ((f_X9_stateNow q23 x1 x2).bind fun q29 => (some (q29, q23))))))))
theorem kv_X9_state : KV RX9 yX9_state cX9_state 3 (some .int) 2 := ⟨mw_1097, mw_1098, mw_65, mw_1099, by decide +kernel⟩
set_option maxHeartbeats 8000000 in
set_option maxRecDepth 100000 in
theorem c_X9_state {l : Launch} {E : va_G} {cy : Nat → ClassId} (A : Nat → Nat) (z : MS) (x1 : Int32) (x2 : Int32) (q : Int32 × MS) (hf : f_X9_state z x1 x2 = some q) : Ci l yX9_state cX9_state 3 (some .int) 3 103 E cy [.ref (A 0), .int x1, .int x2] (wM cy A z) q.1 (wM cy A q.2) := by
  refine Ci.of RX9 (by decide) rfl (Nat.le_of_ble_eq_true rfl) ?_
  intro K hK
  have hc := hK.cq
  show V K (wM cy A z) 0 [(0, .ref (A 0)), (1, .int x1), (2, .int x2)] []
  unfold f_X9_state at hf
  refine r_aload_n hc 0 dX9_state_0 rfl ?_
  refine r_iload_n hc 1 dX9_state_1 rfl ?_
  obtain ⟨q2, hq2, hf⟩ := o_bind hf
  refine r_callVi (ws' := (wM cy A z)) (As := [.int x1]) (rest := []) hc (c_X9_isThere A z x1 q2 hq2) kv_X9_isThere mw_996 0 rfl rfl _ _ _ (Sp_all _ _) rfl rfl (Nat.le_of_ble_eq_true rfl) ⟨by decide, by decide⟩ dX9_state_2 ?_
  refine r_if_ne hc 10 dX9_state_5 (by decide) (fun c_1 => ?_) (fun c_1 => ?_)
  · have hf := o_neg c_1 hf
    refine r_iload_n hc 2 dX9_state_10 rfl ?_
    refine r_iconst hc (0 : Int32) dX9_state_11 rfl ?_
    refine r_iconst hc (3 : Int32) dX9_state_12 rfl ?_
    obtain ⟨q13, hq13, hf⟩ := o_bind hf
    refine r_callSi (ws' := (wM cy A z)) (As := [.int x2, .int (0 : Int32), .int (3 : Int32)]) (rest := []) hc (c_X9_in  x2 (0 : Int32) (3 : Int32) q13 hq13) ks_X9_in mw_955 _ _ _ (Sp_none _) rfl rfl (Nat.le_of_ble_eq_true rfl) ⟨by decide, by decide⟩ dX9_state_13 ?_
    refine r_if_ne hc 22 dX9_state_16 (by decide) (fun c_2 => ?_) (fun c_2 => ?_)
    · have hf := o_neg c_2 hf
      refine r_aload_n hc 0 dX9_state_22 rfl ?_
      obtain ⟨q23, hq23, hf⟩ := o_bind hf
      refine r_callVv (ws' := (wM cy A q23)) (As := []) (rest := []) hc (c_X9_asNow A z q23 hq23) kv_X9_asNow mw_1028 0 rfl rfl _ _ _ (Sp_all _ _) rfl rfl (Nat.le_of_ble_eq_true rfl) ⟨by decide, by decide⟩ dX9_state_23 ?_
      refine r_aload_n hc 0 dX9_state_26 rfl ?_
      refine r_iload_n hc 1 dX9_state_27 rfl ?_
      refine r_iload_n hc 2 dX9_state_28 rfl ?_
      obtain ⟨q29, hq29, hf⟩ := o_bind hf
      refine r_callVi (ws' := (wM cy A q23)) (As := [.int x1, .int x2]) (rest := []) hc (c_X9_stateNow A q23 x1 x2 q29 hq29) kv_X9_stateNow mw_1100 0 rfl rfl _ _ _ (Sp_all _ _) rfl rfl (Nat.le_of_ble_eq_true rfl) ⟨by decide, by decide⟩ dX9_state_29 ?_
      exact r_iret hK (congrArg (fun z9 => z9.1) (Option.some.inj hf)) (congrArg (fun z9 => (wM cy A z9.2)) (Option.some.inj hf)) dX9_state_32
    · have hf := o_pos c_2 hf
      refine r_bipush hc (-2 : Int32) dX9_state_19 rfl ?_
      exact r_iret hK (congrArg (fun z9 => z9.1) (Option.some.inj hf)) (congrArg (fun z9 => (wM cy A z9.2)) (Option.some.inj hf)) dX9_state_21
  · have hf := o_pos c_1 hf
    refine r_iconst hc (-1 : Int32) dX9_state_8 rfl ?_
    exact r_iret hK (congrArg (fun z9 => z9.1) (Option.some.inj hf)) (congrArg (fun z9 => (wM cy A z9.2)) (Option.some.inj hf)) dX9_state_9
def f_X9_behind (z : MS) (x1 : Int32) (x2 : Int32) : Option (Int32 × MS) :=
  ((f_X9_isThere z x1).bind fun q2 => (if q2 = 0 then (some ((-1 : Int32), z)) else ((f_X9_in x2 (0 : Int32) (3 : Int32)).bind fun q13 => (if q13 = 0 then (some ((-2 : Int32), z)) else ((f_X9_barOfParty z).bind fun q23 => (if 0 ≤ q23.1 then ((f_X9_stateNow q23.2 x1 x2).bind fun q37 => (some (q37, q23.2))) else (some ((-5 : Int32), q23.2))))))))
theorem kv_X9_behind : KV RX9 yX9_behind cX9_behind 3 (some .int) 2 := ⟨mw_1105, mw_1106, mw_65, mw_1107, by decide +kernel⟩
set_option maxHeartbeats 8000000 in
set_option maxRecDepth 100000 in
theorem c_X9_behind {l : Launch} {E : va_G} {cy : Nat → ClassId} (A : Nat → Nat) (z : MS) (x1 : Int32) (x2 : Int32) (q : Int32 × MS) (hf : f_X9_behind z x1 x2 = some q) : Ci l yX9_behind cX9_behind 3 (some .int) 8 226 E cy [.ref (A 0), .int x1, .int x2] (wM cy A z) q.1 (wM cy A q.2) := by
  refine Ci.of RX9 (by decide) rfl (Nat.le_of_ble_eq_true rfl) ?_
  intro K hK
  have hc := hK.cq
  show V K (wM cy A z) 0 [(0, .ref (A 0)), (1, .int x1), (2, .int x2)] []
  unfold f_X9_behind at hf
  refine r_aload_n hc 0 dX9_behind_0 rfl ?_
  refine r_iload_n hc 1 dX9_behind_1 rfl ?_
  obtain ⟨q2, hq2, hf⟩ := o_bind hf
  refine r_callVi (ws' := (wM cy A z)) (As := [.int x1]) (rest := []) hc (c_X9_isThere A z x1 q2 hq2) kv_X9_isThere mw_996 0 rfl rfl _ _ _ (Sp_all _ _) rfl rfl (Nat.le_of_ble_eq_true rfl) ⟨by decide, by decide⟩ dX9_behind_2 ?_
  refine r_if_ne hc 10 dX9_behind_5 (by decide) (fun c_1 => ?_) (fun c_1 => ?_)
  · have hf := o_neg c_1 hf
    refine r_iload_n hc 2 dX9_behind_10 rfl ?_
    refine r_iconst hc (0 : Int32) dX9_behind_11 rfl ?_
    refine r_iconst hc (3 : Int32) dX9_behind_12 rfl ?_
    obtain ⟨q13, hq13, hf⟩ := o_bind hf
    refine r_callSi (ws' := (wM cy A z)) (As := [.int x2, .int (0 : Int32), .int (3 : Int32)]) (rest := []) hc (c_X9_in  x2 (0 : Int32) (3 : Int32) q13 hq13) ks_X9_in mw_955 _ _ _ (Sp_none _) rfl rfl (Nat.le_of_ble_eq_true rfl) ⟨by decide, by decide⟩ dX9_behind_13 ?_
    refine r_if_ne hc 22 dX9_behind_16 (by decide) (fun c_2 => ?_) (fun c_2 => ?_)
    · have hf := o_neg c_2 hf
      refine r_aload_n hc 0 dX9_behind_22 rfl ?_
      obtain ⟨q23, hq23, hf⟩ := o_bind hf
      refine r_callVi (ws' := (wM cy A q23.2)) (As := []) (rest := []) hc (c_X9_barOfParty A z q23 hq23) kv_X9_barOfParty mw_1092 0 rfl rfl _ _ _ (Sp_all _ _) rfl rfl (Nat.le_of_ble_eq_true rfl) ⟨by decide, by decide⟩ dX9_behind_23 ?_
      refine r_if_ge hc 34 dX9_behind_26 (by decide) (fun c_3 => ?_) (fun c_3 => ?_)
      · have hf := o_pos c_3 hf
        refine r_aload_n hc 0 dX9_behind_34 rfl ?_
        refine r_iload_n hc 1 dX9_behind_35 rfl ?_
        refine r_iload_n hc 2 dX9_behind_36 rfl ?_
        obtain ⟨q37, hq37, hf⟩ := o_bind hf
        refine r_callVi (ws' := (wM cy A q23.2)) (As := [.int x1, .int x2]) (rest := []) hc (c_X9_stateNow A q23.2 x1 x2 q37 hq37) kv_X9_stateNow mw_1100 0 rfl rfl _ _ _ (Sp_all _ _) rfl rfl (Nat.le_of_ble_eq_true rfl) ⟨by decide, by decide⟩ dX9_behind_37 ?_
        exact r_iret hK (congrArg (fun z9 => z9.1) (Option.some.inj hf)) (congrArg (fun z9 => (wM cy A z9.2)) (Option.some.inj hf)) dX9_behind_40
      · have hf := o_neg c_3 hf
        refine r_bipush hc (-5 : Int32) dX9_behind_29 rfl ?_
        refine r_goto hc 40 dX9_behind_31 (by decide) ?_
        exact r_iret hK (congrArg (fun z9 => z9.1) (Option.some.inj hf)) (congrArg (fun z9 => (wM cy A z9.2)) (Option.some.inj hf)) dX9_behind_40
    · have hf := o_pos c_2 hf
      refine r_bipush hc (-2 : Int32) dX9_behind_19 rfl ?_
      exact r_iret hK (congrArg (fun z9 => z9.1) (Option.some.inj hf)) (congrArg (fun z9 => (wM cy A z9.2)) (Option.some.inj hf)) dX9_behind_21
  · have hf := o_pos c_1 hf
    refine r_iconst hc (-1 : Int32) dX9_behind_8 rfl ?_
    exact r_iret hK (congrArg (fun z9 => z9.1) (Option.some.inj hf)) (congrArg (fun z9 => (wM cy A z9.2)) (Option.some.inj hf)) dX9_behind_9
def f_X9_draw (z : MS) (x1 : Int32) (x2 : Int32) : Option (Int32 × MS) :=
  ((f_X9_isThere z x1).bind fun q2 => (if q2 = 0 then (some ((-1 : Int32), z)) else ((f_X9_isRoom z x2).bind fun q10 => (if q10 = 0 then (some ((-1 : Int32), z)) else ((f_X9_asNow z).bind fun q19 => ((f_X9_drawOf q19 x1 x2 (-6 : Int32) (0 : Int32)).bind fun q28 => (some ((q28 + (1000 : Int32)), q19))))))))
theorem kv_X9_draw : KV RX9 yX9_draw cX9_draw 3 (some .int) 2 := ⟨mw_1109, mw_1110, mw_65, mw_1111, by decide +kernel⟩
set_option maxHeartbeats 8000000 in
set_option maxRecDepth 100000 in
theorem c_X9_draw {l : Launch} {E : va_G} {cy : Nat → ClassId} (A : Nat → Nat) (z : MS) (x1 : Int32) (x2 : Int32) (q : Int32 × MS) (hf : f_X9_draw z x1 x2 = some q) : Ci l yX9_draw cX9_draw 3 (some .int) 4 131 E cy [.ref (A 0), .int x1, .int x2] (wM cy A z) q.1 (wM cy A q.2) := by
  refine Ci.of RX9 (by decide) rfl (Nat.le_of_ble_eq_true rfl) ?_
  intro K hK
  have hc := hK.cq
  show V K (wM cy A z) 0 [(0, .ref (A 0)), (1, .int x1), (2, .int x2)] []
  unfold f_X9_draw at hf
  refine r_aload_n hc 0 dX9_draw_0 rfl ?_
  refine r_iload_n hc 1 dX9_draw_1 rfl ?_
  obtain ⟨q2, hq2, hf⟩ := o_bind hf
  refine r_callVi (ws' := (wM cy A z)) (As := [.int x1]) (rest := []) hc (c_X9_isThere A z x1 q2 hq2) kv_X9_isThere mw_996 0 rfl rfl _ _ _ (Sp_all _ _) rfl rfl (Nat.le_of_ble_eq_true rfl) ⟨by decide, by decide⟩ dX9_draw_2 ?_
  refine r_if_eq hc 16 dX9_draw_5 (by decide) (fun c_1 => ?_) (fun c_1 => ?_)
  · have hf := o_pos c_1 hf
    refine r_iconst hc (-1 : Int32) dX9_draw_16 rfl ?_
    exact r_iret hK (congrArg (fun z9 => z9.1) (Option.some.inj hf)) (congrArg (fun z9 => (wM cy A z9.2)) (Option.some.inj hf)) dX9_draw_17
  · have hf := o_neg c_1 hf
    refine r_aload_n hc 0 dX9_draw_8 rfl ?_
    refine r_iload_n hc 2 dX9_draw_9 rfl ?_
    obtain ⟨q10, hq10, hf⟩ := o_bind hf
    refine r_callVi (ws' := (wM cy A z)) (As := [.int x2]) (rest := []) hc (c_X9_isRoom A z x2 q10 hq10) kv_X9_isRoom mw_962 0 rfl rfl _ _ _ (Sp_all _ _) rfl rfl (Nat.le_of_ble_eq_true rfl) ⟨by decide, by decide⟩ dX9_draw_10 ?_
    refine r_if_ne hc 18 dX9_draw_13 (by decide) (fun c_2 => ?_) (fun c_2 => ?_)
    · have hf := o_neg c_2 hf
      refine r_aload_n hc 0 dX9_draw_18 rfl ?_
      obtain ⟨q19, hq19, hf⟩ := o_bind hf
      refine r_callVv (ws' := (wM cy A q19)) (As := []) (rest := []) hc (c_X9_asNow A z q19 hq19) kv_X9_asNow mw_1028 0 rfl rfl _ _ _ (Sp_all _ _) rfl rfl (Nat.le_of_ble_eq_true rfl) ⟨by decide, by decide⟩ dX9_draw_19 ?_
      refine r_aload_n hc 0 dX9_draw_22 rfl ?_
      refine r_iload_n hc 1 dX9_draw_23 rfl ?_
      refine r_iload_n hc 2 dX9_draw_24 rfl ?_
      refine r_bipush hc (-6 : Int32) dX9_draw_25 rfl ?_
      refine r_iconst hc (0 : Int32) dX9_draw_27 rfl ?_
      obtain ⟨q28, hq28, hf⟩ := o_bind hf
      refine r_callVi (ws' := (wM cy A q19)) (As := [.int x1, .int x2, .int (-6 : Int32), .int (0 : Int32)]) (rest := []) hc (c_X9_drawOf A q19 x1 x2 (-6 : Int32) (0 : Int32) q28 hq28) kv_X9_drawOf mw_1044 0 rfl rfl _ _ _ (Sp_all _ _) rfl rfl (Nat.le_of_ble_eq_true rfl) ⟨by decide, by decide⟩ dX9_draw_28 ?_
      refine r_sipush hc (1000 : Int32) dX9_draw_31 rfl ?_
      refine r_iadd hc dX9_draw_34 ?_
      exact r_iret hK (congrArg (fun z9 => z9.1) (Option.some.inj hf)) (congrArg (fun z9 => (wM cy A z9.2)) (Option.some.inj hf)) dX9_draw_35
    · have hf := o_pos c_2 hf
      refine r_iconst hc (-1 : Int32) dX9_draw_16 rfl ?_
      exact r_iret hK (congrArg (fun z9 => z9.1) (Option.some.inj hf)) (congrArg (fun z9 => (wM cy A z9.2)) (Option.some.inj hf)) dX9_draw_17
def f_X9_goes (z : MS) (x1 : Int32) : Option (Int32 × MS) :=
  ((f_X9_isThere z x1).bind fun q2 => (if q2 = 0 then (some ((-1 : Int32), z)) else ((f_X9_asNow z).bind fun q11 => ((f_X9_shut q11).bind fun q15 => ((f_X9_isBusy q15 x1).bind fun q20 => (if q20 = 0 then ((f_X9_goal q15 x1 (-6 : Int32) (0 : Int32)).bind fun q36 => (some (q36, q15))) else (some ((-3 : Int32), q15))))))))
theorem kv_X9_goes : KV RX9 yX9_goes cX9_goes 2 (some .int) 1 := ⟨mw_1113, mw_1114, mw_65, mw_1115, by decide +kernel⟩
set_option maxHeartbeats 8000000 in
set_option maxRecDepth 100000 in
theorem c_X9_goes {l : Launch} {E : va_G} {cy : Nat → ClassId} (A : Nat → Nat) (z : MS) (x1 : Int32) (q : Int32 × MS) (hf : f_X9_goes z x1 = some q) : Ci l yX9_goes cX9_goes 2 (some .int) 5 159 E cy [.ref (A 0), .int x1] (wM cy A z) q.1 (wM cy A q.2) := by
  refine Ci.of RX9 (by decide) rfl (Nat.le_of_ble_eq_true rfl) ?_
  intro K hK
  have hc := hK.cq
  show V K (wM cy A z) 0 [(0, .ref (A 0)), (1, .int x1)] []
  unfold f_X9_goes at hf
  refine r_aload_n hc 0 dX9_goes_0 rfl ?_
  refine r_iload_n hc 1 dX9_goes_1 rfl ?_
  obtain ⟨q2, hq2, hf⟩ := o_bind hf
  refine r_callVi (ws' := (wM cy A z)) (As := [.int x1]) (rest := []) hc (c_X9_isThere A z x1 q2 hq2) kv_X9_isThere mw_996 0 rfl rfl _ _ _ (Sp_all _ _) rfl rfl (Nat.le_of_ble_eq_true rfl) ⟨by decide, by decide⟩ dX9_goes_2 ?_
  refine r_if_ne hc 10 dX9_goes_5 (by decide) (fun c_1 => ?_) (fun c_1 => ?_)
  · have hf := o_neg c_1 hf
    refine r_aload_n hc 0 dX9_goes_10 rfl ?_
    obtain ⟨q11, hq11, hf⟩ := o_bind hf
    refine r_callVv (ws' := (wM cy A q11)) (As := []) (rest := []) hc (c_X9_asNow A z q11 hq11) kv_X9_asNow mw_1028 0 rfl rfl _ _ _ (Sp_all _ _) rfl rfl (Nat.le_of_ble_eq_true rfl) ⟨by decide, by decide⟩ dX9_goes_11 ?_
    refine r_aload_n hc 0 dX9_goes_14 rfl ?_
    obtain ⟨q15, hq15, hf⟩ := o_bind hf
    refine r_callVv (ws' := (wM cy A q15)) (As := []) (rest := []) hc (c_X9_shut A q11 q15 hq15) kv_X9_shut mw_1036 0 rfl rfl _ _ _ (Sp_all _ _) rfl rfl (Nat.le_of_ble_eq_true rfl) ⟨by decide, by decide⟩ dX9_goes_15 ?_
    refine r_aload_n hc 0 dX9_goes_18 rfl ?_
    refine r_iload_n hc 1 dX9_goes_19 rfl ?_
    obtain ⟨q20, hq20, hf⟩ := o_bind hf
    refine r_callVi (ws' := (wM cy A q15)) (As := [.int x1]) (rest := []) hc (c_X9_isBusy A q15 x1 q20 hq20) kv_X9_isBusy mw_1068 0 rfl rfl _ _ _ (Sp_all _ _) rfl rfl (Nat.le_of_ble_eq_true rfl) ⟨by decide, by decide⟩ dX9_goes_20 ?_
    refine r_if_eq hc 31 dX9_goes_23 (by decide) (fun c_2 => ?_) (fun c_2 => ?_)
    · have hf := o_pos c_2 hf
      refine r_aload_n hc 0 dX9_goes_31 rfl ?_
      refine r_iload_n hc 1 dX9_goes_32 rfl ?_
      refine r_bipush hc (-6 : Int32) dX9_goes_33 rfl ?_
      refine r_iconst hc (0 : Int32) dX9_goes_35 rfl ?_
      obtain ⟨q36, hq36, hf⟩ := o_bind hf
      refine r_callVi (ws' := (wM cy A q15)) (As := [.int x1, .int (-6 : Int32), .int (0 : Int32)]) (rest := []) hc (c_X9_goal A q15 x1 (-6 : Int32) (0 : Int32) q36 hq36) kv_X9_goal mw_1040 0 rfl rfl _ _ _ (Sp_all _ _) rfl rfl (Nat.le_of_ble_eq_true rfl) ⟨by decide, by decide⟩ dX9_goes_36 ?_
      exact r_iret hK (congrArg (fun z9 => z9.1) (Option.some.inj hf)) (congrArg (fun z9 => (wM cy A z9.2)) (Option.some.inj hf)) dX9_goes_39
    · have hf := o_neg c_2 hf
      refine r_bipush hc (-3 : Int32) dX9_goes_26 rfl ?_
      refine r_goto hc 39 dX9_goes_28 (by decide) ?_
      exact r_iret hK (congrArg (fun z9 => z9.1) (Option.some.inj hf)) (congrArg (fun z9 => (wM cy A z9.2)) (Option.some.inj hf)) dX9_goes_39
  · have hf := o_pos c_1 hf
    refine r_iconst hc (-1 : Int32) dX9_goes_8 rfl ?_
    exact r_iret hK (congrArg (fun z9 => z9.1) (Option.some.inj hf)) (congrArg (fun z9 => (wM cy A z9.2)) (Option.some.inj hf)) dX9_goes_9
def X9_goMinutes_B2 (k2 : MS → Int32 → Int32 → Option (MS)) (z : MS) (x1 : Int32) (x2 : Int32) : Option (MS) :=
  (if x1 ≤ x2 then (some (z)) else ((f_X9_pass z).bind fun q8 => (k2 q8.2 x1 (x2 + (1 : Int32)))))
def f_X9_goMinutes (z : MS) (x1 : Int32) : Option (MS) :=
  (it X9_goMinutes_B2 (fun _ _ _ => none) FU z x1 (0 : Int32))
theorem kv_X9_goMinutes : KV RX9 yX9_goMinutes cX9_goMinutes 3 none 1 := ⟨mw_1122, mw_48, mw_65, mw_1123, by decide +kernel⟩
set_option maxHeartbeats 8000000 in
set_option maxRecDepth 100000 in
theorem c_X9_goMinutes {l : Launch} {E : va_G} {cy : Nat → ClassId} (A : Nat → Nat) (z : MS) (x1 : Int32) (q : MS) (hf : f_X9_goMinutes z x1 = some q) : Cv l yX9_goMinutes cX9_goMinutes 3 none 6 183 E cy [.ref (A 0), .int x1] (wM cy A z) (wM cy A q) := by
  refine Cv.of RX9 (by decide) rfl (Nat.le_of_ble_eq_true rfl) ?_
  intro K hK
  have hc := hK.cq
  have L2 : ∀ (n2 : Nat) (z : MS) (x1 : Int32) (x2 : Int32), it X9_goMinutes_B2 (fun _ _ _ => none) n2 z x1 x2 = some q → V K (wM cy A z) 2 [(0, .ref (A 0)), (1, .int x1), (2, .int x2)] [] := by
    intro n2
    induction n2 with
    | zero => intro z x1 x2 hf; exact (o_none hf).elim
    | succ n2 ih2 =>
      intro z x1 x2 hf
      replace hf : X9_goMinutes_B2 (it X9_goMinutes_B2 (fun _ _ _ => none) n2) z x1 x2 = some q := hf
      unfold X9_goMinutes_B2 at hf
      refine r_iload_n hc 2 dX9_goMinutes_2 rfl ?_
      refine r_iload_n hc 1 dX9_goMinutes_3 rfl ?_
      refine r_icmp_ge hc 18 dX9_goMinutes_4 (by decide) (fun c_1 => ?_) (fun c_1 => ?_)
      · have hf := o_pos c_1 hf
        exact r_vret hK (congrArg (fun z9 => (wM cy A z9)) (Option.some.inj hf)) dX9_goMinutes_18
      · have hf := o_neg c_1 hf
        refine r_aload_n hc 0 dX9_goMinutes_7 rfl ?_
        obtain ⟨q8, hq8, hf⟩ := o_bind hf
        refine r_callVi (ws' := (wM cy A q8.2)) (As := []) (rest := []) hc (c_X9_pass A z q8 hq8) kv_X9_pass mw_1032 0 rfl rfl _ _ _ (Sp_all _ _) rfl rfl (Nat.le_of_ble_eq_true rfl) ⟨by decide, by decide⟩ dX9_goMinutes_8 ?_
        refine r_pop hc dX9_goMinutes_11 rfl ?_
        refine r_iinc hc 2 [(2, .int (x2 + (1 : Int32))), (0, .ref (A 0)), (1, .int x1)] (x2 + (1 : Int32)) dX9_goMinutes_12 rfl rfl (by decide) rfl ?_
        refine r_goto hc 2 dX9_goMinutes_15 (by decide) ?_
        exact V.sub [1, 2, 0] rfl (ih2 q8.2 x1 (x2 + (1 : Int32)) hf)
  show V K (wM cy A z) 0 [(0, .ref (A 0)), (1, .int x1)] []
  unfold f_X9_goMinutes at hf
  refine r_iconst hc (0 : Int32) dX9_goMinutes_0 rfl ?_
  refine r_istore_n hc [(2, .int (0 : Int32)), (0, .ref (A 0)), (1, .int x1)] dX9_goMinutes_1 (by decide) rfl ?_
  exact V.sub [1, 2, 0] rfl (L2 FU z x1 (0 : Int32) hf)
def f_X9_after (z : MS) (x1 : Int32) (x2 : Int32) : Option (Int32 × MS) :=
  ((f_X9_isThere z x1).bind fun q2 => (if q2 = 0 then (some ((-1 : Int32), z)) else ((f_X9_in x2 (0 : Int32) (99 : Int32)).bind fun q14 => (if q14 = 0 then (some ((-2 : Int32), z)) else ((f_X9_asNow z).bind fun q24 => ((f_X9_goMinutes q24 x2).bind fun q29 => (chk x1 8 (some (((M_at q29) (x1).toNatClampNeg), q29)))))))))
theorem kv_X9_after : KV RX9 yX9_after cX9_after 3 (some .int) 2 := ⟨mw_1117, mw_1118, mw_65, mw_1119, by decide +kernel⟩
set_option maxHeartbeats 8000000 in
set_option maxRecDepth 100000 in
theorem c_X9_after {l : Launch} {E : va_G} {cy : Nat → ClassId} (A : Nat → Nat) (z : MS) (x1 : Int32) (x2 : Int32) (q : Int32 × MS) (hf : f_X9_after z x1 x2 = some q) : Ci l yX9_after cX9_after 3 (some .int) 7 205 E cy [.ref (A 0), .int x1, .int x2] (wM cy A z) q.1 (wM cy A q.2) := by
  refine Ci.of RX9 (by decide) rfl (Nat.le_of_ble_eq_true rfl) ?_
  intro K hK
  have hc := hK.cq
  show V K (wM cy A z) 0 [(0, .ref (A 0)), (1, .int x1), (2, .int x2)] []
  unfold f_X9_after at hf
  refine r_aload_n hc 0 dX9_after_0 rfl ?_
  refine r_iload_n hc 1 dX9_after_1 rfl ?_
  obtain ⟨q2, hq2, hf⟩ := o_bind hf
  refine r_callVi (ws' := (wM cy A z)) (As := [.int x1]) (rest := []) hc (c_X9_isThere A z x1 q2 hq2) kv_X9_isThere mw_996 0 rfl rfl _ _ _ (Sp_all _ _) rfl rfl (Nat.le_of_ble_eq_true rfl) ⟨by decide, by decide⟩ dX9_after_2 ?_
  refine r_if_ne hc 10 dX9_after_5 (by decide) (fun c_1 => ?_) (fun c_1 => ?_)
  · have hf := o_neg c_1 hf
    refine r_iload_n hc 2 dX9_after_10 rfl ?_
    refine r_iconst hc (0 : Int32) dX9_after_11 rfl ?_
    refine r_bipush hc (99 : Int32) dX9_after_12 rfl ?_
    obtain ⟨q14, hq14, hf⟩ := o_bind hf
    refine r_callSi (ws' := (wM cy A z)) (As := [.int x2, .int (0 : Int32), .int (99 : Int32)]) (rest := []) hc (c_X9_in  x2 (0 : Int32) (99 : Int32) q14 hq14) ks_X9_in mw_955 _ _ _ (Sp_none _) rfl rfl (Nat.le_of_ble_eq_true rfl) ⟨by decide, by decide⟩ dX9_after_14 ?_
    refine r_if_ne hc 23 dX9_after_17 (by decide) (fun c_2 => ?_) (fun c_2 => ?_)
    · have hf := o_neg c_2 hf
      refine r_aload_n hc 0 dX9_after_23 rfl ?_
      obtain ⟨q24, hq24, hf⟩ := o_bind hf
      refine r_callVv (ws' := (wM cy A q24)) (As := []) (rest := []) hc (c_X9_asNow A z q24 hq24) kv_X9_asNow mw_1028 0 rfl rfl _ _ _ (Sp_all _ _) rfl rfl (Nat.le_of_ble_eq_true rfl) ⟨by decide, by decide⟩ dX9_after_24 ?_
      refine r_aload_n hc 0 dX9_after_27 rfl ?_
      refine r_iload_n hc 2 dX9_after_28 rfl ?_
      obtain ⟨q29, hq29, hf⟩ := o_bind hf
      refine r_callVv (ws' := (wM cy A q29)) (As := [.int x2]) (rest := []) hc (c_X9_goMinutes A q24 x2 q29 hq29) kv_X9_goMinutes mw_1120 0 rfl rfl _ _ _ (Sp_all _ _) rfl rfl (Nat.le_of_ble_eq_true rfl) ⟨by decide, by decide⟩ dX9_after_29 ?_
      refine r_aload_n hc 0 dX9_after_32 rfl ?_
      refine r_get (v := .ref (A 12)) hc iw_X9 0 rfl rfl 15 (by decide) mw_875 rfl dX9_after_33 ?_
      refine r_iload_n hc 1 dX9_after_36 rfl ?_
      obtain ⟨i_3, hf⟩ := chk_some hf
      refine r_iald (f := (M_at q29)) hc 12 rfl i_3 dX9_after_37 ?_
      exact r_iret hK (congrArg (fun z9 => z9.1) (Option.some.inj hf)) (congrArg (fun z9 => (wM cy A z9.2)) (Option.some.inj hf)) dX9_after_38
    · have hf := o_pos c_2 hf
      refine r_bipush hc (-2 : Int32) dX9_after_20 rfl ?_
      exact r_iret hK (congrArg (fun z9 => z9.1) (Option.some.inj hf)) (congrArg (fun z9 => (wM cy A z9.2)) (Option.some.inj hf)) dX9_after_22
  · have hf := o_pos c_1 hf
    refine r_iconst hc (-1 : Int32) dX9_after_8 rfl ?_
    exact r_iret hK (congrArg (fun z9 => z9.1) (Option.some.inj hf)) (congrArg (fun z9 => (wM cy A z9.2)) (Option.some.inj hf)) dX9_after_9
def X9_crowdIn_J39 (k4 : MS → Int32 → Int32 → Int32 → Option (Int32)) (z : MS) (x1 : Int32) (x3 : Int32) (s0 : Int32) (s1 : Int32) : Option (Int32) :=
  (k4 z x1 (s1 ||| s0) (x3 + (1 : Int32)))
def X9_crowdIn_J38 (k4 : MS → Int32 → Int32 → Int32 → Option (Int32)) (z : MS) (x1 : Int32) (x3 : Int32) (s0 : Int32) : Option (Int32) :=
  (X9_crowdIn_J39 k4 z x1 x3 (0 : Int32) s0)
def X9_crowdIn_B4 (k4 : MS → Int32 → Int32 → Int32 → Option (Int32)) (z : MS) (x1 : Int32) (x2 : Int32) (x3 : Int32) : Option (Int32) :=
  (if (8 : Int32) ≤ x3 then (some (x2)) else ((f_X9_has (M_there z) x3).bind fun q16 => (if q16 = 0 then (X9_crowdIn_J38 k4 z x1 x3 x2) else (chk x3 8 (if ((M_at z) (x3).toNatClampNeg) = x1 then (X9_crowdIn_J39 k4 z x1 x3 ((1 : Int32) <<< (x3 &&& 31)) x2) else (X9_crowdIn_J38 k4 z x1 x3 x2))))))
def f_X9_crowdIn (z : MS) (x1 : Int32) : Option (Int32) :=
  (it X9_crowdIn_B4 (fun _ _ _ _ => none) FU z x1 (0 : Int32) (0 : Int32))
theorem kv_X9_crowdIn : KV RX9 yX9_crowdIn cX9_crowdIn 4 (some .int) 1 := ⟨mw_1130, mw_49, mw_65, mw_1131, by decide +kernel⟩
set_option maxHeartbeats 8000000 in
set_option maxRecDepth 100000 in
theorem c_X9_crowdIn {l : Launch} {E : va_G} {cy : Nat → ClassId} (A : Nat → Nat) (z : MS) (x1 : Int32) (q : Int32) (hf : f_X9_crowdIn z x1 = some q) : Ci l yX9_crowdIn cX9_crowdIn 4 (some .int) 2 81 E cy [.ref (A 0), .int x1] (wM cy A z) q (wM cy A z) := by
  refine Ci.of RX9 (by decide) rfl (Nat.le_of_ble_eq_true rfl) ?_
  intro K hK
  have hc := hK.cq
  have L4 : ∀ (n4 : Nat) (x1 : Int32) (x2 : Int32) (x3 : Int32), it X9_crowdIn_B4 (fun _ _ _ _ => none) n4 z x1 x2 x3 = some q → V K (wM cy A z) 4 [(0, .ref (A 0)), (1, .int x1), (2, .int x2), (3, .int x3)] [] := by
    intro n4
    induction n4 with
    | zero => intro x1 x2 x3 hf; exact (o_none hf).elim
    | succ n4 ih4 =>
      have J39 : ∀ (x1 : Int32) (x3 : Int32) (s0 : Int32) (s1 : Int32), X9_crowdIn_J39 (it X9_crowdIn_B4 (fun _ _ _ _ => none) n4) z x1 x3 s0 s1 = some q → V K (wM cy A z) 39 [(0, .ref (A 0)), (1, .int x1), (3, .int x3)] [.int s0, .int s1] := by
        intro x1 x3 s0 s1 hf
        unfold X9_crowdIn_J39 at hf
        refine r_ior hc dX9_crowdIn_39 ?_
        refine r_istore_n hc [(2, .int (s1 ||| s0)), (0, .ref (A 0)), (1, .int x1), (3, .int x3)] dX9_crowdIn_40 (by decide) rfl ?_
        refine r_iinc hc 3 [(3, .int (x3 + (1 : Int32))), (2, .int (s1 ||| s0)), (0, .ref (A 0)), (1, .int x1)] (x3 + (1 : Int32)) dX9_crowdIn_41 rfl rfl (by decide) rfl ?_
        refine r_goto hc 4 dX9_crowdIn_44 (by decide) ?_
        exact V.sub [2, 3, 1, 0] rfl (ih4 x1 (s1 ||| s0) (x3 + (1 : Int32)) hf)
      have J38 : ∀ (x1 : Int32) (x3 : Int32) (s0 : Int32), X9_crowdIn_J38 (it X9_crowdIn_B4 (fun _ _ _ _ => none) n4) z x1 x3 s0 = some q → V K (wM cy A z) 38 [(0, .ref (A 0)), (1, .int x1), (3, .int x3)] [.int s0] := by
        intro x1 x3 s0 hf
        unfold X9_crowdIn_J38 at hf
        refine r_iconst hc (0 : Int32) dX9_crowdIn_38 rfl ?_
        exact V.sub [0, 1, 2] rfl (J39 x1 x3 (0 : Int32) s0 hf)
      intro x1 x2 x3 hf
      replace hf : X9_crowdIn_B4 (it X9_crowdIn_B4 (fun _ _ _ _ => none) n4) z x1 x2 x3 = some q := hf
      unfold X9_crowdIn_B4 at hf
      refine r_iload_n hc 3 dX9_crowdIn_4 rfl ?_
      refine r_bipush hc (8 : Int32) dX9_crowdIn_5 rfl ?_
      refine r_icmp_ge hc 47 dX9_crowdIn_7 (by decide) (fun c_1 => ?_) (fun c_1 => ?_)
      · have hf := o_pos c_1 hf
        refine r_iload_n hc 2 dX9_crowdIn_47 rfl ?_
        exact r_iret hK (Option.some.inj hf) rfl dX9_crowdIn_48
      · have hf := o_neg c_1 hf
        refine r_iload_n hc 2 dX9_crowdIn_10 rfl ?_
        refine r_aload_n hc 0 dX9_crowdIn_11 rfl ?_
        refine r_get (v := .int (M_there z)) hc iw_X9 0 rfl rfl 5 (by decide) mw_865 rfl dX9_crowdIn_12 ?_
        refine r_iload_n hc 3 dX9_crowdIn_15 rfl ?_
        obtain ⟨q16, hq16, hf⟩ := o_bind hf
        refine r_callSi (ws' := (wM cy A z)) (As := [.int (M_there z), .int x3]) (rest := [.int x2]) hc (c_X9_has  (M_there z) x3 q16 hq16) ks_X9_has mw_970 _ _ _ (Sp_none _) rfl rfl (Nat.le_of_ble_eq_true rfl) ⟨by decide, by decide⟩ dX9_crowdIn_16 ?_
        refine r_if_eq hc 38 dX9_crowdIn_19 (by decide) (fun c_2 => ?_) (fun c_2 => ?_)
        · have hf := o_pos c_2 hf
          exact V.sub [0, 1, 3] rfl (J38 x1 x3 x2 hf)
        · have hf := o_neg c_2 hf
          refine r_aload_n hc 0 dX9_crowdIn_22 rfl ?_
          refine r_get (v := .ref (A 12)) hc iw_X9 0 rfl rfl 15 (by decide) mw_875 rfl dX9_crowdIn_23 ?_
          refine r_iload_n hc 3 dX9_crowdIn_26 rfl ?_
          obtain ⟨i_3, hf⟩ := chk_some hf
          refine r_iald (f := (M_at z)) hc 12 rfl i_3 dX9_crowdIn_27 ?_
          refine r_iload_n hc 1 dX9_crowdIn_28 rfl ?_
          refine r_icmp_ne hc 38 dX9_crowdIn_29 (by decide) (fun c_4 => ?_) (fun c_4 => ?_)
          · have hf := o_neg c_4 hf
            exact V.sub [0, 1, 3] rfl (J38 x1 x3 x2 hf)
          · have hf := o_pos c_4 hf
            refine r_iconst hc (1 : Int32) dX9_crowdIn_32 rfl ?_
            refine r_iload_n hc 3 dX9_crowdIn_33 rfl ?_
            refine r_ishl hc dX9_crowdIn_34 ?_
            refine r_goto hc 39 dX9_crowdIn_35 (by decide) ?_
            exact V.sub [0, 1, 3] rfl (J39 x1 x3 ((1 : Int32) <<< (x3 &&& 31)) x2 hf)
  show V K (wM cy A z) 0 [(0, .ref (A 0)), (1, .int x1)] []
  unfold f_X9_crowdIn at hf
  refine r_iconst hc (0 : Int32) dX9_crowdIn_0 rfl ?_
  refine r_istore_n hc [(2, .int (0 : Int32)), (0, .ref (A 0)), (1, .int x1)] dX9_crowdIn_1 (by decide) rfl ?_
  refine r_iconst hc (0 : Int32) dX9_crowdIn_2 rfl ?_
  refine r_istore_n hc [(3, .int (0 : Int32)), (2, .int (0 : Int32)), (0, .ref (A 0)), (1, .int x1)] dX9_crowdIn_3 (by decide) rfl ?_
  exact V.sub [2, 3, 1, 0] rfl (L4 FU x1 (0 : Int32) (0 : Int32) hf)
def f_X9_crowd (z : MS) (x1 : Int32) (x2 : Int32) : Option (Int32 × MS) :=
  ((f_X9_isRoom z x1).bind fun q2 => (if q2 = 0 then (some ((-1 : Int32), z)) else ((f_X9_in x2 (0 : Int32) (99 : Int32)).bind fun q14 => (if q14 = 0 then (some ((-2 : Int32), z)) else ((f_X9_asNow z).bind fun q24 => ((f_X9_goMinutes q24 x2).bind fun q29 => ((f_X9_crowdIn q29 x1).bind fun q34 => (some (q34, q29)))))))))
theorem kv_X9_crowd : KV RX9 yX9_crowd cX9_crowd 3 (some .int) 2 := ⟨mw_1125, mw_1126, mw_65, mw_1127, by decide +kernel⟩
set_option maxHeartbeats 8000000 in
set_option maxRecDepth 100000 in
theorem c_X9_crowd {l : Launch} {E : va_G} {cy : Nat → ClassId} (A : Nat → Nat) (z : MS) (x1 : Int32) (x2 : Int32) (q : Int32 × MS) (hf : f_X9_crowd z x1 x2 = some q) : Ci l yX9_crowd cX9_crowd 3 (some .int) 7 205 E cy [.ref (A 0), .int x1, .int x2] (wM cy A z) q.1 (wM cy A q.2) := by
  refine Ci.of RX9 (by decide) rfl (Nat.le_of_ble_eq_true rfl) ?_
  intro K hK
  have hc := hK.cq
  show V K (wM cy A z) 0 [(0, .ref (A 0)), (1, .int x1), (2, .int x2)] []
  unfold f_X9_crowd at hf
  refine r_aload_n hc 0 dX9_crowd_0 rfl ?_
  refine r_iload_n hc 1 dX9_crowd_1 rfl ?_
  obtain ⟨q2, hq2, hf⟩ := o_bind hf
  refine r_callVi (ws' := (wM cy A z)) (As := [.int x1]) (rest := []) hc (c_X9_isRoom A z x1 q2 hq2) kv_X9_isRoom mw_962 0 rfl rfl _ _ _ (Sp_all _ _) rfl rfl (Nat.le_of_ble_eq_true rfl) ⟨by decide, by decide⟩ dX9_crowd_2 ?_
  refine r_if_ne hc 10 dX9_crowd_5 (by decide) (fun c_1 => ?_) (fun c_1 => ?_)
  · have hf := o_neg c_1 hf
    refine r_iload_n hc 2 dX9_crowd_10 rfl ?_
    refine r_iconst hc (0 : Int32) dX9_crowd_11 rfl ?_
    refine r_bipush hc (99 : Int32) dX9_crowd_12 rfl ?_
    obtain ⟨q14, hq14, hf⟩ := o_bind hf
    refine r_callSi (ws' := (wM cy A z)) (As := [.int x2, .int (0 : Int32), .int (99 : Int32)]) (rest := []) hc (c_X9_in  x2 (0 : Int32) (99 : Int32) q14 hq14) ks_X9_in mw_955 _ _ _ (Sp_none _) rfl rfl (Nat.le_of_ble_eq_true rfl) ⟨by decide, by decide⟩ dX9_crowd_14 ?_
    refine r_if_ne hc 23 dX9_crowd_17 (by decide) (fun c_2 => ?_) (fun c_2 => ?_)
    · have hf := o_neg c_2 hf
      refine r_aload_n hc 0 dX9_crowd_23 rfl ?_
      obtain ⟨q24, hq24, hf⟩ := o_bind hf
      refine r_callVv (ws' := (wM cy A q24)) (As := []) (rest := []) hc (c_X9_asNow A z q24 hq24) kv_X9_asNow mw_1028 0 rfl rfl _ _ _ (Sp_all _ _) rfl rfl (Nat.le_of_ble_eq_true rfl) ⟨by decide, by decide⟩ dX9_crowd_24 ?_
      refine r_aload_n hc 0 dX9_crowd_27 rfl ?_
      refine r_iload_n hc 2 dX9_crowd_28 rfl ?_
      obtain ⟨q29, hq29, hf⟩ := o_bind hf
      refine r_callVv (ws' := (wM cy A q29)) (As := [.int x2]) (rest := []) hc (c_X9_goMinutes A q24 x2 q29 hq29) kv_X9_goMinutes mw_1120 0 rfl rfl _ _ _ (Sp_all _ _) rfl rfl (Nat.le_of_ble_eq_true rfl) ⟨by decide, by decide⟩ dX9_crowd_29 ?_
      refine r_aload_n hc 0 dX9_crowd_32 rfl ?_
      refine r_iload_n hc 1 dX9_crowd_33 rfl ?_
      obtain ⟨q34, hq34, hf⟩ := o_bind hf
      refine r_callVi (ws' := (wM cy A q29)) (As := [.int x1]) (rest := []) hc (c_X9_crowdIn A q29 x1 q34 hq34) kv_X9_crowdIn mw_1128 0 rfl rfl _ _ _ (Sp_all _ _) rfl rfl (Nat.le_of_ble_eq_true rfl) ⟨by decide, by decide⟩ dX9_crowd_34 ?_
      exact r_iret hK (congrArg (fun z9 => z9.1) (Option.some.inj hf)) (congrArg (fun z9 => (wM cy A z9.2)) (Option.some.inj hf)) dX9_crowd_37
    · have hf := o_pos c_2 hf
      refine r_bipush hc (-2 : Int32) dX9_crowd_20 rfl ?_
      exact r_iret hK (congrArg (fun z9 => z9.1) (Option.some.inj hf)) (congrArg (fun z9 => (wM cy A z9.2)) (Option.some.inj hf)) dX9_crowd_22
  · have hf := o_pos c_1 hf
    refine r_iconst hc (-1 : Int32) dX9_crowd_8 rfl ?_
    exact r_iret hK (congrArg (fun z9 => z9.1) (Option.some.inj hf)) (congrArg (fun z9 => (wM cy A z9.2)) (Option.some.inj hf)) dX9_crowd_9
def X9_stillAt_J72 (k6 : MS → Int32 → Option (Int32 × MS)) (z : MS) (x1 : Int32) : Option (Int32 × MS) :=
  (k6 z (x1 + (1 : Int32)))
def X9_stillAt_J52 (k6 : MS → Int32 → Option (Int32 × MS)) (k16 : MS → Int32 → Int32 → Int32 → Option (Int32 × MS)) (z : MS) (x1 : Int32) (x3 : Int32) (s0 : Int32) : Option (Int32 × MS) :=
  (k16 z x1 s0 (x3 + (1 : Int32)))
def X9_stillAt_J51 (k6 : MS → Int32 → Option (Int32 × MS)) (k16 : MS → Int32 → Int32 → Int32 → Option (Int32 × MS)) (z : MS) (x1 : Int32) (x3 : Int32) : Option (Int32 × MS) :=
  (X9_stillAt_J52 k6 k16 z x1 x3 (0 : Int32))
def X9_stillAt_J47 (k6 : MS → Int32 → Option (Int32 × MS)) (k16 : MS → Int32 → Int32 → Int32 → Option (Int32 × MS)) (z : MS) (x1 : Int32) (x3 : Int32) : Option (Int32 × MS) :=
  (X9_stillAt_J52 k6 k16 z x1 x3 (1 : Int32))
def X9_stillAt_B16 (k6 : MS → Int32 → Option (Int32 × MS)) (k16 : MS → Int32 → Int32 → Int32 → Option (Int32 × MS)) (z : MS) (x1 : Int32) (x2 : Int32) (x3 : Int32) : Option (Int32 × MS) :=
  (if (8 : Int32) ≤ x3 then ((f_X9_pass z).bind fun q60 => (if q60.1 = 0 then (if x2 = 0 then (some (x1, q60.2)) else (X9_stillAt_J72 k6 q60.2 x1)) else (X9_stillAt_J72 k6 q60.2 x1))) else (if x2 = 0 then ((f_X9_has (M_there z) x3).bind fun q31 => (if q31 = 0 then (X9_stillAt_J51 k6 k16 z x1 x3) else (chk x3 8 (if ((M_busyNow z) (x3).toNatClampNeg) = (1 : Int32) then (X9_stillAt_J47 k6 k16 z x1 x3) else (X9_stillAt_J51 k6 k16 z x1 x3))))) else (X9_stillAt_J47 k6 k16 z x1 x3)))
def X9_stillAt_B6 (k6 : MS → Int32 → Option (Int32 × MS)) (z : MS) (x1 : Int32) : Option (Int32 × MS) :=
  (if (100 : Int32) ≤ x1 then (some ((-6 : Int32), z)) else (it (X9_stillAt_B16 k6) (fun _ _ _ _ => none) FU z x1 (0 : Int32) (0 : Int32)))
def f_X9_stillAt (z : MS) : Option (Int32 × MS) :=
  ((f_X9_asNow z).bind fun q1 => (it X9_stillAt_B6 (fun _ _ => none) FU q1 (1 : Int32)))
theorem kv_X9_stillAt : KV RX9 yX9_stillAt cX9_stillAt 4 (some .int) 0 := ⟨mw_1138, mw_50, mw_65, mw_1139, by decide +kernel⟩
set_option maxHeartbeats 8000000 in
set_option maxRecDepth 100000 in
theorem c_X9_stillAt {l : Launch} {E : va_G} {cy : Nat → ClassId} (A : Nat → Nat) (z : MS) (q : Int32 × MS) (hf : f_X9_stillAt z = some q) : Ci l yX9_stillAt cX9_stillAt 4 (some .int) 6 183 E cy [.ref (A 0)] (wM cy A z) q.1 (wM cy A q.2) := by
  refine Ci.of RX9 (by decide) rfl (Nat.le_of_ble_eq_true rfl) ?_
  intro K hK
  have hc := hK.cq
  have L6 : ∀ (n6 : Nat) (z : MS) (x1 : Int32), it X9_stillAt_B6 (fun _ _ => none) n6 z x1 = some q → V K (wM cy A z) 6 [(0, .ref (A 0)), (1, .int x1)] [] := by
    intro n6
    induction n6 with
    | zero => intro z x1 hf; exact (o_none hf).elim
    | succ n6 ih6 =>
      have J72 : ∀ (z : MS) (x1 : Int32), X9_stillAt_J72 (it X9_stillAt_B6 (fun _ _ => none) n6) z x1 = some q → V K (wM cy A z) 72 [(0, .ref (A 0)), (1, .int x1)] [] := by
        intro z x1 hf
        unfold X9_stillAt_J72 at hf
        refine r_iinc hc 1 [(1, .int (x1 + (1 : Int32))), (0, .ref (A 0))] (x1 + (1 : Int32)) dX9_stillAt_72 rfl rfl (by decide) rfl ?_
        refine r_goto hc 6 dX9_stillAt_75 (by decide) ?_
        exact V.sub [1, 0] rfl (ih6 z (x1 + (1 : Int32)) hf)
      have L16 : ∀ (n16 : Nat) (z : MS) (x1 : Int32) (x2 : Int32) (x3 : Int32), it (X9_stillAt_B16 (it X9_stillAt_B6 (fun _ _ => none) n6)) (fun _ _ _ _ => none) n16 z x1 x2 x3 = some q → V K (wM cy A z) 16 [(0, .ref (A 0)), (1, .int x1), (2, .int x2), (3, .int x3)] [] := by
        intro n16
        induction n16 with
        | zero => intro z x1 x2 x3 hf; exact (o_none hf).elim
        | succ n16 ih16 =>
          have J52 : ∀ (z : MS) (x1 : Int32) (x3 : Int32) (s0 : Int32), X9_stillAt_J52 (it X9_stillAt_B6 (fun _ _ => none) n6) (it (X9_stillAt_B16 (it X9_stillAt_B6 (fun _ _ => none) n6)) (fun _ _ _ _ => none) n16) z x1 x3 s0 = some q → V K (wM cy A z) 52 [(0, .ref (A 0)), (1, .int x1), (3, .int x3)] [.int s0] := by
            intro z x1 x3 s0 hf
            unfold X9_stillAt_J52 at hf
            refine r_istore_n hc [(2, .int s0), (0, .ref (A 0)), (1, .int x1), (3, .int x3)] dX9_stillAt_52 (by decide) rfl ?_
            refine r_iinc hc 3 [(3, .int (x3 + (1 : Int32))), (2, .int s0), (0, .ref (A 0)), (1, .int x1)] (x3 + (1 : Int32)) dX9_stillAt_53 rfl rfl (by decide) rfl ?_
            refine r_goto hc 16 dX9_stillAt_56 (by decide) ?_
            exact V.sub [2, 3, 1, 0] rfl (ih16 z x1 s0 (x3 + (1 : Int32)) hf)
          have J51 : ∀ (z : MS) (x1 : Int32) (x3 : Int32), X9_stillAt_J51 (it X9_stillAt_B6 (fun _ _ => none) n6) (it (X9_stillAt_B16 (it X9_stillAt_B6 (fun _ _ => none) n6)) (fun _ _ _ _ => none) n16) z x1 x3 = some q → V K (wM cy A z) 51 [(0, .ref (A 0)), (1, .int x1), (3, .int x3)] [] := by
            intro z x1 x3 hf
            unfold X9_stillAt_J51 at hf
            refine r_iconst hc (0 : Int32) dX9_stillAt_51 rfl ?_
            exact V.sub [0, 1, 2] rfl (J52 z x1 x3 (0 : Int32) hf)
          have J47 : ∀ (z : MS) (x1 : Int32) (x3 : Int32), X9_stillAt_J47 (it X9_stillAt_B6 (fun _ _ => none) n6) (it (X9_stillAt_B16 (it X9_stillAt_B6 (fun _ _ => none) n6)) (fun _ _ _ _ => none) n16) z x1 x3 = some q → V K (wM cy A z) 47 [(0, .ref (A 0)), (1, .int x1), (3, .int x3)] [] := by
            intro z x1 x3 hf
            unfold X9_stillAt_J47 at hf
            refine r_iconst hc (1 : Int32) dX9_stillAt_47 rfl ?_
            refine r_goto hc 52 dX9_stillAt_48 (by decide) ?_
            exact V.sub [0, 1, 2] rfl (J52 z x1 x3 (1 : Int32) hf)
          intro z x1 x2 x3 hf
          replace hf : X9_stillAt_B16 (it X9_stillAt_B6 (fun _ _ => none) n6) (it (X9_stillAt_B16 (it X9_stillAt_B6 (fun _ _ => none) n6)) (fun _ _ _ _ => none) n16) z x1 x2 x3 = some q := hf
          unfold X9_stillAt_B16 at hf
          refine r_iload_n hc 3 dX9_stillAt_16 rfl ?_
          refine r_bipush hc (8 : Int32) dX9_stillAt_17 rfl ?_
          refine r_icmp_ge hc 59 dX9_stillAt_19 (by decide) (fun c_2 => ?_) (fun c_2 => ?_)
          · have hf := o_pos c_2 hf
            refine r_aload_n hc 0 dX9_stillAt_59 rfl ?_
            obtain ⟨q60, hq60, hf⟩ := o_bind hf
            refine r_callVi (ws' := (wM cy A q60.2)) (As := []) (rest := []) hc (c_X9_pass A z q60 hq60) kv_X9_pass mw_1032 0 rfl rfl _ _ _ (Sp_all _ _) rfl rfl (Nat.le_of_ble_eq_true rfl) ⟨by decide, by decide⟩ dX9_stillAt_60 ?_
            refine r_if_ne hc 72 dX9_stillAt_63 (by decide) (fun c_3 => ?_) (fun c_3 => ?_)
            · have hf := o_neg c_3 hf
              exact V.sub [0, 1] rfl (J72 q60.2 x1 hf)
            · have hf := o_pos c_3 hf
              refine r_iload_n hc 2 dX9_stillAt_66 rfl ?_
              refine r_if_ne hc 72 dX9_stillAt_67 (by decide) (fun c_4 => ?_) (fun c_4 => ?_)
              · have hf := o_neg c_4 hf
                exact V.sub [0, 1] rfl (J72 q60.2 x1 hf)
              · have hf := o_pos c_4 hf
                refine r_iload_n hc 1 dX9_stillAt_70 rfl ?_
                exact r_iret hK (congrArg (fun z9 => z9.1) (Option.some.inj hf)) (congrArg (fun z9 => (wM cy A z9.2)) (Option.some.inj hf)) dX9_stillAt_71
          · have hf := o_neg c_2 hf
            refine r_iload_n hc 2 dX9_stillAt_22 rfl ?_
            refine r_if_ne hc 47 dX9_stillAt_23 (by decide) (fun c_5 => ?_) (fun c_5 => ?_)
            · have hf := o_neg c_5 hf
              exact V.sub [0, 1, 3] rfl (J47 z x1 x3 hf)
            · have hf := o_pos c_5 hf
              refine r_aload_n hc 0 dX9_stillAt_26 rfl ?_
              refine r_get (v := .int (M_there z)) hc iw_X9 0 rfl rfl 5 (by decide) mw_865 rfl dX9_stillAt_27 ?_
              refine r_iload_n hc 3 dX9_stillAt_30 rfl ?_
              obtain ⟨q31, hq31, hf⟩ := o_bind hf
              refine r_callSi (ws' := (wM cy A z)) (As := [.int (M_there z), .int x3]) (rest := []) hc (c_X9_has  (M_there z) x3 q31 hq31) ks_X9_has mw_970 _ _ _ (Sp_none _) rfl rfl (Nat.le_of_ble_eq_true rfl) ⟨by decide, by decide⟩ dX9_stillAt_31 ?_
              refine r_if_eq hc 51 dX9_stillAt_34 (by decide) (fun c_6 => ?_) (fun c_6 => ?_)
              · have hf := o_pos c_6 hf
                exact V.sub [0, 1, 3] rfl (J51 z x1 x3 hf)
              · have hf := o_neg c_6 hf
                refine r_aload_n hc 0 dX9_stillAt_37 rfl ?_
                refine r_get (v := .ref (A 13)) hc iw_X9 0 rfl rfl 16 (by decide) mw_876 rfl dX9_stillAt_38 ?_
                refine r_iload_n hc 3 dX9_stillAt_41 rfl ?_
                obtain ⟨i_7, hf⟩ := chk_some hf
                refine r_iald (f := (M_busyNow z)) hc 13 rfl i_7 dX9_stillAt_42 ?_
                refine r_iconst hc (1 : Int32) dX9_stillAt_43 rfl ?_
                refine r_icmp_ne hc 51 dX9_stillAt_44 (by decide) (fun c_8 => ?_) (fun c_8 => ?_)
                · have hf := o_neg c_8 hf
                  exact V.sub [0, 1, 3] rfl (J51 z x1 x3 hf)
                · have hf := o_pos c_8 hf
                  exact V.sub [0, 1, 3] rfl (J47 z x1 x3 hf)
      intro z x1 hf
      replace hf : X9_stillAt_B6 (it X9_stillAt_B6 (fun _ _ => none) n6) z x1 = some q := hf
      unfold X9_stillAt_B6 at hf
      refine r_iload_n hc 1 dX9_stillAt_6 rfl ?_
      refine r_bipush hc (100 : Int32) dX9_stillAt_7 rfl ?_
      refine r_icmp_ge hc 78 dX9_stillAt_9 (by decide) (fun c_1 => ?_) (fun c_1 => ?_)
      · have hf := o_pos c_1 hf
        refine r_bipush hc (-6 : Int32) dX9_stillAt_78 rfl ?_
        exact r_iret hK (congrArg (fun z9 => z9.1) (Option.some.inj hf)) (congrArg (fun z9 => (wM cy A z9.2)) (Option.some.inj hf)) dX9_stillAt_80
      · have hf := o_neg c_1 hf
        refine r_iconst hc (0 : Int32) dX9_stillAt_12 rfl ?_
        refine r_istore_n hc [(2, .int (0 : Int32)), (0, .ref (A 0)), (1, .int x1)] dX9_stillAt_13 (by decide) rfl ?_
        refine r_iconst hc (0 : Int32) dX9_stillAt_14 rfl ?_
        refine r_istore_n hc [(3, .int (0 : Int32)), (2, .int (0 : Int32)), (0, .ref (A 0)), (1, .int x1)] dX9_stillAt_15 (by decide) rfl ?_
        exact V.sub [2, 3, 1, 0] rfl (L16 FU z x1 (0 : Int32) (0 : Int32) hf)
  show V K (wM cy A z) 0 [(0, .ref (A 0))] []
  unfold f_X9_stillAt at hf
  refine r_aload_n hc 0 dX9_stillAt_0 rfl ?_
  obtain ⟨q1, hq1, hf⟩ := o_bind hf
  refine r_callVv (ws' := (wM cy A q1)) (As := []) (rest := []) hc (c_X9_asNow A z q1 hq1) kv_X9_asNow mw_1028 0 rfl rfl _ _ _ (Sp_all _ _) rfl rfl (Nat.le_of_ble_eq_true rfl) ⟨by decide, by decide⟩ dX9_stillAt_1 ?_
  refine r_iconst hc (1 : Int32) dX9_stillAt_4 rfl ?_
  refine r_istore_n hc [(1, .int (1 : Int32)), (0, .ref (A 0))] dX9_stillAt_5 (by decide) rfl ?_
  exact V.sub [1, 0] rfl (L6 FU q1 (1 : Int32) hf)
def f_X9_still (z : MS) : Option (Int32 × MS) :=
  ((f_X9_stillAt z).bind fun q1 => (some (q1.1, q1.2)))
theorem kv_X9_still : KV RX9 yX9_still cX9_still 1 (some .int) 0 := ⟨mw_1133, mw_1134, mw_65, mw_1135, by decide +kernel⟩
set_option maxHeartbeats 8000000 in
set_option maxRecDepth 100000 in
theorem c_X9_still {l : Launch} {E : va_G} {cy : Nat → ClassId} (A : Nat → Nat) (z : MS) (q : Int32 × MS) (hf : f_X9_still z = some q) : Ci l yX9_still cX9_still 1 (some .int) 7 206 E cy [.ref (A 0)] (wM cy A z) q.1 (wM cy A q.2) := by
  refine Ci.of RX9 (by decide) rfl (Nat.le_of_ble_eq_true rfl) ?_
  intro K hK
  have hc := hK.cq
  show V K (wM cy A z) 0 [(0, .ref (A 0))] []
  unfold f_X9_still at hf
  refine r_aload_n hc 0 dX9_still_0 rfl ?_
  obtain ⟨q1, hq1, hf⟩ := o_bind hf
  refine r_callVi (ws' := (wM cy A q1.2)) (As := []) (rest := []) hc (c_X9_stillAt A z q1 hq1) kv_X9_stillAt mw_1136 0 rfl rfl _ _ _ (Sp_all _ _) rfl rfl (Nat.le_of_ble_eq_true rfl) ⟨by decide, by decide⟩ dX9_still_1 ?_
  exact r_iret hK (congrArg (fun z9 => z9.1) (Option.some.inj hf)) (congrArg (fun z9 => (wM cy A z9.2)) (Option.some.inj hf)) dX9_still_4
