def X9_image_B224 (k224 : MS → Int32 → Int32 → Int32 → Option (Int32 × MS)) (z : MS) (x1 : Int32) (x2 : Int32) (x3 : Int32) : Option (Int32 × MS) :=
  (if (6 : Int32) ≤ x3 then (chk (x2 + (156 : Int32)) 400 (ltA (M_set_image z (upd (M_image z) ((x2 + (156 : Int32))).toNatClampNeg (M_rooms z))) fun z285 => (chk (x2 + (157 : Int32)) 400 (ltA (M_set_image z285 (upd (M_image z285) ((x2 + (157 : Int32))).toNatClampNeg (M_there z285))) fun z299 => (chk (x2 + (158 : Int32)) 400 (ltA (M_set_image z299 (upd (M_image z299) ((x2 + (158 : Int32))).toNatClampNeg (M_sights z299))) fun z313 => (chk x1 2 (ltA (M_set_isKept z313 (upd (M_isKept z313) (x1).toNatClampNeg (vp_nar .boolean (1 : Int32)))) fun z320 => (some ((1 : Int32), z320)))))))))) else (chk x3 6 (chk ((x2 + (144 : Int32)) + x3) 400 (ltA (M_set_image z (upd (M_image z) (((x2 + (144 : Int32)) + x3)).toNatClampNeg ((M_size z) (x3).toNatClampNeg))) fun z247 => (chk x3 6 (chk ((x2 + (150 : Int32)) + x3) 400 (ltA (M_set_image z247 (upd (M_image z247) (((x2 + (150 : Int32)) + x3)).toNatClampNeg ((M_chairs z247) (x3).toNatClampNeg))) fun z265 => (k224 z265 x1 x2 (x3 + (1 : Int32))))))))))
def X9_image_B192 (k192 : MS → Int32 → Int32 → Int32 → Option (Int32 × MS)) (z : MS) (x1 : Int32) (x2 : Int32) (x3 : Int32) : Option (Int32 × MS) :=
  (if (12 : Int32) ≤ x3 then (it X9_image_B224 (fun _ _ _ _ => none) FU z x1 x2 (0 : Int32)) else (chk x3 12 (chk ((x2 + (132 : Int32)) + x3) 400 (ltA (M_set_image z (upd (M_image z) (((x2 + (132 : Int32)) + x3)).toNatClampNeg ((M_sight z) (x3).toNatClampNeg))) fun z215 => (k192 z215 x1 x2 (x3 + (1 : Int32)))))))
def X9_image_B110 (k110 : MS → Int32 → Int32 → Int32 → Option (Int32 × MS)) (z : MS) (x1 : Int32) (x2 : Int32) (x3 : Int32) : Option (Int32 × MS) :=
  (if (8 : Int32) ≤ x3 then (it X9_image_B192 (fun _ _ _ _ => none) FU z x1 x2 (0 : Int32)) else (chk x3 8 (chk ((x2 + (100 : Int32)) + x3) 400 (ltA (M_set_image z (upd (M_image z) (((x2 + (100 : Int32)) + x3)).toNatClampNeg ((M_place z) (x3).toNatClampNeg))) fun z132 => (chk x3 8 (chk ((x2 + (108 : Int32)) + x3) 400 (ltA (M_set_image z132 (upd (M_image z132) (((x2 + (108 : Int32)) + x3)).toNatClampNeg ((M_busy z132) (x3).toNatClampNeg))) fun z149 => (chk x3 8 (chk ((x2 + (116 : Int32)) + x3) 400 (ltA (M_set_image z149 (upd (M_image z149) (((x2 + (116 : Int32)) + x3)).toNatClampNeg ((M_with z149) (x3).toNatClampNeg))) fun z166 => (chk x3 8 (chk ((x2 + (124 : Int32)) + x3) 400 (ltA (M_set_image z166 (upd (M_image z166) (((x2 + (124 : Int32)) + x3)).toNatClampNeg ((M_left z166) (x3).toNatClampNeg))) fun z183 => (k110 z183 x1 x2 (x3 + (1 : Int32))))))))))))))))
def X9_image_B79 (k79 : MS → Int32 → Int32 → Int32 → Option (Int32 × MS)) (z : MS) (x1 : Int32) (x2 : Int32) (x3 : Int32) : Option (Int32 × MS) :=
  (if (40 : Int32) ≤ x3 then (it X9_image_B110 (fun _ _ _ _ => none) FU z x1 x2 (0 : Int32)) else (chk x3 40 (chk ((x2 + (60 : Int32)) + x3) 400 (ltA (M_set_image z (upd (M_image z) (((x2 + (60 : Int32)) + x3)).toNatClampNeg ((M_likes z) (x3).toNatClampNeg))) fun z101 => (k79 z101 x1 x2 (x3 + (1 : Int32)))))))
def X9_image_B48 (k48 : MS → Int32 → Int32 → Int32 → Option (Int32 × MS)) (z : MS) (x1 : Int32) (x2 : Int32) (x3 : Int32) : Option (Int32 × MS) :=
  (if (36 : Int32) ≤ x3 then (it X9_image_B79 (fun _ _ _ _ => none) FU z x1 x2 (0 : Int32)) else (chk x3 36 (chk ((x2 + (24 : Int32)) + x3) 400 (ltA (M_set_image z (upd (M_image z) (((x2 + (24 : Int32)) + x3)).toNatClampNeg ((M_width z) (x3).toNatClampNeg))) fun z70 => (k48 z70 x1 x2 (x3 + (1 : Int32)))))))
def X9_image_B20 (k20 : MS → Int32 → Int32 → Int32 → Option (Int32 × MS)) (z : MS) (x1 : Int32) (x2 : Int32) (x3 : Int32) : Option (Int32 × MS) :=
  (if (24 : Int32) ≤ x3 then (it X9_image_B48 (fun _ _ _ _ => none) FU z x1 x2 (0 : Int32)) else (chk x3 24 (chk (x2 + x3) 400 (ltA (M_set_image z (upd (M_image z) ((x2 + x3)).toNatClampNeg ((M_things z) (x3).toNatClampNeg))) fun z39 => (k20 z39 x1 x2 (x3 + (1 : Int32)))))))
def f_X9_image (z : MS) (x1 : Int32) : Option (Int32 × MS) :=
  ((f_X9_in x1 (0 : Int32) (1 : Int32)).bind fun q3 => (if q3 = 0 then (some ((-2 : Int32), z)) else (it X9_image_B20 (fun _ _ _ _ => none) FU z x1 ((200 : Int32) * x1) (0 : Int32))))
theorem kv_X9_image : KV RX9 yX9_image cX9_image 4 (some .int) 1 := ⟨mw_1212, mw_1213, mw_65, mw_1214, by decide +kernel⟩
set_option maxHeartbeats 8000000 in
set_option maxRecDepth 100000 in
theorem c_X9_image {l : Launch} {E : va_G} {cy : Nat → ClassId} (A : Nat → Nat) (z : MS) (x1 : Int32) (q : Int32 × MS) (hf : f_X9_image z x1 = some q) : Ci l yX9_image cX9_image 4 (some .int) 2 82 E cy [.ref (A 0), .int x1] (wM cy A z) q.1 (wM cy A q.2) := by
  refine Ci.of RX9 (by decide) rfl (Nat.le_of_ble_eq_true rfl) ?_
  intro K hK
  have hc := hK.cq
  have L224 : ∀ (n224 : Nat) (z : MS) (x1 : Int32) (x2 : Int32) (x3 : Int32), it X9_image_B224 (fun _ _ _ _ => none) n224 z x1 x2 x3 = some q → V K (wM cy A z) 224 [(0, .ref (A 0)), (1, .int x1), (2, .int x2), (3, .int x3)] [] := by
    intro n224
    induction n224 with
    | zero => intro z x1 x2 x3 hf; exact (o_none hf).elim
    | succ n224 ih224 =>
      intro z x1 x2 x3 hf
      replace hf : X9_image_B224 (it X9_image_B224 (fun _ _ _ _ => none) n224) z x1 x2 x3 = some q := hf
      unfold X9_image_B224 at hf
      refine r_iload_n hc 3 dX9_image_224 rfl ?_
      refine r_bipush hc (6 : Int32) dX9_image_225 rfl ?_
      refine r_icmp_ge hc 272 dX9_image_227 (by decide) (fun c_23 => ?_) (fun c_23 => ?_)
      · have hf := o_pos c_23 hf
        refine r_aload_n hc 0 dX9_image_272 rfl ?_
        refine r_get (v := .ref (A 22)) hc iw_X9 0 rfl rfl 28 (by decide) mw_888 rfl dX9_image_273 ?_
        refine r_iload_n hc 2 dX9_image_276 rfl ?_
        refine r_sipush hc (156 : Int32) dX9_image_277 rfl ?_
        refine r_iadd hc dX9_image_280 ?_
        refine r_aload_n hc 0 dX9_image_281 rfl ?_
        refine r_get (v := .int (M_rooms z)) hc iw_X9 0 rfl rfl 0 (by decide) mw_860 rfl dX9_image_282 ?_
        obtain ⟨i_24, hf⟩ := chk_some hf
        obtain ⟨z285, ez285, hf⟩ := lt_some hf
        refine r_iast (f := (M_image z)) hc 22 rfl i_24 dX9_image_285 _ rfl (wM cy A z285) (wM_s_image ez285) ?_
        refine r_aload_n hc 0 dX9_image_286 rfl ?_
        refine r_get (v := .ref (A 22)) hc iw_X9 0 rfl rfl 28 (by decide) mw_888 rfl dX9_image_287 ?_
        refine r_iload_n hc 2 dX9_image_290 rfl ?_
        refine r_sipush hc (157 : Int32) dX9_image_291 rfl ?_
        refine r_iadd hc dX9_image_294 ?_
        refine r_aload_n hc 0 dX9_image_295 rfl ?_
        refine r_get (v := .int (M_there z285)) hc iw_X9 0 rfl rfl 5 (by decide) mw_865 rfl dX9_image_296 ?_
        obtain ⟨i_25, hf⟩ := chk_some hf
        obtain ⟨z299, ez299, hf⟩ := lt_some hf
        refine r_iast (f := (M_image z285)) hc 22 rfl i_25 dX9_image_299 _ rfl (wM cy A z299) (wM_s_image ez299) ?_
        refine r_aload_n hc 0 dX9_image_300 rfl ?_
        refine r_get (v := .ref (A 22)) hc iw_X9 0 rfl rfl 28 (by decide) mw_888 rfl dX9_image_301 ?_
        refine r_iload_n hc 2 dX9_image_304 rfl ?_
        refine r_sipush hc (158 : Int32) dX9_image_305 rfl ?_
        refine r_iadd hc dX9_image_308 ?_
        refine r_aload_n hc 0 dX9_image_309 rfl ?_
        refine r_get (v := .int (M_sights z299)) hc iw_X9 0 rfl rfl 11 (by decide) mw_871 rfl dX9_image_310 ?_
        obtain ⟨i_26, hf⟩ := chk_some hf
        obtain ⟨z313, ez313, hf⟩ := lt_some hf
        refine r_iast (f := (M_image z299)) hc 22 rfl i_26 dX9_image_313 _ rfl (wM cy A z313) (wM_s_image ez313) ?_
        refine r_aload_n hc 0 dX9_image_314 rfl ?_
        refine r_get (v := .ref (A 23)) hc iw_X9 0 rfl rfl 29 (by decide) mw_889 rfl dX9_image_315 ?_
        refine r_iload_n hc 1 dX9_image_318 rfl ?_
        refine r_iconst hc (1 : Int32) dX9_image_319 rfl ?_
        obtain ⟨i_27, hf⟩ := chk_some hf
        obtain ⟨z320, ez320, hf⟩ := lt_some hf
        refine r_zast (f := (M_isKept z313)) hc 23 rfl i_27 dX9_image_320 _ rfl (wM cy A z320) (wM_s_isKept ez320) ?_
        refine r_iconst hc (1 : Int32) dX9_image_321 rfl ?_
        exact r_iret hK (congrArg (fun z9 => z9.1) (Option.some.inj hf)) (congrArg (fun z9 => (wM cy A z9.2)) (Option.some.inj hf)) dX9_image_322
      · have hf := o_neg c_23 hf
        refine r_aload_n hc 0 dX9_image_230 rfl ?_
        refine r_get (v := .ref (A 22)) hc iw_X9 0 rfl rfl 28 (by decide) mw_888 rfl dX9_image_231 ?_
        refine r_iload_n hc 2 dX9_image_234 rfl ?_
        refine r_sipush hc (144 : Int32) dX9_image_235 rfl ?_
        refine r_iadd hc dX9_image_238 ?_
        refine r_iload_n hc 3 dX9_image_239 rfl ?_
        refine r_iadd hc dX9_image_240 ?_
        refine r_aload_n hc 0 dX9_image_241 rfl ?_
        refine r_get (v := .ref (A 2)) hc iw_X9 0 rfl rfl 2 (by decide) mw_862 rfl dX9_image_242 ?_
        refine r_iload_n hc 3 dX9_image_245 rfl ?_
        obtain ⟨i_28, hf⟩ := chk_some hf
        refine r_iald (f := (M_size z)) hc 2 rfl i_28 dX9_image_246 ?_
        obtain ⟨i_29, hf⟩ := chk_some hf
        obtain ⟨z247, ez247, hf⟩ := lt_some hf
        refine r_iast (f := (M_image z)) hc 22 rfl i_29 dX9_image_247 _ rfl (wM cy A z247) (wM_s_image ez247) ?_
        refine r_aload_n hc 0 dX9_image_248 rfl ?_
        refine r_get (v := .ref (A 22)) hc iw_X9 0 rfl rfl 28 (by decide) mw_888 rfl dX9_image_249 ?_
        refine r_iload_n hc 2 dX9_image_252 rfl ?_
        refine r_sipush hc (150 : Int32) dX9_image_253 rfl ?_
        refine r_iadd hc dX9_image_256 ?_
        refine r_iload_n hc 3 dX9_image_257 rfl ?_
        refine r_iadd hc dX9_image_258 ?_
        refine r_aload_n hc 0 dX9_image_259 rfl ?_
        refine r_get (v := .ref (A 3)) hc iw_X9 0 rfl rfl 3 (by decide) mw_863 rfl dX9_image_260 ?_
        refine r_iload_n hc 3 dX9_image_263 rfl ?_
        obtain ⟨i_30, hf⟩ := chk_some hf
        refine r_iald (f := (M_chairs z247)) hc 3 rfl i_30 dX9_image_264 ?_
        obtain ⟨i_31, hf⟩ := chk_some hf
        obtain ⟨z265, ez265, hf⟩ := lt_some hf
        refine r_iast (f := (M_image z247)) hc 22 rfl i_31 dX9_image_265 _ rfl (wM cy A z265) (wM_s_image ez265) ?_
        refine r_iinc hc 3 [(3, .int (x3 + (1 : Int32))), (0, .ref (A 0)), (1, .int x1), (2, .int x2)] (x3 + (1 : Int32)) dX9_image_266 rfl rfl (by decide) rfl ?_
        refine r_goto hc 224 dX9_image_269 (by decide) ?_
        exact V.sub [1, 2, 3, 0] rfl (ih224 z265 x1 x2 (x3 + (1 : Int32)) hf)
  have L192 : ∀ (n192 : Nat) (z : MS) (x1 : Int32) (x2 : Int32) (x3 : Int32), it X9_image_B192 (fun _ _ _ _ => none) n192 z x1 x2 x3 = some q → V K (wM cy A z) 192 [(0, .ref (A 0)), (1, .int x1), (2, .int x2), (3, .int x3)] [] := by
    intro n192
    induction n192 with
    | zero => intro z x1 x2 x3 hf; exact (o_none hf).elim
    | succ n192 ih192 =>
      intro z x1 x2 x3 hf
      replace hf : X9_image_B192 (it X9_image_B192 (fun _ _ _ _ => none) n192) z x1 x2 x3 = some q := hf
      unfold X9_image_B192 at hf
      refine r_iload_n hc 3 dX9_image_192 rfl ?_
      refine r_bipush hc (12 : Int32) dX9_image_193 rfl ?_
      refine r_icmp_ge hc 222 dX9_image_195 (by decide) (fun c_20 => ?_) (fun c_20 => ?_)
      · have hf := o_pos c_20 hf
        refine r_iconst hc (0 : Int32) dX9_image_222 rfl ?_
        refine r_istore_n hc [(3, .int (0 : Int32)), (0, .ref (A 0)), (1, .int x1), (2, .int x2)] dX9_image_223 (by decide) rfl ?_
        exact V.sub [1, 2, 3, 0] rfl (L224 FU z x1 x2 (0 : Int32) hf)
      · have hf := o_neg c_20 hf
        refine r_aload_n hc 0 dX9_image_198 rfl ?_
        refine r_get (v := .ref (A 22)) hc iw_X9 0 rfl rfl 28 (by decide) mw_888 rfl dX9_image_199 ?_
        refine r_iload_n hc 2 dX9_image_202 rfl ?_
        refine r_sipush hc (132 : Int32) dX9_image_203 rfl ?_
        refine r_iadd hc dX9_image_206 ?_
        refine r_iload_n hc 3 dX9_image_207 rfl ?_
        refine r_iadd hc dX9_image_208 ?_
        refine r_aload_n hc 0 dX9_image_209 rfl ?_
        refine r_get (v := .ref (A 10)) hc iw_X9 0 rfl rfl 12 (by decide) mw_872 rfl dX9_image_210 ?_
        refine r_iload_n hc 3 dX9_image_213 rfl ?_
        obtain ⟨i_21, hf⟩ := chk_some hf
        refine r_iald (f := (M_sight z)) hc 10 rfl i_21 dX9_image_214 ?_
        obtain ⟨i_22, hf⟩ := chk_some hf
        obtain ⟨z215, ez215, hf⟩ := lt_some hf
        refine r_iast (f := (M_image z)) hc 22 rfl i_22 dX9_image_215 _ rfl (wM cy A z215) (wM_s_image ez215) ?_
        refine r_iinc hc 3 [(3, .int (x3 + (1 : Int32))), (0, .ref (A 0)), (1, .int x1), (2, .int x2)] (x3 + (1 : Int32)) dX9_image_216 rfl rfl (by decide) rfl ?_
        refine r_goto hc 192 dX9_image_219 (by decide) ?_
        exact V.sub [1, 2, 3, 0] rfl (ih192 z215 x1 x2 (x3 + (1 : Int32)) hf)
  have L110 : ∀ (n110 : Nat) (z : MS) (x1 : Int32) (x2 : Int32) (x3 : Int32), it X9_image_B110 (fun _ _ _ _ => none) n110 z x1 x2 x3 = some q → V K (wM cy A z) 110 [(0, .ref (A 0)), (1, .int x1), (2, .int x2), (3, .int x3)] [] := by
    intro n110
    induction n110 with
    | zero => intro z x1 x2 x3 hf; exact (o_none hf).elim
    | succ n110 ih110 =>
      intro z x1 x2 x3 hf
      replace hf : X9_image_B110 (it X9_image_B110 (fun _ _ _ _ => none) n110) z x1 x2 x3 = some q := hf
      unfold X9_image_B110 at hf
      refine r_iload_n hc 3 dX9_image_110 rfl ?_
      refine r_bipush hc (8 : Int32) dX9_image_111 rfl ?_
      refine r_icmp_ge hc 190 dX9_image_113 (by decide) (fun c_11 => ?_) (fun c_11 => ?_)
      · have hf := o_pos c_11 hf
        refine r_iconst hc (0 : Int32) dX9_image_190 rfl ?_
        refine r_istore_n hc [(3, .int (0 : Int32)), (0, .ref (A 0)), (1, .int x1), (2, .int x2)] dX9_image_191 (by decide) rfl ?_
        exact V.sub [1, 2, 3, 0] rfl (L192 FU z x1 x2 (0 : Int32) hf)
      · have hf := o_neg c_11 hf
        refine r_aload_n hc 0 dX9_image_116 rfl ?_
        refine r_get (v := .ref (A 22)) hc iw_X9 0 rfl rfl 28 (by decide) mw_888 rfl dX9_image_117 ?_
        refine r_iload_n hc 2 dX9_image_120 rfl ?_
        refine r_bipush hc (100 : Int32) dX9_image_121 rfl ?_
        refine r_iadd hc dX9_image_123 ?_
        refine r_iload_n hc 3 dX9_image_124 rfl ?_
        refine r_iadd hc dX9_image_125 ?_
        refine r_aload_n hc 0 dX9_image_126 rfl ?_
        refine r_get (v := .ref (A 6)) hc iw_X9 0 rfl rfl 7 (by decide) mw_867 rfl dX9_image_127 ?_
        refine r_iload_n hc 3 dX9_image_130 rfl ?_
        obtain ⟨i_12, hf⟩ := chk_some hf
        refine r_iald (f := (M_place z)) hc 6 rfl i_12 dX9_image_131 ?_
        obtain ⟨i_13, hf⟩ := chk_some hf
        obtain ⟨z132, ez132, hf⟩ := lt_some hf
        refine r_iast (f := (M_image z)) hc 22 rfl i_13 dX9_image_132 _ rfl (wM cy A z132) (wM_s_image ez132) ?_
        refine r_aload_n hc 0 dX9_image_133 rfl ?_
        refine r_get (v := .ref (A 22)) hc iw_X9 0 rfl rfl 28 (by decide) mw_888 rfl dX9_image_134 ?_
        refine r_iload_n hc 2 dX9_image_137 rfl ?_
        refine r_bipush hc (108 : Int32) dX9_image_138 rfl ?_
        refine r_iadd hc dX9_image_140 ?_
        refine r_iload_n hc 3 dX9_image_141 rfl ?_
        refine r_iadd hc dX9_image_142 ?_
        refine r_aload_n hc 0 dX9_image_143 rfl ?_
        refine r_get (v := .ref (A 7)) hc iw_X9 0 rfl rfl 8 (by decide) mw_868 rfl dX9_image_144 ?_
        refine r_iload_n hc 3 dX9_image_147 rfl ?_
        obtain ⟨i_14, hf⟩ := chk_some hf
        refine r_iald (f := (M_busy z132)) hc 7 rfl i_14 dX9_image_148 ?_
        obtain ⟨i_15, hf⟩ := chk_some hf
        obtain ⟨z149, ez149, hf⟩ := lt_some hf
        refine r_iast (f := (M_image z132)) hc 22 rfl i_15 dX9_image_149 _ rfl (wM cy A z149) (wM_s_image ez149) ?_
        refine r_aload_n hc 0 dX9_image_150 rfl ?_
        refine r_get (v := .ref (A 22)) hc iw_X9 0 rfl rfl 28 (by decide) mw_888 rfl dX9_image_151 ?_
        refine r_iload_n hc 2 dX9_image_154 rfl ?_
        refine r_bipush hc (116 : Int32) dX9_image_155 rfl ?_
        refine r_iadd hc dX9_image_157 ?_
        refine r_iload_n hc 3 dX9_image_158 rfl ?_
        refine r_iadd hc dX9_image_159 ?_
        refine r_aload_n hc 0 dX9_image_160 rfl ?_
        refine r_get (v := .ref (A 8)) hc iw_X9 0 rfl rfl 9 (by decide) mw_869 rfl dX9_image_161 ?_
        refine r_iload_n hc 3 dX9_image_164 rfl ?_
        obtain ⟨i_16, hf⟩ := chk_some hf
        refine r_iald (f := (M_with z149)) hc 8 rfl i_16 dX9_image_165 ?_
        obtain ⟨i_17, hf⟩ := chk_some hf
        obtain ⟨z166, ez166, hf⟩ := lt_some hf
        refine r_iast (f := (M_image z149)) hc 22 rfl i_17 dX9_image_166 _ rfl (wM cy A z166) (wM_s_image ez166) ?_
        refine r_aload_n hc 0 dX9_image_167 rfl ?_
        refine r_get (v := .ref (A 22)) hc iw_X9 0 rfl rfl 28 (by decide) mw_888 rfl dX9_image_168 ?_
        refine r_iload_n hc 2 dX9_image_171 rfl ?_
        refine r_bipush hc (124 : Int32) dX9_image_172 rfl ?_
        refine r_iadd hc dX9_image_174 ?_
        refine r_iload_n hc 3 dX9_image_175 rfl ?_
        refine r_iadd hc dX9_image_176 ?_
        refine r_aload_n hc 0 dX9_image_177 rfl ?_
        refine r_get (v := .ref (A 9)) hc iw_X9 0 rfl rfl 10 (by decide) mw_870 rfl dX9_image_178 ?_
        refine r_iload_n hc 3 dX9_image_181 rfl ?_
        obtain ⟨i_18, hf⟩ := chk_some hf
        refine r_iald (f := (M_left z166)) hc 9 rfl i_18 dX9_image_182 ?_
        obtain ⟨i_19, hf⟩ := chk_some hf
        obtain ⟨z183, ez183, hf⟩ := lt_some hf
        refine r_iast (f := (M_image z166)) hc 22 rfl i_19 dX9_image_183 _ rfl (wM cy A z183) (wM_s_image ez183) ?_
        refine r_iinc hc 3 [(3, .int (x3 + (1 : Int32))), (0, .ref (A 0)), (1, .int x1), (2, .int x2)] (x3 + (1 : Int32)) dX9_image_184 rfl rfl (by decide) rfl ?_
        refine r_goto hc 110 dX9_image_187 (by decide) ?_
        exact V.sub [1, 2, 3, 0] rfl (ih110 z183 x1 x2 (x3 + (1 : Int32)) hf)
  have L79 : ∀ (n79 : Nat) (z : MS) (x1 : Int32) (x2 : Int32) (x3 : Int32), it X9_image_B79 (fun _ _ _ _ => none) n79 z x1 x2 x3 = some q → V K (wM cy A z) 79 [(0, .ref (A 0)), (1, .int x1), (2, .int x2), (3, .int x3)] [] := by
    intro n79
    induction n79 with
    | zero => intro z x1 x2 x3 hf; exact (o_none hf).elim
    | succ n79 ih79 =>
      intro z x1 x2 x3 hf
      replace hf : X9_image_B79 (it X9_image_B79 (fun _ _ _ _ => none) n79) z x1 x2 x3 = some q := hf
      unfold X9_image_B79 at hf
      refine r_iload_n hc 3 dX9_image_79 rfl ?_
      refine r_bipush hc (40 : Int32) dX9_image_80 rfl ?_
      refine r_icmp_ge hc 108 dX9_image_82 (by decide) (fun c_8 => ?_) (fun c_8 => ?_)
      · have hf := o_pos c_8 hf
        refine r_iconst hc (0 : Int32) dX9_image_108 rfl ?_
        refine r_istore_n hc [(3, .int (0 : Int32)), (0, .ref (A 0)), (1, .int x1), (2, .int x2)] dX9_image_109 (by decide) rfl ?_
        exact V.sub [1, 2, 3, 0] rfl (L110 FU z x1 x2 (0 : Int32) hf)
      · have hf := o_neg c_8 hf
        refine r_aload_n hc 0 dX9_image_85 rfl ?_
        refine r_get (v := .ref (A 22)) hc iw_X9 0 rfl rfl 28 (by decide) mw_888 rfl dX9_image_86 ?_
        refine r_iload_n hc 2 dX9_image_89 rfl ?_
        refine r_bipush hc (60 : Int32) dX9_image_90 rfl ?_
        refine r_iadd hc dX9_image_92 ?_
        refine r_iload_n hc 3 dX9_image_93 rfl ?_
        refine r_iadd hc dX9_image_94 ?_
        refine r_aload_n hc 0 dX9_image_95 rfl ?_
        refine r_get (v := .ref (A 5)) hc iw_X9 0 rfl rfl 6 (by decide) mw_866 rfl dX9_image_96 ?_
        refine r_iload_n hc 3 dX9_image_99 rfl ?_
        obtain ⟨i_9, hf⟩ := chk_some hf
        refine r_iald (f := (M_likes z)) hc 5 rfl i_9 dX9_image_100 ?_
        obtain ⟨i_10, hf⟩ := chk_some hf
        obtain ⟨z101, ez101, hf⟩ := lt_some hf
        refine r_iast (f := (M_image z)) hc 22 rfl i_10 dX9_image_101 _ rfl (wM cy A z101) (wM_s_image ez101) ?_
        refine r_iinc hc 3 [(3, .int (x3 + (1 : Int32))), (0, .ref (A 0)), (1, .int x1), (2, .int x2)] (x3 + (1 : Int32)) dX9_image_102 rfl rfl (by decide) rfl ?_
        refine r_goto hc 79 dX9_image_105 (by decide) ?_
        exact V.sub [1, 2, 3, 0] rfl (ih79 z101 x1 x2 (x3 + (1 : Int32)) hf)
  have L48 : ∀ (n48 : Nat) (z : MS) (x1 : Int32) (x2 : Int32) (x3 : Int32), it X9_image_B48 (fun _ _ _ _ => none) n48 z x1 x2 x3 = some q → V K (wM cy A z) 48 [(0, .ref (A 0)), (1, .int x1), (2, .int x2), (3, .int x3)] [] := by
    intro n48
    induction n48 with
    | zero => intro z x1 x2 x3 hf; exact (o_none hf).elim
    | succ n48 ih48 =>
      intro z x1 x2 x3 hf
      replace hf : X9_image_B48 (it X9_image_B48 (fun _ _ _ _ => none) n48) z x1 x2 x3 = some q := hf
      unfold X9_image_B48 at hf
      refine r_iload_n hc 3 dX9_image_48 rfl ?_
      refine r_bipush hc (36 : Int32) dX9_image_49 rfl ?_
      refine r_icmp_ge hc 77 dX9_image_51 (by decide) (fun c_5 => ?_) (fun c_5 => ?_)
      · have hf := o_pos c_5 hf
        refine r_iconst hc (0 : Int32) dX9_image_77 rfl ?_
        refine r_istore_n hc [(3, .int (0 : Int32)), (0, .ref (A 0)), (1, .int x1), (2, .int x2)] dX9_image_78 (by decide) rfl ?_
        exact V.sub [1, 2, 3, 0] rfl (L79 FU z x1 x2 (0 : Int32) hf)
      · have hf := o_neg c_5 hf
        refine r_aload_n hc 0 dX9_image_54 rfl ?_
        refine r_get (v := .ref (A 22)) hc iw_X9 0 rfl rfl 28 (by decide) mw_888 rfl dX9_image_55 ?_
        refine r_iload_n hc 2 dX9_image_58 rfl ?_
        refine r_bipush hc (24 : Int32) dX9_image_59 rfl ?_
        refine r_iadd hc dX9_image_61 ?_
        refine r_iload_n hc 3 dX9_image_62 rfl ?_
        refine r_iadd hc dX9_image_63 ?_
        refine r_aload_n hc 0 dX9_image_64 rfl ?_
        refine r_get (v := .ref (A 4)) hc iw_X9 0 rfl rfl 4 (by decide) mw_864 rfl dX9_image_65 ?_
        refine r_iload_n hc 3 dX9_image_68 rfl ?_
        obtain ⟨i_6, hf⟩ := chk_some hf
        refine r_iald (f := (M_width z)) hc 4 rfl i_6 dX9_image_69 ?_
        obtain ⟨i_7, hf⟩ := chk_some hf
        obtain ⟨z70, ez70, hf⟩ := lt_some hf
        refine r_iast (f := (M_image z)) hc 22 rfl i_7 dX9_image_70 _ rfl (wM cy A z70) (wM_s_image ez70) ?_
        refine r_iinc hc 3 [(3, .int (x3 + (1 : Int32))), (0, .ref (A 0)), (1, .int x1), (2, .int x2)] (x3 + (1 : Int32)) dX9_image_71 rfl rfl (by decide) rfl ?_
        refine r_goto hc 48 dX9_image_74 (by decide) ?_
        exact V.sub [1, 2, 3, 0] rfl (ih48 z70 x1 x2 (x3 + (1 : Int32)) hf)
  have L20 : ∀ (n20 : Nat) (z : MS) (x1 : Int32) (x2 : Int32) (x3 : Int32), it X9_image_B20 (fun _ _ _ _ => none) n20 z x1 x2 x3 = some q → V K (wM cy A z) 20 [(0, .ref (A 0)), (1, .int x1), (2, .int x2), (3, .int x3)] [] := by
    intro n20
    induction n20 with
    | zero => intro z x1 x2 x3 hf; exact (o_none hf).elim
    | succ n20 ih20 =>
      intro z x1 x2 x3 hf
      replace hf : X9_image_B20 (it X9_image_B20 (fun _ _ _ _ => none) n20) z x1 x2 x3 = some q := hf
      unfold X9_image_B20 at hf
      refine r_iload_n hc 3 dX9_image_20 rfl ?_
      refine r_bipush hc (24 : Int32) dX9_image_21 rfl ?_
      refine r_icmp_ge hc 46 dX9_image_23 (by decide) (fun c_2 => ?_) (fun c_2 => ?_)
      · have hf := o_pos c_2 hf
        refine r_iconst hc (0 : Int32) dX9_image_46 rfl ?_
        refine r_istore_n hc [(3, .int (0 : Int32)), (0, .ref (A 0)), (1, .int x1), (2, .int x2)] dX9_image_47 (by decide) rfl ?_
        exact V.sub [1, 2, 3, 0] rfl (L48 FU z x1 x2 (0 : Int32) hf)
      · have hf := o_neg c_2 hf
        refine r_aload_n hc 0 dX9_image_26 rfl ?_
        refine r_get (v := .ref (A 22)) hc iw_X9 0 rfl rfl 28 (by decide) mw_888 rfl dX9_image_27 ?_
        refine r_iload_n hc 2 dX9_image_30 rfl ?_
        refine r_iload_n hc 3 dX9_image_31 rfl ?_
        refine r_iadd hc dX9_image_32 ?_
        refine r_aload_n hc 0 dX9_image_33 rfl ?_
        refine r_get (v := .ref (A 1)) hc iw_X9 0 rfl rfl 1 (by decide) mw_861 rfl dX9_image_34 ?_
        refine r_iload_n hc 3 dX9_image_37 rfl ?_
        obtain ⟨i_3, hf⟩ := chk_some hf
        refine r_iald (f := (M_things z)) hc 1 rfl i_3 dX9_image_38 ?_
        obtain ⟨i_4, hf⟩ := chk_some hf
        obtain ⟨z39, ez39, hf⟩ := lt_some hf
        refine r_iast (f := (M_image z)) hc 22 rfl i_4 dX9_image_39 _ rfl (wM cy A z39) (wM_s_image ez39) ?_
        refine r_iinc hc 3 [(3, .int (x3 + (1 : Int32))), (0, .ref (A 0)), (1, .int x1), (2, .int x2)] (x3 + (1 : Int32)) dX9_image_40 rfl rfl (by decide) rfl ?_
        refine r_goto hc 20 dX9_image_43 (by decide) ?_
        exact V.sub [1, 2, 3, 0] rfl (ih20 z39 x1 x2 (x3 + (1 : Int32)) hf)
  show V K (wM cy A z) 0 [(0, .ref (A 0)), (1, .int x1)] []
  unfold f_X9_image at hf
  refine r_iload_n hc 1 dX9_image_0 rfl ?_
  refine r_iconst hc (0 : Int32) dX9_image_1 rfl ?_
  refine r_iconst hc (1 : Int32) dX9_image_2 rfl ?_
  obtain ⟨q3, hq3, hf⟩ := o_bind hf
  refine r_callSi (ws' := (wM cy A z)) (As := [.int x1, .int (0 : Int32), .int (1 : Int32)]) (rest := []) hc (c_X9_in  x1 (0 : Int32) (1 : Int32) q3 hq3) ks_X9_in mw_955 _ _ _ (Sp_none _) rfl rfl (Nat.le_of_ble_eq_true rfl) ⟨by decide, by decide⟩ dX9_image_3 ?_
  refine r_if_ne hc 12 dX9_image_6 (by decide) (fun c_1 => ?_) (fun c_1 => ?_)
  · have hf := o_neg c_1 hf
    refine r_sipush hc (200 : Int32) dX9_image_12 rfl ?_
    refine r_iload_n hc 1 dX9_image_15 rfl ?_
    refine r_imul hc dX9_image_16 ?_
    refine r_istore_n hc [(2, .int ((200 : Int32) * x1)), (0, .ref (A 0)), (1, .int x1)] dX9_image_17 (by decide) rfl ?_
    refine r_iconst hc (0 : Int32) dX9_image_18 rfl ?_
    refine r_istore_n hc [(3, .int (0 : Int32)), (2, .int ((200 : Int32) * x1)), (0, .ref (A 0)), (1, .int x1)] dX9_image_19 (by decide) rfl ?_
    exact V.sub [2, 3, 1, 0] rfl (L20 FU z x1 ((200 : Int32) * x1) (0 : Int32) hf)
  · have hf := o_pos c_1 hf
    refine r_bipush hc (-2 : Int32) dX9_image_9 rfl ?_
    exact r_iret hK (congrArg (fun z9 => z9.1) (Option.some.inj hf)) (congrArg (fun z9 => (wM cy A z9.2)) (Option.some.inj hf)) dX9_image_11
def X9_restore_B236 (k236 : MS → Int32 → Int32 → Option (Int32 × MS)) (z : MS) (x2 : Int32) (x3 : Int32) : Option (Int32 × MS) :=
  (if (6 : Int32) ≤ x3 then (chk (x2 + (156 : Int32)) 400 (ltA (M_set_rooms z ((M_image z) ((x2 + (156 : Int32))).toNatClampNeg)) fun z295 => (chk (x2 + (157 : Int32)) 400 (ltA (M_set_there z295 ((M_image z295) ((x2 + (157 : Int32))).toNatClampNeg)) fun z309 => (chk (x2 + (158 : Int32)) 400 (ltA (M_set_sights z309 ((M_image z309) ((x2 + (158 : Int32))).toNatClampNeg)) fun z323 => (some ((1 : Int32), z323)))))))) else (chk ((x2 + (144 : Int32)) + x3) 400 (chk x3 6 (ltA (M_set_size z (upd (M_size z) (x3).toNatClampNeg ((M_image z) (((x2 + (144 : Int32)) + x3)).toNatClampNeg))) fun z259 => (chk ((x2 + (150 : Int32)) + x3) 400 (chk x3 6 (ltA (M_set_chairs z259 (upd (M_chairs z259) (x3).toNatClampNeg ((M_image z259) (((x2 + (150 : Int32)) + x3)).toNatClampNeg))) fun z277 => (k236 z277 x2 (x3 + (1 : Int32))))))))))
def X9_restore_B204 (k204 : MS → Int32 → Int32 → Option (Int32 × MS)) (z : MS) (x2 : Int32) (x3 : Int32) : Option (Int32 × MS) :=
  (if (12 : Int32) ≤ x3 then (it X9_restore_B236 (fun _ _ _ => none) FU z x2 (0 : Int32)) else (chk ((x2 + (132 : Int32)) + x3) 400 (chk x3 12 (ltA (M_set_sight z (upd (M_sight z) (x3).toNatClampNeg ((M_image z) (((x2 + (132 : Int32)) + x3)).toNatClampNeg))) fun z227 => (k204 z227 x2 (x3 + (1 : Int32)))))))
def X9_restore_B122 (k122 : MS → Int32 → Int32 → Option (Int32 × MS)) (z : MS) (x2 : Int32) (x3 : Int32) : Option (Int32 × MS) :=
  (if (8 : Int32) ≤ x3 then (it X9_restore_B204 (fun _ _ _ => none) FU z x2 (0 : Int32)) else (chk ((x2 + (100 : Int32)) + x3) 400 (chk x3 8 (ltA (M_set_place z (upd (M_place z) (x3).toNatClampNeg ((M_image z) (((x2 + (100 : Int32)) + x3)).toNatClampNeg))) fun z144 => (chk ((x2 + (108 : Int32)) + x3) 400 (chk x3 8 (ltA (M_set_busy z144 (upd (M_busy z144) (x3).toNatClampNeg ((M_image z144) (((x2 + (108 : Int32)) + x3)).toNatClampNeg))) fun z161 => (chk ((x2 + (116 : Int32)) + x3) 400 (chk x3 8 (ltA (M_set_with z161 (upd (M_with z161) (x3).toNatClampNeg ((M_image z161) (((x2 + (116 : Int32)) + x3)).toNatClampNeg))) fun z178 => (chk ((x2 + (124 : Int32)) + x3) 400 (chk x3 8 (ltA (M_set_left z178 (upd (M_left z178) (x3).toNatClampNeg ((M_image z178) (((x2 + (124 : Int32)) + x3)).toNatClampNeg))) fun z195 => (k122 z195 x2 (x3 + (1 : Int32))))))))))))))))
def X9_restore_B91 (k91 : MS → Int32 → Int32 → Option (Int32 × MS)) (z : MS) (x2 : Int32) (x3 : Int32) : Option (Int32 × MS) :=
  (if (40 : Int32) ≤ x3 then (it X9_restore_B122 (fun _ _ _ => none) FU z x2 (0 : Int32)) else (chk ((x2 + (60 : Int32)) + x3) 400 (chk x3 40 (ltA (M_set_likes z (upd (M_likes z) (x3).toNatClampNeg ((M_image z) (((x2 + (60 : Int32)) + x3)).toNatClampNeg))) fun z113 => (k91 z113 x2 (x3 + (1 : Int32)))))))
def X9_restore_B60 (k60 : MS → Int32 → Int32 → Option (Int32 × MS)) (z : MS) (x2 : Int32) (x3 : Int32) : Option (Int32 × MS) :=
  (if (36 : Int32) ≤ x3 then (it X9_restore_B91 (fun _ _ _ => none) FU z x2 (0 : Int32)) else (chk ((x2 + (24 : Int32)) + x3) 400 (chk x3 36 (ltA (M_set_width z (upd (M_width z) (x3).toNatClampNeg ((M_image z) (((x2 + (24 : Int32)) + x3)).toNatClampNeg))) fun z82 => (k60 z82 x2 (x3 + (1 : Int32)))))))
def X9_restore_B32 (k32 : MS → Int32 → Int32 → Option (Int32 × MS)) (z : MS) (x2 : Int32) (x3 : Int32) : Option (Int32 × MS) :=
  (if (24 : Int32) ≤ x3 then (it X9_restore_B60 (fun _ _ _ => none) FU z x2 (0 : Int32)) else (chk (x2 + x3) 400 (chk x3 24 (ltA (M_set_things z (upd (M_things z) (x3).toNatClampNeg ((M_image z) ((x2 + x3)).toNatClampNeg))) fun z51 => (k32 z51 x2 (x3 + (1 : Int32)))))))
def f_X9_restore (z : MS) (x1 : Int32) : Option (Int32 × MS) :=
  ((f_X9_in x1 (0 : Int32) (1 : Int32)).bind fun q3 => (if q3 = 0 then (some ((-2 : Int32), z)) else (chk x1 2 (if ((M_isKept z) (x1).toNatClampNeg) = 0 then (some ((-3 : Int32), z)) else (it X9_restore_B32 (fun _ _ _ => none) FU z ((200 : Int32) * x1) (0 : Int32))))))
theorem kv_X9_restore : KV RX9 yX9_restore cX9_restore 4 (some .int) 1 := ⟨mw_1216, mw_1217, mw_65, mw_1218, by decide +kernel⟩
set_option maxHeartbeats 8000000 in
set_option maxRecDepth 100000 in
theorem c_X9_restore {l : Launch} {E : va_G} {cy : Nat → ClassId} (A : Nat → Nat) (z : MS) (x1 : Int32) (q : Int32 × MS) (hf : f_X9_restore z x1 = some q) : Ci l yX9_restore cX9_restore 4 (some .int) 2 82 E cy [.ref (A 0), .int x1] (wM cy A z) q.1 (wM cy A q.2) := by
  refine Ci.of RX9 (by decide) rfl (Nat.le_of_ble_eq_true rfl) ?_
  intro K hK
  have hc := hK.cq
  have L236 : ∀ (n236 : Nat) (z : MS) (x2 : Int32) (x3 : Int32), it X9_restore_B236 (fun _ _ _ => none) n236 z x2 x3 = some q → V K (wM cy A z) 236 [(0, .ref (A 0)), (2, .int x2), (3, .int x3)] [] := by
    intro n236
    induction n236 with
    | zero => intro z x2 x3 hf; exact (o_none hf).elim
    | succ n236 ih236 =>
      intro z x2 x3 hf
      replace hf : X9_restore_B236 (it X9_restore_B236 (fun _ _ _ => none) n236) z x2 x3 = some q := hf
      unfold X9_restore_B236 at hf
      refine r_iload_n hc 2 dX9_restore_236 rfl ?_
      refine r_bipush hc (6 : Int32) dX9_restore_237 rfl ?_
      refine r_icmp_ge hc 284 dX9_restore_239 (by decide) (fun c_25 => ?_) (fun c_25 => ?_)
      · have hf := o_pos c_25 hf
        refine r_aload_n hc 0 dX9_restore_284 rfl ?_
        refine r_aload_n hc 0 dX9_restore_285 rfl ?_
        refine r_get (v := .ref (A 22)) hc iw_X9 0 rfl rfl 28 (by decide) mw_888 rfl dX9_restore_286 ?_
        refine r_iload_n hc 1 dX9_restore_289 rfl ?_
        refine r_sipush hc (156 : Int32) dX9_restore_290 rfl ?_
        refine r_iadd hc dX9_restore_293 ?_
        obtain ⟨i_26, hf⟩ := chk_some hf
        refine r_iald (f := (M_image z)) hc 22 rfl i_26 dX9_restore_294 ?_
        obtain ⟨z295, ez295, hf⟩ := lt_some hf
        refine r_put hc iw_X9 tyX9 tyX9_ok nmX9 0 rfl rfl 0 (by decide) mw_860 rfl rfl rfl (Nat.le_of_ble_eq_true rfl) dX9_restore_295 (wM cy A z295) (wM_s_rooms ez295) ?_
        refine r_aload_n hc 0 dX9_restore_298 rfl ?_
        refine r_aload_n hc 0 dX9_restore_299 rfl ?_
        refine r_get (v := .ref (A 22)) hc iw_X9 0 rfl rfl 28 (by decide) mw_888 rfl dX9_restore_300 ?_
        refine r_iload_n hc 1 dX9_restore_303 rfl ?_
        refine r_sipush hc (157 : Int32) dX9_restore_304 rfl ?_
        refine r_iadd hc dX9_restore_307 ?_
        obtain ⟨i_27, hf⟩ := chk_some hf
        refine r_iald (f := (M_image z295)) hc 22 rfl i_27 dX9_restore_308 ?_
        obtain ⟨z309, ez309, hf⟩ := lt_some hf
        refine r_put hc iw_X9 tyX9 tyX9_ok nmX9 0 rfl rfl 5 (by decide) mw_865 rfl rfl rfl (Nat.le_of_ble_eq_true rfl) dX9_restore_309 (wM cy A z309) (wM_s_there ez309) ?_
        refine r_aload_n hc 0 dX9_restore_312 rfl ?_
        refine r_aload_n hc 0 dX9_restore_313 rfl ?_
        refine r_get (v := .ref (A 22)) hc iw_X9 0 rfl rfl 28 (by decide) mw_888 rfl dX9_restore_314 ?_
        refine r_iload_n hc 1 dX9_restore_317 rfl ?_
        refine r_sipush hc (158 : Int32) dX9_restore_318 rfl ?_
        refine r_iadd hc dX9_restore_321 ?_
        obtain ⟨i_28, hf⟩ := chk_some hf
        refine r_iald (f := (M_image z309)) hc 22 rfl i_28 dX9_restore_322 ?_
        obtain ⟨z323, ez323, hf⟩ := lt_some hf
        refine r_put hc iw_X9 tyX9 tyX9_ok nmX9 0 rfl rfl 11 (by decide) mw_871 rfl rfl rfl (Nat.le_of_ble_eq_true rfl) dX9_restore_323 (wM cy A z323) (wM_s_sights ez323) ?_
        refine r_iconst hc (1 : Int32) dX9_restore_326 rfl ?_
        exact r_iret hK (congrArg (fun z9 => z9.1) (Option.some.inj hf)) (congrArg (fun z9 => (wM cy A z9.2)) (Option.some.inj hf)) dX9_restore_327
      · have hf := o_neg c_25 hf
        refine r_aload_n hc 0 dX9_restore_242 rfl ?_
        refine r_get (v := .ref (A 2)) hc iw_X9 0 rfl rfl 2 (by decide) mw_862 rfl dX9_restore_243 ?_
        refine r_iload_n hc 2 dX9_restore_246 rfl ?_
        refine r_aload_n hc 0 dX9_restore_247 rfl ?_
        refine r_get (v := .ref (A 22)) hc iw_X9 0 rfl rfl 28 (by decide) mw_888 rfl dX9_restore_248 ?_
        refine r_iload_n hc 1 dX9_restore_251 rfl ?_
        refine r_sipush hc (144 : Int32) dX9_restore_252 rfl ?_
        refine r_iadd hc dX9_restore_255 ?_
        refine r_iload_n hc 2 dX9_restore_256 rfl ?_
        refine r_iadd hc dX9_restore_257 ?_
        obtain ⟨i_29, hf⟩ := chk_some hf
        refine r_iald (f := (M_image z)) hc 22 rfl i_29 dX9_restore_258 ?_
        obtain ⟨i_30, hf⟩ := chk_some hf
        obtain ⟨z259, ez259, hf⟩ := lt_some hf
        refine r_iast (f := (M_size z)) hc 2 rfl i_30 dX9_restore_259 _ rfl (wM cy A z259) (wM_s_size ez259) ?_
        refine r_aload_n hc 0 dX9_restore_260 rfl ?_
        refine r_get (v := .ref (A 3)) hc iw_X9 0 rfl rfl 3 (by decide) mw_863 rfl dX9_restore_261 ?_
        refine r_iload_n hc 2 dX9_restore_264 rfl ?_
        refine r_aload_n hc 0 dX9_restore_265 rfl ?_
        refine r_get (v := .ref (A 22)) hc iw_X9 0 rfl rfl 28 (by decide) mw_888 rfl dX9_restore_266 ?_
        refine r_iload_n hc 1 dX9_restore_269 rfl ?_
        refine r_sipush hc (150 : Int32) dX9_restore_270 rfl ?_
        refine r_iadd hc dX9_restore_273 ?_
        refine r_iload_n hc 2 dX9_restore_274 rfl ?_
        refine r_iadd hc dX9_restore_275 ?_
        obtain ⟨i_31, hf⟩ := chk_some hf
        refine r_iald (f := (M_image z259)) hc 22 rfl i_31 dX9_restore_276 ?_
        obtain ⟨i_32, hf⟩ := chk_some hf
        obtain ⟨z277, ez277, hf⟩ := lt_some hf
        refine r_iast (f := (M_chairs z259)) hc 3 rfl i_32 dX9_restore_277 _ rfl (wM cy A z277) (wM_s_chairs ez277) ?_
        refine r_iinc hc 2 [(3, .int (x3 + (1 : Int32))), (0, .ref (A 0)), (2, .int x2)] (x3 + (1 : Int32)) dX9_restore_278 rfl rfl (by decide) rfl ?_
        refine r_goto hc 236 dX9_restore_281 (by decide) ?_
        exact V.sub [1, 2, 0] rfl (ih236 z277 x2 (x3 + (1 : Int32)) hf)
  have L204 : ∀ (n204 : Nat) (z : MS) (x2 : Int32) (x3 : Int32), it X9_restore_B204 (fun _ _ _ => none) n204 z x2 x3 = some q → V K (wM cy A z) 204 [(0, .ref (A 0)), (2, .int x2), (3, .int x3)] [] := by
    intro n204
    induction n204 with
    | zero => intro z x2 x3 hf; exact (o_none hf).elim
    | succ n204 ih204 =>
      intro z x2 x3 hf
      replace hf : X9_restore_B204 (it X9_restore_B204 (fun _ _ _ => none) n204) z x2 x3 = some q := hf
      unfold X9_restore_B204 at hf
      refine r_iload_n hc 2 dX9_restore_204 rfl ?_
      refine r_bipush hc (12 : Int32) dX9_restore_205 rfl ?_
      refine r_icmp_ge hc 234 dX9_restore_207 (by decide) (fun c_22 => ?_) (fun c_22 => ?_)
      · have hf := o_pos c_22 hf
        refine r_iconst hc (0 : Int32) dX9_restore_234 rfl ?_
        refine r_istore_n hc [(3, .int (0 : Int32)), (0, .ref (A 0)), (2, .int x2)] dX9_restore_235 (by decide) rfl ?_
        exact V.sub [1, 2, 0] rfl (L236 FU z x2 (0 : Int32) hf)
      · have hf := o_neg c_22 hf
        refine r_aload_n hc 0 dX9_restore_210 rfl ?_
        refine r_get (v := .ref (A 10)) hc iw_X9 0 rfl rfl 12 (by decide) mw_872 rfl dX9_restore_211 ?_
        refine r_iload_n hc 2 dX9_restore_214 rfl ?_
        refine r_aload_n hc 0 dX9_restore_215 rfl ?_
        refine r_get (v := .ref (A 22)) hc iw_X9 0 rfl rfl 28 (by decide) mw_888 rfl dX9_restore_216 ?_
        refine r_iload_n hc 1 dX9_restore_219 rfl ?_
        refine r_sipush hc (132 : Int32) dX9_restore_220 rfl ?_
        refine r_iadd hc dX9_restore_223 ?_
        refine r_iload_n hc 2 dX9_restore_224 rfl ?_
        refine r_iadd hc dX9_restore_225 ?_
        obtain ⟨i_23, hf⟩ := chk_some hf
        refine r_iald (f := (M_image z)) hc 22 rfl i_23 dX9_restore_226 ?_
        obtain ⟨i_24, hf⟩ := chk_some hf
        obtain ⟨z227, ez227, hf⟩ := lt_some hf
        refine r_iast (f := (M_sight z)) hc 10 rfl i_24 dX9_restore_227 _ rfl (wM cy A z227) (wM_s_sight ez227) ?_
        refine r_iinc hc 2 [(3, .int (x3 + (1 : Int32))), (0, .ref (A 0)), (2, .int x2)] (x3 + (1 : Int32)) dX9_restore_228 rfl rfl (by decide) rfl ?_
        refine r_goto hc 204 dX9_restore_231 (by decide) ?_
        exact V.sub [1, 2, 0] rfl (ih204 z227 x2 (x3 + (1 : Int32)) hf)
  have L122 : ∀ (n122 : Nat) (z : MS) (x2 : Int32) (x3 : Int32), it X9_restore_B122 (fun _ _ _ => none) n122 z x2 x3 = some q → V K (wM cy A z) 122 [(0, .ref (A 0)), (2, .int x2), (3, .int x3)] [] := by
    intro n122
    induction n122 with
    | zero => intro z x2 x3 hf; exact (o_none hf).elim
    | succ n122 ih122 =>
      intro z x2 x3 hf
      replace hf : X9_restore_B122 (it X9_restore_B122 (fun _ _ _ => none) n122) z x2 x3 = some q := hf
      unfold X9_restore_B122 at hf
      refine r_iload_n hc 2 dX9_restore_122 rfl ?_
      refine r_bipush hc (8 : Int32) dX9_restore_123 rfl ?_
      refine r_icmp_ge hc 202 dX9_restore_125 (by decide) (fun c_13 => ?_) (fun c_13 => ?_)
      · have hf := o_pos c_13 hf
        refine r_iconst hc (0 : Int32) dX9_restore_202 rfl ?_
        refine r_istore_n hc [(3, .int (0 : Int32)), (0, .ref (A 0)), (2, .int x2)] dX9_restore_203 (by decide) rfl ?_
        exact V.sub [1, 2, 0] rfl (L204 FU z x2 (0 : Int32) hf)
      · have hf := o_neg c_13 hf
        refine r_aload_n hc 0 dX9_restore_128 rfl ?_
        refine r_get (v := .ref (A 6)) hc iw_X9 0 rfl rfl 7 (by decide) mw_867 rfl dX9_restore_129 ?_
        refine r_iload_n hc 2 dX9_restore_132 rfl ?_
        refine r_aload_n hc 0 dX9_restore_133 rfl ?_
        refine r_get (v := .ref (A 22)) hc iw_X9 0 rfl rfl 28 (by decide) mw_888 rfl dX9_restore_134 ?_
        refine r_iload_n hc 1 dX9_restore_137 rfl ?_
        refine r_bipush hc (100 : Int32) dX9_restore_138 rfl ?_
        refine r_iadd hc dX9_restore_140 ?_
        refine r_iload_n hc 2 dX9_restore_141 rfl ?_
        refine r_iadd hc dX9_restore_142 ?_
        obtain ⟨i_14, hf⟩ := chk_some hf
        refine r_iald (f := (M_image z)) hc 22 rfl i_14 dX9_restore_143 ?_
        obtain ⟨i_15, hf⟩ := chk_some hf
        obtain ⟨z144, ez144, hf⟩ := lt_some hf
        refine r_iast (f := (M_place z)) hc 6 rfl i_15 dX9_restore_144 _ rfl (wM cy A z144) (wM_s_place ez144) ?_
        refine r_aload_n hc 0 dX9_restore_145 rfl ?_
        refine r_get (v := .ref (A 7)) hc iw_X9 0 rfl rfl 8 (by decide) mw_868 rfl dX9_restore_146 ?_
        refine r_iload_n hc 2 dX9_restore_149 rfl ?_
        refine r_aload_n hc 0 dX9_restore_150 rfl ?_
        refine r_get (v := .ref (A 22)) hc iw_X9 0 rfl rfl 28 (by decide) mw_888 rfl dX9_restore_151 ?_
        refine r_iload_n hc 1 dX9_restore_154 rfl ?_
        refine r_bipush hc (108 : Int32) dX9_restore_155 rfl ?_
        refine r_iadd hc dX9_restore_157 ?_
        refine r_iload_n hc 2 dX9_restore_158 rfl ?_
        refine r_iadd hc dX9_restore_159 ?_
        obtain ⟨i_16, hf⟩ := chk_some hf
        refine r_iald (f := (M_image z144)) hc 22 rfl i_16 dX9_restore_160 ?_
        obtain ⟨i_17, hf⟩ := chk_some hf
        obtain ⟨z161, ez161, hf⟩ := lt_some hf
        refine r_iast (f := (M_busy z144)) hc 7 rfl i_17 dX9_restore_161 _ rfl (wM cy A z161) (wM_s_busy ez161) ?_
        refine r_aload_n hc 0 dX9_restore_162 rfl ?_
        refine r_get (v := .ref (A 8)) hc iw_X9 0 rfl rfl 9 (by decide) mw_869 rfl dX9_restore_163 ?_
        refine r_iload_n hc 2 dX9_restore_166 rfl ?_
        refine r_aload_n hc 0 dX9_restore_167 rfl ?_
        refine r_get (v := .ref (A 22)) hc iw_X9 0 rfl rfl 28 (by decide) mw_888 rfl dX9_restore_168 ?_
        refine r_iload_n hc 1 dX9_restore_171 rfl ?_
        refine r_bipush hc (116 : Int32) dX9_restore_172 rfl ?_
        refine r_iadd hc dX9_restore_174 ?_
        refine r_iload_n hc 2 dX9_restore_175 rfl ?_
        refine r_iadd hc dX9_restore_176 ?_
        obtain ⟨i_18, hf⟩ := chk_some hf
        refine r_iald (f := (M_image z161)) hc 22 rfl i_18 dX9_restore_177 ?_
        obtain ⟨i_19, hf⟩ := chk_some hf
        obtain ⟨z178, ez178, hf⟩ := lt_some hf
        refine r_iast (f := (M_with z161)) hc 8 rfl i_19 dX9_restore_178 _ rfl (wM cy A z178) (wM_s_with ez178) ?_
        refine r_aload_n hc 0 dX9_restore_179 rfl ?_
        refine r_get (v := .ref (A 9)) hc iw_X9 0 rfl rfl 10 (by decide) mw_870 rfl dX9_restore_180 ?_
        refine r_iload_n hc 2 dX9_restore_183 rfl ?_
        refine r_aload_n hc 0 dX9_restore_184 rfl ?_
        refine r_get (v := .ref (A 22)) hc iw_X9 0 rfl rfl 28 (by decide) mw_888 rfl dX9_restore_185 ?_
        refine r_iload_n hc 1 dX9_restore_188 rfl ?_
        refine r_bipush hc (124 : Int32) dX9_restore_189 rfl ?_
        refine r_iadd hc dX9_restore_191 ?_
        refine r_iload_n hc 2 dX9_restore_192 rfl ?_
        refine r_iadd hc dX9_restore_193 ?_
        obtain ⟨i_20, hf⟩ := chk_some hf
        refine r_iald (f := (M_image z178)) hc 22 rfl i_20 dX9_restore_194 ?_
        obtain ⟨i_21, hf⟩ := chk_some hf
        obtain ⟨z195, ez195, hf⟩ := lt_some hf
        refine r_iast (f := (M_left z178)) hc 9 rfl i_21 dX9_restore_195 _ rfl (wM cy A z195) (wM_s_left ez195) ?_
        refine r_iinc hc 2 [(3, .int (x3 + (1 : Int32))), (0, .ref (A 0)), (2, .int x2)] (x3 + (1 : Int32)) dX9_restore_196 rfl rfl (by decide) rfl ?_
        refine r_goto hc 122 dX9_restore_199 (by decide) ?_
        exact V.sub [1, 2, 0] rfl (ih122 z195 x2 (x3 + (1 : Int32)) hf)
  have L91 : ∀ (n91 : Nat) (z : MS) (x2 : Int32) (x3 : Int32), it X9_restore_B91 (fun _ _ _ => none) n91 z x2 x3 = some q → V K (wM cy A z) 91 [(0, .ref (A 0)), (2, .int x2), (3, .int x3)] [] := by
    intro n91
    induction n91 with
    | zero => intro z x2 x3 hf; exact (o_none hf).elim
    | succ n91 ih91 =>
      intro z x2 x3 hf
      replace hf : X9_restore_B91 (it X9_restore_B91 (fun _ _ _ => none) n91) z x2 x3 = some q := hf
      unfold X9_restore_B91 at hf
      refine r_iload_n hc 2 dX9_restore_91 rfl ?_
      refine r_bipush hc (40 : Int32) dX9_restore_92 rfl ?_
      refine r_icmp_ge hc 120 dX9_restore_94 (by decide) (fun c_10 => ?_) (fun c_10 => ?_)
      · have hf := o_pos c_10 hf
        refine r_iconst hc (0 : Int32) dX9_restore_120 rfl ?_
        refine r_istore_n hc [(3, .int (0 : Int32)), (0, .ref (A 0)), (2, .int x2)] dX9_restore_121 (by decide) rfl ?_
        exact V.sub [1, 2, 0] rfl (L122 FU z x2 (0 : Int32) hf)
      · have hf := o_neg c_10 hf
        refine r_aload_n hc 0 dX9_restore_97 rfl ?_
        refine r_get (v := .ref (A 5)) hc iw_X9 0 rfl rfl 6 (by decide) mw_866 rfl dX9_restore_98 ?_
        refine r_iload_n hc 2 dX9_restore_101 rfl ?_
        refine r_aload_n hc 0 dX9_restore_102 rfl ?_
        refine r_get (v := .ref (A 22)) hc iw_X9 0 rfl rfl 28 (by decide) mw_888 rfl dX9_restore_103 ?_
        refine r_iload_n hc 1 dX9_restore_106 rfl ?_
        refine r_bipush hc (60 : Int32) dX9_restore_107 rfl ?_
        refine r_iadd hc dX9_restore_109 ?_
        refine r_iload_n hc 2 dX9_restore_110 rfl ?_
        refine r_iadd hc dX9_restore_111 ?_
        obtain ⟨i_11, hf⟩ := chk_some hf
        refine r_iald (f := (M_image z)) hc 22 rfl i_11 dX9_restore_112 ?_
        obtain ⟨i_12, hf⟩ := chk_some hf
        obtain ⟨z113, ez113, hf⟩ := lt_some hf
        refine r_iast (f := (M_likes z)) hc 5 rfl i_12 dX9_restore_113 _ rfl (wM cy A z113) (wM_s_likes ez113) ?_
        refine r_iinc hc 2 [(3, .int (x3 + (1 : Int32))), (0, .ref (A 0)), (2, .int x2)] (x3 + (1 : Int32)) dX9_restore_114 rfl rfl (by decide) rfl ?_
        refine r_goto hc 91 dX9_restore_117 (by decide) ?_
        exact V.sub [1, 2, 0] rfl (ih91 z113 x2 (x3 + (1 : Int32)) hf)
  have L60 : ∀ (n60 : Nat) (z : MS) (x2 : Int32) (x3 : Int32), it X9_restore_B60 (fun _ _ _ => none) n60 z x2 x3 = some q → V K (wM cy A z) 60 [(0, .ref (A 0)), (2, .int x2), (3, .int x3)] [] := by
    intro n60
    induction n60 with
    | zero => intro z x2 x3 hf; exact (o_none hf).elim
    | succ n60 ih60 =>
      intro z x2 x3 hf
      replace hf : X9_restore_B60 (it X9_restore_B60 (fun _ _ _ => none) n60) z x2 x3 = some q := hf
      unfold X9_restore_B60 at hf
      refine r_iload_n hc 2 dX9_restore_60 rfl ?_
      refine r_bipush hc (36 : Int32) dX9_restore_61 rfl ?_
      refine r_icmp_ge hc 89 dX9_restore_63 (by decide) (fun c_7 => ?_) (fun c_7 => ?_)
      · have hf := o_pos c_7 hf
        refine r_iconst hc (0 : Int32) dX9_restore_89 rfl ?_
        refine r_istore_n hc [(3, .int (0 : Int32)), (0, .ref (A 0)), (2, .int x2)] dX9_restore_90 (by decide) rfl ?_
        exact V.sub [1, 2, 0] rfl (L91 FU z x2 (0 : Int32) hf)
      · have hf := o_neg c_7 hf
        refine r_aload_n hc 0 dX9_restore_66 rfl ?_
        refine r_get (v := .ref (A 4)) hc iw_X9 0 rfl rfl 4 (by decide) mw_864 rfl dX9_restore_67 ?_
        refine r_iload_n hc 2 dX9_restore_70 rfl ?_
        refine r_aload_n hc 0 dX9_restore_71 rfl ?_
        refine r_get (v := .ref (A 22)) hc iw_X9 0 rfl rfl 28 (by decide) mw_888 rfl dX9_restore_72 ?_
        refine r_iload_n hc 1 dX9_restore_75 rfl ?_
        refine r_bipush hc (24 : Int32) dX9_restore_76 rfl ?_
        refine r_iadd hc dX9_restore_78 ?_
        refine r_iload_n hc 2 dX9_restore_79 rfl ?_
        refine r_iadd hc dX9_restore_80 ?_
        obtain ⟨i_8, hf⟩ := chk_some hf
        refine r_iald (f := (M_image z)) hc 22 rfl i_8 dX9_restore_81 ?_
        obtain ⟨i_9, hf⟩ := chk_some hf
        obtain ⟨z82, ez82, hf⟩ := lt_some hf
        refine r_iast (f := (M_width z)) hc 4 rfl i_9 dX9_restore_82 _ rfl (wM cy A z82) (wM_s_width ez82) ?_
        refine r_iinc hc 2 [(3, .int (x3 + (1 : Int32))), (0, .ref (A 0)), (2, .int x2)] (x3 + (1 : Int32)) dX9_restore_83 rfl rfl (by decide) rfl ?_
        refine r_goto hc 60 dX9_restore_86 (by decide) ?_
        exact V.sub [1, 2, 0] rfl (ih60 z82 x2 (x3 + (1 : Int32)) hf)
  have L32 : ∀ (n32 : Nat) (z : MS) (x2 : Int32) (x3 : Int32), it X9_restore_B32 (fun _ _ _ => none) n32 z x2 x3 = some q → V K (wM cy A z) 32 [(0, .ref (A 0)), (2, .int x2), (3, .int x3)] [] := by
    intro n32
    induction n32 with
    | zero => intro z x2 x3 hf; exact (o_none hf).elim
    | succ n32 ih32 =>
      intro z x2 x3 hf
      replace hf : X9_restore_B32 (it X9_restore_B32 (fun _ _ _ => none) n32) z x2 x3 = some q := hf
      unfold X9_restore_B32 at hf
      refine r_iload_n hc 2 dX9_restore_32 rfl ?_
      refine r_bipush hc (24 : Int32) dX9_restore_33 rfl ?_
      refine r_icmp_ge hc 58 dX9_restore_35 (by decide) (fun c_4 => ?_) (fun c_4 => ?_)
      · have hf := o_pos c_4 hf
        refine r_iconst hc (0 : Int32) dX9_restore_58 rfl ?_
        refine r_istore_n hc [(3, .int (0 : Int32)), (0, .ref (A 0)), (2, .int x2)] dX9_restore_59 (by decide) rfl ?_
        exact V.sub [1, 2, 0] rfl (L60 FU z x2 (0 : Int32) hf)
      · have hf := o_neg c_4 hf
        refine r_aload_n hc 0 dX9_restore_38 rfl ?_
        refine r_get (v := .ref (A 1)) hc iw_X9 0 rfl rfl 1 (by decide) mw_861 rfl dX9_restore_39 ?_
        refine r_iload_n hc 2 dX9_restore_42 rfl ?_
        refine r_aload_n hc 0 dX9_restore_43 rfl ?_
        refine r_get (v := .ref (A 22)) hc iw_X9 0 rfl rfl 28 (by decide) mw_888 rfl dX9_restore_44 ?_
        refine r_iload_n hc 1 dX9_restore_47 rfl ?_
        refine r_iload_n hc 2 dX9_restore_48 rfl ?_
        refine r_iadd hc dX9_restore_49 ?_
        obtain ⟨i_5, hf⟩ := chk_some hf
        refine r_iald (f := (M_image z)) hc 22 rfl i_5 dX9_restore_50 ?_
        obtain ⟨i_6, hf⟩ := chk_some hf
        obtain ⟨z51, ez51, hf⟩ := lt_some hf
        refine r_iast (f := (M_things z)) hc 1 rfl i_6 dX9_restore_51 _ rfl (wM cy A z51) (wM_s_things ez51) ?_
        refine r_iinc hc 2 [(3, .int (x3 + (1 : Int32))), (0, .ref (A 0)), (2, .int x2)] (x3 + (1 : Int32)) dX9_restore_52 rfl rfl (by decide) rfl ?_
        refine r_goto hc 32 dX9_restore_55 (by decide) ?_
        exact V.sub [1, 2, 0] rfl (ih32 z51 x2 (x3 + (1 : Int32)) hf)
  show V K (wM cy A z) 0 [(0, .ref (A 0)), (1, .int x1)] []
  unfold f_X9_restore at hf
  refine r_iload_n hc 1 dX9_restore_0 rfl ?_
  refine r_iconst hc (0 : Int32) dX9_restore_1 rfl ?_
  refine r_iconst hc (1 : Int32) dX9_restore_2 rfl ?_
  obtain ⟨q3, hq3, hf⟩ := o_bind hf
  refine r_callSi (ws' := (wM cy A z)) (As := [.int x1, .int (0 : Int32), .int (1 : Int32)]) (rest := []) hc (c_X9_in  x1 (0 : Int32) (1 : Int32) q3 hq3) ks_X9_in mw_955 _ _ _ (Sp_none _) rfl rfl (Nat.le_of_ble_eq_true rfl) ⟨by decide, by decide⟩ dX9_restore_3 ?_
  refine r_if_ne hc 12 dX9_restore_6 (by decide) (fun c_1 => ?_) (fun c_1 => ?_)
  · have hf := o_neg c_1 hf
    refine r_aload_n hc 0 dX9_restore_12 rfl ?_
    refine r_get (v := .ref (A 23)) hc iw_X9 0 rfl rfl 29 (by decide) mw_889 rfl dX9_restore_13 ?_
    refine r_iload_n hc 1 dX9_restore_16 rfl ?_
    obtain ⟨i_2, hf⟩ := chk_some hf
    refine r_zald (f := (M_isKept z)) hc 23 rfl i_2 dX9_restore_17 ?_
    refine r_if_ne hc 24 dX9_restore_18 (by decide) (fun c_3 => ?_) (fun c_3 => ?_)
    · have hf := o_neg c_3 hf
      refine r_sipush hc (200 : Int32) dX9_restore_24 rfl ?_
      refine r_iload_n hc 1 dX9_restore_27 rfl ?_
      refine r_imul hc dX9_restore_28 ?_
      refine r_istore_n hc [(2, .int ((200 : Int32) * x1)), (0, .ref (A 0)), (1, .int x1)] dX9_restore_29 (by decide) rfl ?_
      refine r_iconst hc (0 : Int32) dX9_restore_30 rfl ?_
      refine r_istore_n hc [(3, .int (0 : Int32)), (2, .int ((200 : Int32) * x1)), (0, .ref (A 0)), (1, .int x1)] dX9_restore_31 (by decide) rfl ?_
      exact V.sub [2, 1, 0] rfl (L32 FU z ((200 : Int32) * x1) (0 : Int32) hf)
    · have hf := o_pos c_3 hf
      refine r_bipush hc (-3 : Int32) dX9_restore_21 rfl ?_
      exact r_iret hK (congrArg (fun z9 => z9.1) (Option.some.inj hf)) (congrArg (fun z9 => (wM cy A z9.2)) (Option.some.inj hf)) dX9_restore_23
  · have hf := o_pos c_1 hf
    refine r_bipush hc (-2 : Int32) dX9_restore_9 rfl ?_
    exact r_iret hK (congrArg (fun z9 => z9.1) (Option.some.inj hf)) (congrArg (fun z9 => (wM cy A z9.2)) (Option.some.inj hf)) dX9_restore_11
def X9_told_J146 (z : MS) : Option (Int32) :=
  (some ((-2 : Int32)))
def f_X9_told (z : MS) (x1 : Int32) : Option (Int32) :=
  (if x1 < (1000 : Int32) then (if x1 < (100 : Int32) then (if x1 < (10 : Int32) then (if x1 = (0 : Int32) then (some ((M_signs z))) else (if x1 = (1 : Int32) then (some ((M_rooms z))) else (if x1 = (2 : Int32) then (some ((M_there z))) else (if x1 = (3 : Int32) then (some ((M_sights z))) else (some ((-2 : Int32))))))) else ((f_X9_isRoom z ((x1 / (10 : Int32)) - (1 : Int32))).bind fun q135 => (if q135 = 0 then (X9_told_J146 z) else (if (x1 - x1 / (10 : Int32) * (10 : Int32)) ≤ (5 : Int32) then (if (4 : Int32) ≤ (x1 - x1 / (10 : Int32) * (10 : Int32)) then (if (x1 - x1 / (10 : Int32) * (10 : Int32)) = (4 : Int32) then (chk ((x1 / (10 : Int32)) - (1 : Int32)) 6 (some (((M_size z) (((x1 / (10 : Int32)) - (1 : Int32))).toNatClampNeg)))) else (chk ((x1 / (10 : Int32)) - (1 : Int32)) 6 (some (((M_chairs z) (((x1 / (10 : Int32)) - (1 : Int32))).toNatClampNeg))))) else (chk (((4 : Int32) * ((x1 / (10 : Int32)) - (1 : Int32))) + (x1 - x1 / (10 : Int32) * (10 : Int32))) 24 (some (((M_things z) ((((4 : Int32) * ((x1 / (10 : Int32)) - (1 : Int32))) + (x1 - x1 / (10 : Int32) * (10 : Int32)))).toNatClampNeg))))) else (X9_told_J146 z))))) else ((f_X9_isRoom z ((x1 / (100 : Int32)) - (1 : Int32))).bind fun q75 => (if q75 = 0 then (some ((-2 : Int32))) else ((f_X9_isRoom z (x1 - x1 / (100 : Int32) * (100 : Int32))).bind fun q86 => (if q86 = 0 then (some ((-2 : Int32))) else (if ((x1 / (100 : Int32)) - (1 : Int32)) = (x1 - x1 / (100 : Int32) * (100 : Int32)) then (some ((-2 : Int32))) else (chk (((6 : Int32) * ((x1 / (100 : Int32)) - (1 : Int32))) + (x1 - x1 / (100 : Int32) * (100 : Int32))) 36 (some (((M_width z) ((((6 : Int32) * ((x1 / (100 : Int32)) - (1 : Int32))) + (x1 - x1 / (100 : Int32) * (100 : Int32)))).toNatClampNeg)))))))))) else ((f_X9_isThere z ((x1 / (1000 : Int32)) - (1 : Int32))).bind fun q22 => (if q22 = 0 then (some ((-2 : Int32))) else (if (5 : Int32) ≤ (x1 - x1 / (1000 : Int32) * (1000 : Int32)) then (some ((-2 : Int32))) else (chk (((5 : Int32) * ((x1 / (1000 : Int32)) - (1 : Int32))) + (x1 - x1 / (1000 : Int32) * (1000 : Int32))) 40 (some ((((M_likes z) ((((5 : Int32) * ((x1 / (1000 : Int32)) - (1 : Int32))) + (x1 - x1 / (1000 : Int32) * (1000 : Int32)))).toNatClampNeg) + (10 : Int32)))))))))
theorem kv_X9_told : KV RX9 yX9_told cX9_told 4 (some .int) 1 := ⟨mw_1220, mw_1221, mw_65, mw_1222, by decide +kernel⟩
set_option maxHeartbeats 8000000 in
set_option maxRecDepth 100000 in
theorem c_X9_told {l : Launch} {E : va_G} {cy : Nat → ClassId} (A : Nat → Nat) (z : MS) (x1 : Int32) (q : Int32) (hf : f_X9_told z x1 = some q) : Ci l yX9_told cX9_told 4 (some .int) 3 103 E cy [.ref (A 0), .int x1] (wM cy A z) q (wM cy A z) := by
  refine Ci.of RX9 (by decide) rfl (Nat.le_of_ble_eq_true rfl) ?_
  intro K hK
  have hc := hK.cq
  have J146 : X9_told_J146  z = some q → V K (wM cy A z) 146 [] [] := by
    intro  hf
    unfold X9_told_J146 at hf
    refine r_bipush hc (-2 : Int32) dX9_told_146 rfl ?_
    refine r_goto hc 189 dX9_told_148 (by decide) ?_
    exact r_iret hK (Option.some.inj hf) rfl dX9_told_189
  show V K (wM cy A z) 0 [(0, .ref (A 0)), (1, .int x1)] []
  unfold f_X9_told at hf
  refine r_iload_n hc 1 dX9_told_0 rfl ?_
  refine r_bipush hc (10 : Int32) dX9_told_1 rfl ?_
  refine r_irem hc dX9_told_3 (by decide) ?_
  refine r_istore_n hc [(2, .int (x1 - x1 / (10 : Int32) * (10 : Int32))), (0, .ref (A 0)), (1, .int x1)] dX9_told_4 (by decide) rfl ?_
  refine r_iload_n hc 2 dX9_told_5 rfl ?_
  refine r_sipush hc (1000 : Int32) dX9_told_6 rfl ?_
  refine r_icmp_lt hc 60 dX9_told_9 (by decide) (fun c_1 => ?_) (fun c_1 => ?_)
  · have hf := o_pos c_1 hf
    refine r_iload_n hc 2 dX9_told_60 rfl ?_
    refine r_bipush hc (100 : Int32) dX9_told_61 rfl ?_
    refine r_icmp_lt hc 120 dX9_told_63 (by decide) (fun c_2 => ?_) (fun c_2 => ?_)
    · have hf := o_pos c_2 hf
      refine r_iload_n hc 2 dX9_told_120 rfl ?_
      refine r_bipush hc (10 : Int32) dX9_told_121 rfl ?_
      refine r_icmp_lt hc 190 dX9_told_123 (by decide) (fun c_3 => ?_) (fun c_3 => ?_)
      · have hf := o_pos c_3 hf
        refine r_iload_n hc 2 dX9_told_190 rfl ?_
        by_cases c_5_0 : x1 = (0 : Int32)
        · have hf := o_pos c_5_0 hf
          refine r_tabIn (off := 25) hc 216 dX9_told_191 (by rw [c_5_0]; decide) (by rw [c_5_0]; decide) (by rw [c_5_0]; rfl) (by decide) ?_
          refine r_aload_n hc 1 dX9_told_216 rfl ?_
          refine r_get (v := .int (M_signs z)) hc iw_X9 0 rfl rfl 13 (by decide) mw_873 rfl dX9_told_217 ?_
          exact r_iret hK (Option.some.inj hf) rfl dX9_told_220
        · have hf := o_neg c_5_0 hf
          by_cases c_5_1 : x1 = (1 : Int32)
          · have hf := o_pos c_5_1 hf
            refine r_tabIn (off := 30) hc 221 dX9_told_191 (by rw [c_5_1]; decide) (by rw [c_5_1]; decide) (by rw [c_5_1]; rfl) (by decide) ?_
            refine r_aload_n hc 1 dX9_told_221 rfl ?_
            refine r_get (v := .int (M_rooms z)) hc iw_X9 0 rfl rfl 0 (by decide) mw_860 rfl dX9_told_222 ?_
            exact r_iret hK (Option.some.inj hf) rfl dX9_told_225
          · have hf := o_neg c_5_1 hf
            by_cases c_5_2 : x1 = (2 : Int32)
            · have hf := o_pos c_5_2 hf
              refine r_tabIn (off := 35) hc 226 dX9_told_191 (by rw [c_5_2]; decide) (by rw [c_5_2]; decide) (by rw [c_5_2]; rfl) (by decide) ?_
              refine r_aload_n hc 1 dX9_told_226 rfl ?_
              refine r_get (v := .int (M_there z)) hc iw_X9 0 rfl rfl 5 (by decide) mw_865 rfl dX9_told_227 ?_
              exact r_iret hK (Option.some.inj hf) rfl dX9_told_230
            · have hf := o_neg c_5_2 hf
              have ho9 : (x1).toInt < 0 ∨ 2 < (x1).toInt := by
                refine tab_out (fun cc9 h1 h2 => ?_)
                rcases (show cc9 = 0 ∨ cc9 = 1 ∨ cc9 = 2 by omega) with rfl | rfl | rfl
                · exact c_5_0
                · exact c_5_1
                · exact c_5_2
              refine r_tabOut hc 231 dX9_told_191 ho9 (by decide) ?_
              refine r_iload_n hc 2 dX9_told_231 rfl ?_
              refine r_iconst hc (3 : Int32) dX9_told_232 rfl ?_
              refine r_icmp_ne hc 243 dX9_told_233 (by decide) (fun c_4 => ?_) (fun c_4 => ?_)
              · have hf := o_neg c_4 hf
                refine r_bipush hc (-2 : Int32) dX9_told_243 rfl ?_
                exact r_iret hK (Option.some.inj hf) rfl dX9_told_245
              · have hf := o_pos c_4 hf
                refine r_aload_n hc 1 dX9_told_236 rfl ?_
                refine r_get (v := .int (M_sights z)) hc iw_X9 0 rfl rfl 11 (by decide) mw_871 rfl dX9_told_237 ?_
                refine r_goto hc 245 dX9_told_240 (by decide) ?_
                exact r_iret hK (Option.some.inj hf) rfl dX9_told_245
      · have hf := o_neg c_3 hf
        refine r_iload_n hc 2 dX9_told_126 rfl ?_
        refine r_bipush hc (10 : Int32) dX9_told_127 rfl ?_
        refine r_idiv hc dX9_told_129 (by decide) ?_
        refine r_iconst hc (1 : Int32) dX9_told_130 rfl ?_
        refine r_isub hc dX9_told_131 ?_
        refine r_istore_n hc [(3, .int ((x1 / (10 : Int32)) - (1 : Int32))), (2, .int (x1 - x1 / (10 : Int32) * (10 : Int32))), (0, .ref (A 0)), (1, .int x1)] dX9_told_132 (by decide) rfl ?_
        refine r_aload_n hc 2 dX9_told_133 rfl ?_
        refine r_iload_n hc 0 dX9_told_134 rfl ?_
        obtain ⟨q135, hq135, hf⟩ := o_bind hf
        refine r_callVi (ws' := (wM cy A z)) (As := [.int ((x1 / (10 : Int32)) - (1 : Int32))]) (rest := []) hc (c_X9_isRoom A z ((x1 / (10 : Int32)) - (1 : Int32)) q135 hq135) kv_X9_isRoom mw_962 0 rfl rfl _ _ _ (Sp_all _ _) rfl rfl (Nat.le_of_ble_eq_true rfl) ⟨by decide, by decide⟩ dX9_told_135 ?_
        refine r_if_eq hc 146 dX9_told_138 (by decide) (fun c_6 => ?_) (fun c_6 => ?_)
        · have hf := o_pos c_6 hf
          exact V.sub [] rfl (J146  hf)
        · have hf := o_neg c_6 hf
          refine r_iload_n hc 1 dX9_told_141 rfl ?_
          refine r_iconst hc (5 : Int32) dX9_told_142 rfl ?_
          refine r_icmp_le hc 151 dX9_told_143 (by decide) (fun c_7 => ?_) (fun c_7 => ?_)
          · have hf := o_pos c_7 hf
            refine r_iload_n hc 1 dX9_told_151 rfl ?_
            refine r_iconst hc (4 : Int32) dX9_told_152 rfl ?_
            refine r_icmp_ge hc 169 dX9_told_153 (by decide) (fun c_8 => ?_) (fun c_8 => ?_)
            · have hf := o_pos c_8 hf
              refine r_iload_n hc 1 dX9_told_169 rfl ?_
              refine r_iconst hc (4 : Int32) dX9_told_170 rfl ?_
              refine r_icmp_ne hc 183 dX9_told_171 (by decide) (fun c_9 => ?_) (fun c_9 => ?_)
              · have hf := o_neg c_9 hf
                refine r_aload_n hc 2 dX9_told_183 rfl ?_
                refine r_get (v := .ref (A 3)) hc iw_X9 0 rfl rfl 3 (by decide) mw_863 rfl dX9_told_184 ?_
                refine r_iload_n hc 0 dX9_told_187 rfl ?_
                obtain ⟨i_10, hf⟩ := chk_some hf
                refine r_iald (f := (M_chairs z)) hc 3 rfl i_10 dX9_told_188 ?_
                exact r_iret hK (Option.some.inj hf) rfl dX9_told_189
              · have hf := o_pos c_9 hf
                refine r_aload_n hc 2 dX9_told_174 rfl ?_
                refine r_get (v := .ref (A 2)) hc iw_X9 0 rfl rfl 2 (by decide) mw_862 rfl dX9_told_175 ?_
                refine r_iload_n hc 0 dX9_told_178 rfl ?_
                obtain ⟨i_11, hf⟩ := chk_some hf
                refine r_iald (f := (M_size z)) hc 2 rfl i_11 dX9_told_179 ?_
                refine r_goto hc 189 dX9_told_180 (by decide) ?_
                exact r_iret hK (Option.some.inj hf) rfl dX9_told_189
            · have hf := o_neg c_8 hf
              refine r_aload_n hc 2 dX9_told_156 rfl ?_
              refine r_get (v := .ref (A 1)) hc iw_X9 0 rfl rfl 1 (by decide) mw_861 rfl dX9_told_157 ?_
              refine r_iconst hc (4 : Int32) dX9_told_160 rfl ?_
              refine r_iload_n hc 0 dX9_told_161 rfl ?_
              refine r_imul hc dX9_told_162 ?_
              refine r_iload_n hc 1 dX9_told_163 rfl ?_
              refine r_iadd hc dX9_told_164 ?_
              obtain ⟨i_12, hf⟩ := chk_some hf
              refine r_iald (f := (M_things z)) hc 1 rfl i_12 dX9_told_165 ?_
              refine r_goto hc 189 dX9_told_166 (by decide) ?_
              exact r_iret hK (Option.some.inj hf) rfl dX9_told_189
          · have hf := o_neg c_7 hf
            exact V.sub [] rfl (J146  hf)
    · have hf := o_neg c_2 hf
      refine r_iload_n hc 2 dX9_told_66 rfl ?_
      refine r_bipush hc (100 : Int32) dX9_told_67 rfl ?_
      refine r_idiv hc dX9_told_69 (by decide) ?_
      refine r_iconst hc (1 : Int32) dX9_told_70 rfl ?_
      refine r_isub hc dX9_told_71 ?_
      refine r_istore_n hc [(3, .int ((x1 / (100 : Int32)) - (1 : Int32))), (2, .int (x1 - x1 / (10 : Int32) * (10 : Int32))), (0, .ref (A 0)), (1, .int x1)] dX9_told_72 (by decide) rfl ?_
      refine r_aload_n hc 2 dX9_told_73 rfl ?_
      refine r_iload_n hc 0 dX9_told_74 rfl ?_
      obtain ⟨q75, hq75, hf⟩ := o_bind hf
      refine r_callVi (ws' := (wM cy A z)) (As := [.int ((x1 / (100 : Int32)) - (1 : Int32))]) (rest := []) hc (c_X9_isRoom A z ((x1 / (100 : Int32)) - (1 : Int32)) q75 hq75) kv_X9_isRoom mw_962 0 rfl rfl _ _ _ (Sp_all _ _) rfl rfl (Nat.le_of_ble_eq_true rfl) ⟨by decide, by decide⟩ dX9_told_75 ?_
      refine r_if_eq hc 117 dX9_told_78 (by decide) (fun c_13 => ?_) (fun c_13 => ?_)
      · have hf := o_pos c_13 hf
        refine r_bipush hc (-2 : Int32) dX9_told_117 rfl ?_
        exact r_iret hK (Option.some.inj hf) rfl dX9_told_119
      · have hf := o_neg c_13 hf
        refine r_aload_n hc 2 dX9_told_81 rfl ?_
        refine r_iload_n hc 3 dX9_told_82 rfl ?_
        refine r_bipush hc (100 : Int32) dX9_told_83 rfl ?_
        refine r_irem hc dX9_told_85 (by decide) ?_
        obtain ⟨q86, hq86, hf⟩ := o_bind hf
        refine r_callVi (ws' := (wM cy A z)) (As := [.int (x1 - x1 / (100 : Int32) * (100 : Int32))]) (rest := []) hc (c_X9_isRoom A z (x1 - x1 / (100 : Int32) * (100 : Int32)) q86 hq86) kv_X9_isRoom mw_962 0 rfl rfl _ _ _ (Sp_all _ _) rfl rfl (Nat.le_of_ble_eq_true rfl) ⟨by decide, by decide⟩ dX9_told_86 ?_
        refine r_if_eq hc 117 dX9_told_89 (by decide) (fun c_14 => ?_) (fun c_14 => ?_)
        · have hf := o_pos c_14 hf
          refine r_bipush hc (-2 : Int32) dX9_told_117 rfl ?_
          exact r_iret hK (Option.some.inj hf) rfl dX9_told_119
        · have hf := o_neg c_14 hf
          refine r_iload_n hc 0 dX9_told_92 rfl ?_
          refine r_iload_n hc 3 dX9_told_93 rfl ?_
          refine r_bipush hc (100 : Int32) dX9_told_94 rfl ?_
          refine r_irem hc dX9_told_96 (by decide) ?_
          refine r_icmp_eq hc 117 dX9_told_97 (by decide) (fun c_15 => ?_) (fun c_15 => ?_)
          · have hf := o_pos c_15 hf
            refine r_bipush hc (-2 : Int32) dX9_told_117 rfl ?_
            exact r_iret hK (Option.some.inj hf) rfl dX9_told_119
          · have hf := o_neg c_15 hf
            refine r_aload_n hc 2 dX9_told_100 rfl ?_
            refine r_get (v := .ref (A 4)) hc iw_X9 0 rfl rfl 4 (by decide) mw_864 rfl dX9_told_101 ?_
            refine r_bipush hc (6 : Int32) dX9_told_104 rfl ?_
            refine r_iload_n hc 0 dX9_told_106 rfl ?_
            refine r_imul hc dX9_told_107 ?_
            refine r_iload_n hc 3 dX9_told_108 rfl ?_
            refine r_bipush hc (100 : Int32) dX9_told_109 rfl ?_
            refine r_irem hc dX9_told_111 (by decide) ?_
            refine r_iadd hc dX9_told_112 ?_
            obtain ⟨i_16, hf⟩ := chk_some hf
            refine r_iald (f := (M_width z)) hc 4 rfl i_16 dX9_told_113 ?_
            refine r_goto hc 119 dX9_told_114 (by decide) ?_
            exact r_iret hK (Option.some.inj hf) rfl dX9_told_119
  · have hf := o_neg c_1 hf
    refine r_iload_n hc 2 dX9_told_12 rfl ?_
    refine r_sipush hc (1000 : Int32) dX9_told_13 rfl ?_
    refine r_idiv hc dX9_told_16 (by decide) ?_
    refine r_iconst hc (1 : Int32) dX9_told_17 rfl ?_
    refine r_isub hc dX9_told_18 ?_
    refine r_istore_n hc [(3, .int ((x1 / (1000 : Int32)) - (1 : Int32))), (2, .int (x1 - x1 / (10 : Int32) * (10 : Int32))), (0, .ref (A 0)), (1, .int x1)] dX9_told_19 (by decide) rfl ?_
    refine r_aload_n hc 2 dX9_told_20 rfl ?_
    refine r_iload_n hc 0 dX9_told_21 rfl ?_
    obtain ⟨q22, hq22, hf⟩ := o_bind hf
    refine r_callVi (ws' := (wM cy A z)) (As := [.int ((x1 / (1000 : Int32)) - (1 : Int32))]) (rest := []) hc (c_X9_isThere A z ((x1 / (1000 : Int32)) - (1 : Int32)) q22 hq22) kv_X9_isThere mw_996 0 rfl rfl _ _ _ (Sp_all _ _) rfl rfl (Nat.le_of_ble_eq_true rfl) ⟨by decide, by decide⟩ dX9_told_22 ?_
    refine r_if_eq hc 57 dX9_told_25 (by decide) (fun c_17 => ?_) (fun c_17 => ?_)
    · have hf := o_pos c_17 hf
      refine r_bipush hc (-2 : Int32) dX9_told_57 rfl ?_
      exact r_iret hK (Option.some.inj hf) rfl dX9_told_59
    · have hf := o_neg c_17 hf
      refine r_iload_n hc 3 dX9_told_28 rfl ?_
      refine r_sipush hc (1000 : Int32) dX9_told_29 rfl ?_
      refine r_irem hc dX9_told_32 (by decide) ?_
      refine r_iconst hc (5 : Int32) dX9_told_33 rfl ?_
      refine r_icmp_ge hc 57 dX9_told_34 (by decide) (fun c_18 => ?_) (fun c_18 => ?_)
      · have hf := o_pos c_18 hf
        refine r_bipush hc (-2 : Int32) dX9_told_57 rfl ?_
        exact r_iret hK (Option.some.inj hf) rfl dX9_told_59
      · have hf := o_neg c_18 hf
        refine r_aload_n hc 2 dX9_told_37 rfl ?_
        refine r_get (v := .ref (A 5)) hc iw_X9 0 rfl rfl 6 (by decide) mw_866 rfl dX9_told_38 ?_
        refine r_iconst hc (5 : Int32) dX9_told_41 rfl ?_
        refine r_iload_n hc 0 dX9_told_42 rfl ?_
        refine r_imul hc dX9_told_43 ?_
        refine r_iload_n hc 3 dX9_told_44 rfl ?_
        refine r_sipush hc (1000 : Int32) dX9_told_45 rfl ?_
        refine r_irem hc dX9_told_48 (by decide) ?_
        refine r_iadd hc dX9_told_49 ?_
        obtain ⟨i_19, hf⟩ := chk_some hf
        refine r_iald (f := (M_likes z)) hc 5 rfl i_19 dX9_told_50 ?_
        refine r_bipush hc (10 : Int32) dX9_told_51 rfl ?_
        refine r_iadd hc dX9_told_53 ?_
        refine r_goto hc 59 dX9_told_54 (by decide) ?_
        exact r_iret hK (Option.some.inj hf) rfl dX9_told_59
