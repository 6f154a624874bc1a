def X9_excuses_J385 (k316 : MS → Int32 → Int32 → Int32 → Int32 → Option (Int32 × MS)) (k328 : MS → Int32 → Int32 → Int32 → Int32 → Int32 → Option (Int32 × MS)) (z : MS) (x3 : Int32) (x5 : Int32) (x7 : Int32) (x8 : Int32) (x9 : Int32) : Option (Int32 × MS) :=
  (k328 z x3 x5 x7 x8 (x9 + (1 : Int32)))
def X9_excuses_B328 (k316 : MS → Int32 → Int32 → Int32 → Int32 → Option (Int32 × MS)) (k328 : MS → Int32 → Int32 → Int32 → Int32 → Int32 → Option (Int32 × MS)) (z : MS) (x3 : Int32) (x5 : Int32) (x7 : Int32) (x8 : Int32) (x9 : Int32) : Option (Int32 × MS) :=
  (chk (((6 : Int32) * x7) + x9) 36 (if ((M_width z) ((((6 : Int32) * x7) + x9)).toNatClampNeg) = 0 then (X9_excuses_J385 k316 k328 z x3 x5 x7 x8 x9) else ((f_X9_countIn z x9 (-6 : Int32)).bind fun q349 => (chk ((((6 : Int32) * x8) - (6 : Int32)) + x9) 36 (chk (((6 : Int32) * x8) + x7) 36 (if (q349 + ((M_dear z) (((((6 : Int32) * x8) - (6 : Int32)) + x9)).toNatClampNeg)) = ((M_dear z) ((((6 : Int32) * x8) + x7)).toNatClampNeg) then (k316 z x3 x5 x9 (x8 + (-1 : Int32))) else (X9_excuses_J385 k316 k328 z x3 x5 x7 x8 x9)))))))
def X9_excuses_B316 (k316 : MS → Int32 → Int32 → Int32 → Int32 → Option (Int32 × MS)) (z : MS) (x3 : Int32) (x5 : Int32) (x7 : Int32) (x8 : Int32) : Option (Int32 × MS) :=
  (if x8 ≤ (x5 - x3) then (some (x7, z)) else (it (X9_excuses_B328 k316) (fun _ _ _ _ _ _ => none) FU z x3 x5 x7 x8 (0 : Int32)))
def X9_excuses_J280 (z : MS) (x6 : Int32) : Option (Int32 × MS) :=
  (if x6 < (1000000 : Int32) then (some (x6, z)) else (some ((-6 : Int32), z)))
def X9_excuses_J245 (k202 : MS → Int32 → Int32 → Int32 → Int32 → Option (Int32 × MS)) (z : MS) (x3 : Int32) (x4 : Int32) (x6 : Int32) (s0 : Int32) : Option (Int32 × MS) :=
  (k202 z x3 x4 s0 (x6 + (1 : Int32)))
def X9_excuses_B202 (k202 : MS → Int32 → Int32 → Int32 → Int32 → Option (Int32 × MS)) (z : MS) (x3 : Int32) (x4 : Int32) (x5 : Int32) (x6 : Int32) : Option (Int32 × MS) :=
  (if (6 : Int32) ≤ x6 then (chk (((6 : Int32) * x5) + x4) 36 (if (1000000 : Int32) ≤ ((M_dear z) ((((6 : Int32) * x5) + x4)).toNatClampNeg) then (X9_excuses_J280 z ((M_dear z) ((((6 : Int32) * x5) + x4)).toNatClampNeg)) else (if x3 = (-1 : Int32) then (X9_excuses_J280 z ((M_dear z) ((((6 : Int32) * x5) + x4)).toNatClampNeg)) else ((f_X9_in x3 (0 : Int32) x5).bind fun q299 => (if q299 = 0 then (some ((-6 : Int32), z)) else (it X9_excuses_B316 (fun _ _ _ _ _ => none) FU z x3 x5 x4 x5)))))) else (chk (((6 : Int32) * x6) + x4) 36 (chk (((6 : Int32) * x5) + x4) 36 (if ((M_dear z) ((((6 : Int32) * x5) + x4)).toNatClampNeg) ≤ ((M_dear z) ((((6 : Int32) * x6) + x4)).toNatClampNeg) then (X9_excuses_J245 k202 z x3 x4 x6 x5) else (X9_excuses_J245 k202 z x3 x4 x6 x6)))))
def X9_excuses_J153 (k60 : MS → Int32 → Int32 → Int32 → Option (Int32 × MS)) (k70 : MS → Int32 → Int32 → Int32 → Int32 → Option (Int32 × MS)) (k84 : MS → Int32 → Int32 → Int32 → Int32 → Int32 → Int32 → Option (Int32 × MS)) (z : MS) (x1 : Int32) (x3 : Int32) (x4 : Int32) (x5 : Int32) (x7 : Int32) (s0 : Int32) : Option (Int32 × MS) :=
  (k84 z x1 x3 x4 x5 s0 (x7 + (1 : Int32)))
def X9_excuses_J137 (k60 : MS → Int32 → Int32 → Int32 → Option (Int32 × MS)) (k70 : MS → Int32 → Int32 → Int32 → Int32 → Option (Int32 × MS)) (k84 : MS → Int32 → Int32 → Int32 → Int32 → Int32 → Int32 → Option (Int32 × MS)) (z : MS) (x1 : Int32) (x3 : Int32) (x4 : Int32) (x5 : Int32) (x6 : Int32) (x7 : Int32) (s0 : Int32) : Option (Int32 × MS) :=
  (if x6 ≤ s0 then (X9_excuses_J153 k60 k70 k84 z x1 x3 x4 x5 x7 x6) else (X9_excuses_J153 k60 k70 k84 z x1 x3 x4 x5 x7 s0))
def X9_excuses_B84 (k60 : MS → Int32 → Int32 → Int32 → Option (Int32 × MS)) (k70 : MS → Int32 → Int32 → Int32 → Int32 → Option (Int32 × MS)) (k84 : MS → Int32 → Int32 → Int32 → Int32 → Int32 → Int32 → Option (Int32 × MS)) (z : MS) (x1 : Int32) (x3 : Int32) (x4 : Int32) (x5 : Int32) (x6 : Int32) (x7 : Int32) : Option (Int32 × MS) :=
  (if (6 : Int32) ≤ x7 then (chk (((6 : Int32) * x4) + x5) 36 (ltA (M_set_dear z (upd (M_dear z) ((((6 : Int32) * x4) + x5)).toNatClampNeg x6)) fun z175 => (k70 z175 x1 x3 x4 (x5 + (1 : Int32))))) else (chk (((6 : Int32) * x5) + x7) 36 (if ((M_width z) ((((6 : Int32) * x5) + x7)).toNatClampNeg) ≤ 0 then (X9_excuses_J137 k60 k70 k84 z x1 x3 x4 x5 x6 x7 (1000000 : Int32)) else ((f_X9_countIn z x7 (-6 : Int32)).bind fun q112 => (chk ((((6 : Int32) * x4) - (6 : Int32)) + x7) 36 (X9_excuses_J137 k60 k70 k84 z x1 x3 x4 x5 x6 x7 (q112 + ((M_dear z) (((((6 : Int32) * x4) - (6 : Int32)) + x7)).toNatClampNeg))))))))
def X9_excuses_B70 (k60 : MS → Int32 → Int32 → Int32 → Option (Int32 × MS)) (k70 : MS → Int32 → Int32 → Int32 → Int32 → Option (Int32 × MS)) (z : MS) (x1 : Int32) (x3 : Int32) (x4 : Int32) (x5 : Int32) : Option (Int32 × MS) :=
  (if (6 : Int32) ≤ x5 then (k60 z x1 x3 (x4 + (1 : Int32))) else (it (X9_excuses_B84 k60 k70) (fun _ _ _ _ _ _ _ => none) FU z x1 x3 x4 x5 (1000000 : Int32) (0 : Int32)))
def X9_excuses_B60 (k60 : MS → Int32 → Int32 → Int32 → Option (Int32 × MS)) (z : MS) (x1 : Int32) (x3 : Int32) (x4 : Int32) : Option (Int32 × MS) :=
  (if (6 : Int32) ≤ x4 then (chk x1 8 (it X9_excuses_B202 (fun _ _ _ _ _ => none) FU z x3 ((M_at z) (x1).toNatClampNeg) (0 : Int32) (1 : Int32))) else (it (X9_excuses_B70 k60) (fun _ _ _ _ _ => none) FU z x1 x3 x4 (0 : Int32)))
def X9_excuses_J50 (k25 : MS → Int32 → Int32 → Int32 → Int32 → Option (Int32 × MS)) (z : MS) (x1 : Int32) (x2 : Int32) (x3 : Int32) (x4 : Int32) (s0 : Int32) (s1 : Int32) : Option (Int32 × MS) :=
  (chk s1 36 (ltA (M_set_dear z (upd (M_dear z) (s1).toNatClampNeg s0)) fun z50 => (k25 z50 x1 x2 x3 (x4 + (1 : Int32)))))
def X9_excuses_B25 (k25 : MS → Int32 → Int32 → Int32 → Int32 → Option (Int32 × MS)) (z : MS) (x1 : Int32) (x2 : Int32) (x3 : Int32) (x4 : Int32) : Option (Int32 × MS) :=
  (if (6 : Int32) ≤ x4 then (it X9_excuses_B60 (fun _ _ _ _ => none) FU z x1 x3 (1 : Int32)) else (if x4 = x2 then (X9_excuses_J50 k25 z x1 x2 x3 x4 (0 : Int32) x4) else (X9_excuses_J50 k25 z x1 x2 x3 x4 (1000000 : Int32) x4)))
def f_X9_excuses (z : MS) (x1 : Int32) (x2 : Int32) (x3 : Int32) : Option (Int32 × MS) :=
  ((f_X9_isThere z x1).bind fun q2 => (if q2 = 0 then (some ((-1 : Int32), z)) else ((f_X9_isRoom z x2).bind fun q10 => (if q10 = 0 then (some ((-1 : Int32), z)) else ((f_X9_asNow z).bind fun q19 => (it X9_excuses_B25 (fun _ _ _ _ _ => none) FU q19 x1 x2 x3 (0 : Int32)))))))
theorem kv_X9_excuses : KV RX9 yX9_excuses cX9_excuses 10 (some .int) 3 := ⟨mw_1184, mw_1185, mw_65, mw_1186, by decide +kernel⟩
set_option maxHeartbeats 8000000 in
set_option maxRecDepth 100000 in
theorem c_X9_excuses {l : Launch} {E : va_G} {cy : Nat → ClassId} (A : Nat → Nat) (z : MS) (x1 : Int32) (x2 : Int32) (x3 : Int32) (q : Int32 × MS) (hf : f_X9_excuses z x1 x2 x3 = some q) : Ci l yX9_excuses cX9_excuses 10 (some .int) 3 105 E cy [.ref (A 0), .int x1, .int x2, .int x3] (wM cy A z) q.1 (wM cy A q.2) := by
  refine Ci.of RX9 (by decide) rfl (Nat.le_of_ble_eq_true rfl) ?_
  intro K hK
  have hc := hK.cq
  have L316 : ∀ (n316 : Nat) (z : MS) (x3 : Int32) (x5 : Int32) (x7 : Int32) (x8 : Int32), it X9_excuses_B316 (fun _ _ _ _ _ => none) n316 z x3 x5 x7 x8 = some q → V K (wM cy A z) 316 [(0, .ref (A 0)), (3, .int x3), (5, .int x5), (7, .int x7), (8, .int x8)] [] := by
    intro n316
    induction n316 with
    | zero => intro z x3 x5 x7 x8 hf; exact (o_none hf).elim
    | succ n316 ih316 =>
      have L328 : ∀ (n328 : Nat) (z : MS) (x3 : Int32) (x5 : Int32) (x7 : Int32) (x8 : Int32) (x9 : Int32), it (X9_excuses_B328 (it X9_excuses_B316 (fun _ _ _ _ _ => none) n316)) (fun _ _ _ _ _ _ => none) n328 z x3 x5 x7 x8 x9 = some q → V K (wM cy A z) 328 [(0, .ref (A 0)), (3, .int x3), (5, .int x5), (7, .int x7), (8, .int x8), (9, .int x9)] [] := by
        intro n328
        induction n328 with
        | zero => intro z x3 x5 x7 x8 x9 hf; exact (o_none hf).elim
        | succ n328 ih328 =>
          have J385 : ∀ (z : MS) (x3 : Int32) (x5 : Int32) (x7 : Int32) (x8 : Int32) (x9 : Int32), X9_excuses_J385 (it X9_excuses_B316 (fun _ _ _ _ _ => none) n316) (it (X9_excuses_B328 (it X9_excuses_B316 (fun _ _ _ _ _ => none) n316)) (fun _ _ _ _ _ _ => none) n328) z x3 x5 x7 x8 x9 = some q → V K (wM cy A z) 385 [(0, .ref (A 0)), (3, .int x3), (5, .int x5), (7, .int x7), (8, .int x8), (9, .int x9)] [] := by
            intro z x3 x5 x7 x8 x9 hf
            unfold X9_excuses_J385 at hf
            refine r_iinc hc 5 [(9, .int (x9 + (1 : Int32))), (0, .ref (A 0)), (3, .int x3), (5, .int x5), (7, .int x7), (8, .int x8)] (x9 + (1 : Int32)) dX9_excuses_385 rfl rfl (by decide) rfl ?_
            refine r_goto hc 328 dX9_excuses_388 (by decide) ?_
            exact V.sub [1, 2, 3, 4, 5, 0] rfl (ih328 z x3 x5 x7 x8 (x9 + (1 : Int32)) hf)
          intro z x3 x5 x7 x8 x9 hf
          replace hf : X9_excuses_B328 (it X9_excuses_B316 (fun _ _ _ _ _ => none) n316) (it (X9_excuses_B328 (it X9_excuses_B316 (fun _ _ _ _ _ => none) n316)) (fun _ _ _ _ _ _ => none) n328) z x3 x5 x7 x8 x9 = some q := hf
          unfold X9_excuses_B328 at hf
          refine r_aload_n hc 0 dX9_excuses_328 rfl ?_
          refine r_get (v := .ref (A 4)) hc iw_X9 0 rfl rfl 4 (by decide) mw_864 rfl dX9_excuses_329 ?_
          refine r_bipush hc (6 : Int32) dX9_excuses_332 rfl ?_
          refine r_iload hc 3 dX9_excuses_334 rfl ?_
          refine r_imul hc dX9_excuses_336 ?_
          refine r_iload hc 5 dX9_excuses_337 rfl ?_
          refine r_iadd hc dX9_excuses_339 ?_
          obtain ⟨i_24, hf⟩ := chk_some hf
          refine r_iald (f := (M_width z)) hc 4 rfl i_24 dX9_excuses_340 ?_
          refine r_if_eq hc 385 dX9_excuses_341 (by decide) (fun c_25 => ?_) (fun c_25 => ?_)
          · have hf := o_pos c_25 hf
            exact V.sub [0, 1, 2, 3, 4, 5] rfl (J385 z x3 x5 x7 x8 x9 hf)
          · have hf := o_neg c_25 hf
            refine r_aload_n hc 0 dX9_excuses_344 rfl ?_
            refine r_iload hc 5 dX9_excuses_345 rfl ?_
            refine r_bipush hc (-6 : Int32) dX9_excuses_347 rfl ?_
            obtain ⟨q349, hq349, hf⟩ := o_bind hf
            refine r_callVi (ws' := (wM cy A z)) (As := [.int x9, .int (-6 : Int32)]) (rest := []) hc (c_X9_countIn A z x9 (-6 : Int32) q349 hq349) kv_X9_countIn mw_1048 0 rfl rfl _ _ _ (Sp_all _ _) rfl rfl (Nat.le_of_ble_eq_true rfl) ⟨by decide, by decide⟩ dX9_excuses_349 ?_
            refine r_aload_n hc 0 dX9_excuses_352 rfl ?_
            refine r_get (v := .ref (A 19)) hc iw_X9 0 rfl rfl 25 (by decide) mw_885 rfl dX9_excuses_353 ?_
            refine r_bipush hc (6 : Int32) dX9_excuses_356 rfl ?_
            refine r_iload hc 4 dX9_excuses_358 rfl ?_
            refine r_imul hc dX9_excuses_360 ?_
            refine r_bipush hc (6 : Int32) dX9_excuses_361 rfl ?_
            refine r_isub hc dX9_excuses_363 ?_
            refine r_iload hc 5 dX9_excuses_364 rfl ?_
            refine r_iadd hc dX9_excuses_366 ?_
            obtain ⟨i_26, hf⟩ := chk_some hf
            refine r_iald (f := (M_dear z)) hc 19 rfl i_26 dX9_excuses_367 ?_
            refine r_iadd hc dX9_excuses_368 ?_
            refine r_aload_n hc 0 dX9_excuses_369 rfl ?_
            refine r_get (v := .ref (A 19)) hc iw_X9 0 rfl rfl 25 (by decide) mw_885 rfl dX9_excuses_370 ?_
            refine r_bipush hc (6 : Int32) dX9_excuses_373 rfl ?_
            refine r_iload hc 4 dX9_excuses_375 rfl ?_
            refine r_imul hc dX9_excuses_377 ?_
            refine r_iload hc 3 dX9_excuses_378 rfl ?_
            refine r_iadd hc dX9_excuses_380 ?_
            obtain ⟨i_27, hf⟩ := chk_some hf
            refine r_iald (f := (M_dear z)) hc 19 rfl i_27 dX9_excuses_381 ?_
            refine r_icmp_eq hc 391 dX9_excuses_382 (by decide) (fun c_28 => ?_) (fun c_28 => ?_)
            · have hf := o_pos c_28 hf
              refine r_iload hc 5 dX9_excuses_391 rfl ?_
              refine r_istore hc [(7, .int x9), (0, .ref (A 0)), (3, .int x3), (5, .int x5), (8, .int x8), (9, .int x9)] dX9_excuses_393 (by decide) rfl ?_
              refine r_iinc hc 4 [(8, .int (x8 + (-1 : Int32))), (7, .int x9), (0, .ref (A 0)), (3, .int x3), (5, .int x5), (9, .int x9)] (x8 + (-1 : Int32)) dX9_excuses_395 rfl rfl (by decide) rfl ?_
              refine r_goto hc 316 dX9_excuses_398 (by decide) ?_
              exact V.sub [2, 3, 4, 1, 0] rfl (ih316 z x3 x5 x9 (x8 + (-1 : Int32)) hf)
            · have hf := o_neg c_28 hf
              exact V.sub [0, 1, 2, 3, 4, 5] rfl (J385 z x3 x5 x7 x8 x9 hf)
      intro z x3 x5 x7 x8 hf
      replace hf : X9_excuses_B316 (it X9_excuses_B316 (fun _ _ _ _ _ => none) n316) z x3 x5 x7 x8 = some q := hf
      unfold X9_excuses_B316 at hf
      refine r_iload hc 4 dX9_excuses_316 rfl ?_
      refine r_iload hc 2 dX9_excuses_318 rfl ?_
      refine r_iload_n hc 1 dX9_excuses_320 rfl ?_
      refine r_isub hc dX9_excuses_321 ?_
      refine r_icmp_le hc 401 dX9_excuses_322 (by decide) (fun c_23 => ?_) (fun c_23 => ?_)
      · have hf := o_pos c_23 hf
        refine r_iload hc 3 dX9_excuses_401 rfl ?_
        exact r_iret hK (congrArg (fun z9 => z9.1) (Option.some.inj hf)) (congrArg (fun z9 => (wM cy A z9.2)) (Option.some.inj hf)) dX9_excuses_403
      · have hf := o_neg c_23 hf
        refine r_iconst hc (0 : Int32) dX9_excuses_325 rfl ?_
        refine r_istore hc [(9, .int (0 : Int32)), (0, .ref (A 0)), (3, .int x3), (5, .int x5), (7, .int x7), (8, .int x8)] dX9_excuses_326 (by decide) rfl ?_
        exact V.sub [1, 2, 3, 4, 5, 0] rfl (L328 FU z x3 x5 x7 x8 (0 : Int32) hf)
  have J280 : ∀ (z : MS) (x6 : Int32), X9_excuses_J280  z x6 = some q → V K (wM cy A z) 280 [(6, .int x6)] [] := by
    intro z x6 hf
    unfold X9_excuses_J280 at hf
    refine r_iload hc 0 dX9_excuses_280 rfl ?_
    refine r_ldc (v := (1000000 : Int32)) hc mw_1178 dX9_excuses_282 ?_
    refine r_icmp_lt hc 292 dX9_excuses_284 (by decide) (fun c_29 => ?_) (fun c_29 => ?_)
    · have hf := o_pos c_29 hf
      refine r_iload hc 0 dX9_excuses_292 rfl ?_
      exact r_iret hK (congrArg (fun z9 => z9.1) (Option.some.inj hf)) (congrArg (fun z9 => (wM cy A z9.2)) (Option.some.inj hf)) dX9_excuses_294
    · have hf := o_neg c_29 hf
      refine r_bipush hc (-6 : Int32) dX9_excuses_287 rfl ?_
      refine r_goto hc 294 dX9_excuses_289 (by decide) ?_
      exact r_iret hK (congrArg (fun z9 => z9.1) (Option.some.inj hf)) (congrArg (fun z9 => (wM cy A z9.2)) (Option.some.inj hf)) dX9_excuses_294
  have L202 : ∀ (n202 : Nat) (z : MS) (x3 : Int32) (x4 : Int32) (x5 : Int32) (x6 : Int32), it X9_excuses_B202 (fun _ _ _ _ _ => none) n202 z x3 x4 x5 x6 = some q → V K (wM cy A z) 202 [(0, .ref (A 0)), (3, .int x3), (4, .int x4), (5, .int x5), (6, .int x6)] [] := by
    intro n202
    induction n202 with
    | zero => intro z x3 x4 x5 x6 hf; exact (o_none hf).elim
    | succ n202 ih202 =>
      have J245 : ∀ (z : MS) (x3 : Int32) (x4 : Int32) (x6 : Int32) (s0 : Int32), X9_excuses_J245 (it X9_excuses_B202 (fun _ _ _ _ _ => none) n202) z x3 x4 x6 s0 = some q → V K (wM cy A z) 245 [(0, .ref (A 0)), (3, .int x3), (4, .int x4), (6, .int x6)] [.int s0] := by
        intro z x3 x4 x6 s0 hf
        unfold X9_excuses_J245 at hf
        refine r_istore hc [(5, .int s0), (0, .ref (A 0)), (3, .int x3), (4, .int x4), (6, .int x6)] dX9_excuses_245 (by decide) rfl ?_
        refine r_iinc hc 4 [(6, .int (x6 + (1 : Int32))), (5, .int s0), (0, .ref (A 0)), (3, .int x3), (4, .int x4)] (x6 + (1 : Int32)) dX9_excuses_247 rfl rfl (by decide) rfl ?_
        refine r_goto hc 202 dX9_excuses_250 (by decide) ?_
        exact V.sub [2, 3, 4, 1, 0] rfl (ih202 z x3 x4 s0 (x6 + (1 : Int32)) hf)
      intro z x3 x4 x5 x6 hf
      replace hf : X9_excuses_B202 (it X9_excuses_B202 (fun _ _ _ _ _ => none) n202) z x3 x4 x5 x6 = some q := hf
      unfold X9_excuses_B202 at hf
      refine r_iload hc 4 dX9_excuses_202 rfl ?_
      refine r_bipush hc (6 : Int32) dX9_excuses_204 rfl ?_
      refine r_icmp_ge hc 253 dX9_excuses_206 (by decide) (fun c_15 => ?_) (fun c_15 => ?_)
      · have hf := o_pos c_15 hf
        refine r_aload_n hc 0 dX9_excuses_253 rfl ?_
        refine r_get (v := .ref (A 19)) hc iw_X9 0 rfl rfl 25 (by decide) mw_885 rfl dX9_excuses_254 ?_
        refine r_bipush hc (6 : Int32) dX9_excuses_257 rfl ?_
        refine r_iload hc 3 dX9_excuses_259 rfl ?_
        refine r_imul hc dX9_excuses_261 ?_
        refine r_iload hc 2 dX9_excuses_262 rfl ?_
        refine r_iadd hc dX9_excuses_264 ?_
        obtain ⟨i_16, hf⟩ := chk_some hf
        refine r_iald (f := (M_dear z)) hc 19 rfl i_16 dX9_excuses_265 ?_
        refine r_istore hc [(6, .int ((M_dear z) ((((6 : Int32) * x5) + x4)).toNatClampNeg)), (0, .ref (A 0)), (3, .int x3), (4, .int x4), (5, .int x5)] dX9_excuses_266 (by decide) rfl ?_
        refine r_iload hc 0 dX9_excuses_268 rfl ?_
        refine r_ldc (v := (1000000 : Int32)) hc mw_1178 dX9_excuses_270 ?_
        refine r_icmp_ge hc 280 dX9_excuses_272 (by decide) (fun c_17 => ?_) (fun c_17 => ?_)
        · have hf := o_pos c_17 hf
          exact V.sub [0] rfl (J280 z ((M_dear z) ((((6 : Int32) * x5) + x4)).toNatClampNeg) hf)
        · have hf := o_neg c_17 hf
          refine r_iload_n hc 2 dX9_excuses_275 rfl ?_
          refine r_iconst hc (-1 : Int32) dX9_excuses_276 rfl ?_
          refine r_icmp_ne hc 295 dX9_excuses_277 (by decide) (fun c_18 => ?_) (fun c_18 => ?_)
          · have hf := o_neg c_18 hf
            refine r_iload_n hc 2 dX9_excuses_295 rfl ?_
            refine r_iconst hc (0 : Int32) dX9_excuses_296 rfl ?_
            refine r_iload hc 4 dX9_excuses_297 rfl ?_
            obtain ⟨q299, hq299, hf⟩ := o_bind hf
            refine r_callSi (ws' := (wM cy A z)) (As := [.int x3, .int (0 : Int32), .int x5]) (rest := []) hc (c_X9_in  x3 (0 : Int32) x5 q299 hq299) ks_X9_in mw_955 _ _ _ (Sp_none _) rfl rfl (Nat.le_of_ble_eq_true rfl) ⟨by decide, by decide⟩ dX9_excuses_299 ?_
            refine r_if_ne hc 308 dX9_excuses_302 (by decide) (fun c_19 => ?_) (fun c_19 => ?_)
            · have hf := o_neg c_19 hf
              refine r_iload hc 3 dX9_excuses_308 rfl ?_
              refine r_istore hc [(7, .int x4), (6, .int ((M_dear z) ((((6 : Int32) * x5) + x4)).toNatClampNeg)), (0, .ref (A 0)), (3, .int x3), (4, .int x4), (5, .int x5)] dX9_excuses_310 (by decide) rfl ?_
              refine r_iload hc 5 dX9_excuses_312 rfl ?_
              refine r_istore hc [(8, .int x5), (7, .int x4), (6, .int ((M_dear z) ((((6 : Int32) * x5) + x4)).toNatClampNeg)), (0, .ref (A 0)), (3, .int x3), (4, .int x4), (5, .int x5)] dX9_excuses_314 (by decide) rfl ?_
              exact V.sub [3, 4, 6, 1, 0] rfl (L316 FU z x3 x5 x4 x5 hf)
            · have hf := o_pos c_19 hf
              refine r_bipush hc (-6 : Int32) dX9_excuses_305 rfl ?_
              exact r_iret hK (congrArg (fun z9 => z9.1) (Option.some.inj hf)) (congrArg (fun z9 => (wM cy A z9.2)) (Option.some.inj hf)) dX9_excuses_307
          · have hf := o_pos c_18 hf
            exact V.sub [0] rfl (J280 z ((M_dear z) ((((6 : Int32) * x5) + x4)).toNatClampNeg) hf)
      · have hf := o_neg c_15 hf
        refine r_aload_n hc 0 dX9_excuses_209 rfl ?_
        refine r_get (v := .ref (A 19)) hc iw_X9 0 rfl rfl 25 (by decide) mw_885 rfl dX9_excuses_210 ?_
        refine r_bipush hc (6 : Int32) dX9_excuses_213 rfl ?_
        refine r_iload hc 4 dX9_excuses_215 rfl ?_
        refine r_imul hc dX9_excuses_217 ?_
        refine r_iload hc 2 dX9_excuses_218 rfl ?_
        refine r_iadd hc dX9_excuses_220 ?_
        obtain ⟨i_20, hf⟩ := chk_some hf
        refine r_iald (f := (M_dear z)) hc 19 rfl i_20 dX9_excuses_221 ?_
        refine r_aload_n hc 0 dX9_excuses_222 rfl ?_
        refine r_get (v := .ref (A 19)) hc iw_X9 0 rfl rfl 25 (by decide) mw_885 rfl dX9_excuses_223 ?_
        refine r_bipush hc (6 : Int32) dX9_excuses_226 rfl ?_
        refine r_iload hc 3 dX9_excuses_228 rfl ?_
        refine r_imul hc dX9_excuses_230 ?_
        refine r_iload hc 2 dX9_excuses_231 rfl ?_
        refine r_iadd hc dX9_excuses_233 ?_
        obtain ⟨i_21, hf⟩ := chk_some hf
        refine r_iald (f := (M_dear z)) hc 19 rfl i_21 dX9_excuses_234 ?_
        refine r_icmp_ge hc 243 dX9_excuses_235 (by decide) (fun c_22 => ?_) (fun c_22 => ?_)
        · have hf := o_pos c_22 hf
          refine r_iload hc 3 dX9_excuses_243 rfl ?_
          exact V.sub [0, 1, 2, 4] rfl (J245 z x3 x4 x6 x5 hf)
        · have hf := o_neg c_22 hf
          refine r_iload hc 4 dX9_excuses_238 rfl ?_
          refine r_goto hc 245 dX9_excuses_240 (by decide) ?_
          exact V.sub [0, 1, 2, 4] rfl (J245 z x3 x4 x6 x6 hf)
  have L60 : ∀ (n60 : Nat) (z : MS) (x1 : Int32) (x3 : Int32) (x4 : Int32), it X9_excuses_B60 (fun _ _ _ _ => none) n60 z x1 x3 x4 = some q → V K (wM cy A z) 60 [(0, .ref (A 0)), (1, .int x1), (3, .int x3), (4, .int x4)] [] := by
    intro n60
    induction n60 with
    | zero => intro z x1 x3 x4 hf; exact (o_none hf).elim
    | succ n60 ih60 =>
      have L70 : ∀ (n70 : Nat) (z : MS) (x1 : Int32) (x3 : Int32) (x4 : Int32) (x5 : Int32), it (X9_excuses_B70 (it X9_excuses_B60 (fun _ _ _ _ => none) n60)) (fun _ _ _ _ _ => none) n70 z x1 x3 x4 x5 = some q → V K (wM cy A z) 70 [(0, .ref (A 0)), (1, .int x1), (3, .int x3), (4, .int x4), (5, .int x5)] [] := by
        intro n70
        induction n70 with
        | zero => intro z x1 x3 x4 x5 hf; exact (o_none hf).elim
        | succ n70 ih70 =>
          have L84 : ∀ (n84 : Nat) (z : MS) (x1 : Int32) (x3 : Int32) (x4 : Int32) (x5 : Int32) (x6 : Int32) (x7 : Int32), it (X9_excuses_B84 (it X9_excuses_B60 (fun _ _ _ _ => none) n60) (it (X9_excuses_B70 (it X9_excuses_B60 (fun _ _ _ _ => none) n60)) (fun _ _ _ _ _ => none) n70)) (fun _ _ _ _ _ _ _ => none) n84 z x1 x3 x4 x5 x6 x7 = some q → V K (wM cy A z) 84 [(0, .ref (A 0)), (1, .int x1), (3, .int x3), (4, .int x4), (5, .int x5), (6, .int x6), (7, .int x7)] [] := by
            intro n84
            induction n84 with
            | zero => intro z x1 x3 x4 x5 x6 x7 hf; exact (o_none hf).elim
            | succ n84 ih84 =>
              have J153 : ∀ (z : MS) (x1 : Int32) (x3 : Int32) (x4 : Int32) (x5 : Int32) (x7 : Int32) (s0 : Int32), X9_excuses_J153 (it X9_excuses_B60 (fun _ _ _ _ => none) n60) (it (X9_excuses_B70 (it X9_excuses_B60 (fun _ _ _ _ => none) n60)) (fun _ _ _ _ _ => none) n70) (it (X9_excuses_B84 (it X9_excuses_B60 (fun _ _ _ _ => none) n60) (it (X9_excuses_B70 (it X9_excuses_B60 (fun _ _ _ _ => none) n60)) (fun _ _ _ _ _ => none) n70)) (fun _ _ _ _ _ _ _ => none) n84) z x1 x3 x4 x5 x7 s0 = some q → V K (wM cy A z) 153 [(0, .ref (A 0)), (1, .int x1), (3, .int x3), (4, .int x4), (5, .int x5), (7, .int x7)] [.int s0] := by
                intro z x1 x3 x4 x5 x7 s0 hf
                unfold X9_excuses_J153 at hf
                refine r_istore hc [(6, .int s0), (0, .ref (A 0)), (1, .int x1), (3, .int x3), (4, .int x4), (5, .int x5), (7, .int x7)] dX9_excuses_153 (by decide) rfl ?_
                refine r_iinc hc 6 [(7, .int (x7 + (1 : Int32))), (6, .int s0), (0, .ref (A 0)), (1, .int x1), (3, .int x3), (4, .int x4), (5, .int x5)] (x7 + (1 : Int32)) dX9_excuses_155 rfl rfl (by decide) rfl ?_
                refine r_goto hc 84 dX9_excuses_158 (by decide) ?_
                exact V.sub [2, 3, 4, 5, 6, 1, 0] rfl (ih84 z x1 x3 x4 x5 s0 (x7 + (1 : Int32)) hf)
              have J137 : ∀ (z : MS) (x1 : Int32) (x3 : Int32) (x4 : Int32) (x5 : Int32) (x6 : Int32) (x7 : Int32) (s0 : Int32), X9_excuses_J137 (it X9_excuses_B60 (fun _ _ _ _ => none) n60) (it (X9_excuses_B70 (it X9_excuses_B60 (fun _ _ _ _ => none) n60)) (fun _ _ _ _ _ => none) n70) (it (X9_excuses_B84 (it X9_excuses_B60 (fun _ _ _ _ => none) n60) (it (X9_excuses_B70 (it X9_excuses_B60 (fun _ _ _ _ => none) n60)) (fun _ _ _ _ _ => none) n70)) (fun _ _ _ _ _ _ _ => none) n84) z x1 x3 x4 x5 x6 x7 s0 = some q → V K (wM cy A z) 137 [(0, .ref (A 0)), (1, .int x1), (3, .int x3), (4, .int x4), (5, .int x5), (6, .int x6), (7, .int x7)] [.int s0] := by
                intro z x1 x3 x4 x5 x6 x7 s0 hf
                unfold X9_excuses_J137 at hf
                refine r_istore hc [(8, .int s0), (0, .ref (A 0)), (1, .int x1), (3, .int x3), (4, .int x4), (5, .int x5), (6, .int x6), (7, .int x7)] dX9_excuses_137 (by decide) rfl ?_
                refine r_iload hc 0 dX9_excuses_139 rfl ?_
                refine r_iload hc 6 dX9_excuses_141 rfl ?_
                refine r_icmp_ge hc 151 dX9_excuses_143 (by decide) (fun c_14 => ?_) (fun c_14 => ?_)
                · have hf := o_pos c_14 hf
                  refine r_iload hc 6 dX9_excuses_151 rfl ?_
                  exact V.sub [1, 2, 3, 4, 5, 7] rfl (J153 z x1 x3 x4 x5 x7 x6 hf)
                · have hf := o_neg c_14 hf
                  refine r_iload hc 0 dX9_excuses_146 rfl ?_
                  refine r_goto hc 153 dX9_excuses_148 (by decide) ?_
                  exact V.sub [1, 2, 3, 4, 5, 7] rfl (J153 z x1 x3 x4 x5 x7 s0 hf)
              intro z x1 x3 x4 x5 x6 x7 hf
              replace hf : X9_excuses_B84 (it X9_excuses_B60 (fun _ _ _ _ => none) n60) (it (X9_excuses_B70 (it X9_excuses_B60 (fun _ _ _ _ => none) n60)) (fun _ _ _ _ _ => none) n70) (it (X9_excuses_B84 (it X9_excuses_B60 (fun _ _ _ _ => none) n60) (it (X9_excuses_B70 (it X9_excuses_B60 (fun _ _ _ _ => none) n60)) (fun _ _ _ _ _ => none) n70)) (fun _ _ _ _ _ _ _ => none) n84) z x1 x3 x4 x5 x6 x7 = some q := hf
              unfold X9_excuses_B84 at hf
              refine r_iload hc 6 dX9_excuses_84 rfl ?_
              refine r_bipush hc (6 : Int32) dX9_excuses_86 rfl ?_
              refine r_icmp_ge hc 161 dX9_excuses_88 (by decide) (fun c_9 => ?_) (fun c_9 => ?_)
              · have hf := o_pos c_9 hf
                refine r_aload_n hc 0 dX9_excuses_161 rfl ?_
                refine r_get (v := .ref (A 19)) hc iw_X9 0 rfl rfl 25 (by decide) mw_885 rfl dX9_excuses_162 ?_
                refine r_bipush hc (6 : Int32) dX9_excuses_165 rfl ?_
                refine r_iload hc 3 dX9_excuses_167 rfl ?_
                refine r_imul hc dX9_excuses_169 ?_
                refine r_iload hc 4 dX9_excuses_170 rfl ?_
                refine r_iadd hc dX9_excuses_172 ?_
                refine r_iload hc 5 dX9_excuses_173 rfl ?_
                obtain ⟨i_10, hf⟩ := chk_some hf
                obtain ⟨z175, ez175, hf⟩ := lt_some hf
                refine r_iast (f := (M_dear z)) hc 19 rfl i_10 dX9_excuses_175 _ rfl (wM cy A z175) (wM_s_dear ez175) ?_
                refine r_iinc hc 4 [(5, .int (x5 + (1 : Int32))), (0, .ref (A 0)), (1, .int x1), (3, .int x3), (4, .int x4), (6, .int x6), (7, .int x7)] (x5 + (1 : Int32)) dX9_excuses_176 rfl rfl (by decide) rfl ?_
                refine r_goto hc 70 dX9_excuses_179 (by decide) ?_
                exact V.sub [1, 2, 3, 4, 0] rfl (ih70 z175 x1 x3 x4 (x5 + (1 : Int32)) hf)
              · have hf := o_neg c_9 hf
                refine r_aload_n hc 0 dX9_excuses_91 rfl ?_
                refine r_get (v := .ref (A 4)) hc iw_X9 0 rfl rfl 4 (by decide) mw_864 rfl dX9_excuses_92 ?_
                refine r_bipush hc (6 : Int32) dX9_excuses_95 rfl ?_
                refine r_iload hc 4 dX9_excuses_97 rfl ?_
                refine r_imul hc dX9_excuses_99 ?_
                refine r_iload hc 6 dX9_excuses_100 rfl ?_
                refine r_iadd hc dX9_excuses_102 ?_
                obtain ⟨i_11, hf⟩ := chk_some hf
                refine r_iald (f := (M_width z)) hc 4 rfl i_11 dX9_excuses_103 ?_
                refine r_if_le hc 135 dX9_excuses_104 (by decide) (fun c_12 => ?_) (fun c_12 => ?_)
                · have hf := o_pos c_12 hf
                  refine r_ldc (v := (1000000 : Int32)) hc mw_1178 dX9_excuses_135 ?_
                  exact V.sub [0, 1, 2, 3, 4, 5, 6] rfl (J137 z x1 x3 x4 x5 x6 x7 (1000000 : Int32) hf)
                · have hf := o_neg c_12 hf
                  refine r_aload_n hc 0 dX9_excuses_107 rfl ?_
                  refine r_iload hc 6 dX9_excuses_108 rfl ?_
                  refine r_bipush hc (-6 : Int32) dX9_excuses_110 rfl ?_
                  obtain ⟨q112, hq112, hf⟩ := o_bind hf
                  refine r_callVi (ws' := (wM cy A z)) (As := [.int x7, .int (-6 : Int32)]) (rest := []) hc (c_X9_countIn A z x7 (-6 : Int32) q112 hq112) kv_X9_countIn mw_1048 0 rfl rfl _ _ _ (Sp_all _ _) rfl rfl (Nat.le_of_ble_eq_true rfl) ⟨by decide, by decide⟩ dX9_excuses_112 ?_
                  refine r_aload_n hc 0 dX9_excuses_115 rfl ?_
                  refine r_get (v := .ref (A 19)) hc iw_X9 0 rfl rfl 25 (by decide) mw_885 rfl dX9_excuses_116 ?_
                  refine r_bipush hc (6 : Int32) dX9_excuses_119 rfl ?_
                  refine r_iload hc 3 dX9_excuses_121 rfl ?_
                  refine r_imul hc dX9_excuses_123 ?_
                  refine r_bipush hc (6 : Int32) dX9_excuses_124 rfl ?_
                  refine r_isub hc dX9_excuses_126 ?_
                  refine r_iload hc 6 dX9_excuses_127 rfl ?_
                  refine r_iadd hc dX9_excuses_129 ?_
                  obtain ⟨i_13, hf⟩ := chk_some hf
                  refine r_iald (f := (M_dear z)) hc 19 rfl i_13 dX9_excuses_130 ?_
                  refine r_iadd hc dX9_excuses_131 ?_
                  refine r_goto hc 137 dX9_excuses_132 (by decide) ?_
                  exact V.sub [0, 1, 2, 3, 4, 5, 6] rfl (J137 z x1 x3 x4 x5 x6 x7 (q112 + ((M_dear z) (((((6 : Int32) * x4) - (6 : Int32)) + x7)).toNatClampNeg)) hf)
          intro z x1 x3 x4 x5 hf
          replace hf : X9_excuses_B70 (it X9_excuses_B60 (fun _ _ _ _ => none) n60) (it (X9_excuses_B70 (it X9_excuses_B60 (fun _ _ _ _ => none) n60)) (fun _ _ _ _ _ => none) n70) z x1 x3 x4 x5 = some q := hf
          unfold X9_excuses_B70 at hf
          refine r_iload hc 4 dX9_excuses_70 rfl ?_
          refine r_bipush hc (6 : Int32) dX9_excuses_72 rfl ?_
          refine r_icmp_ge hc 182 dX9_excuses_74 (by decide) (fun c_8 => ?_) (fun c_8 => ?_)
          · have hf := o_pos c_8 hf
            refine r_iinc hc 3 [(4, .int (x4 + (1 : Int32))), (0, .ref (A 0)), (1, .int x1), (3, .int x3), (5, .int x5)] (x4 + (1 : Int32)) dX9_excuses_182 rfl rfl (by decide) rfl ?_
            refine r_goto hc 60 dX9_excuses_185 (by decide) ?_
            exact V.sub [1, 2, 3, 0] rfl (ih60 z x1 x3 (x4 + (1 : Int32)) hf)
          · have hf := o_neg c_8 hf
            refine r_ldc (v := (1000000 : Int32)) hc mw_1178 dX9_excuses_77 ?_
            refine r_istore hc [(6, .int (1000000 : Int32)), (0, .ref (A 0)), (1, .int x1), (3, .int x3), (4, .int x4), (5, .int x5)] dX9_excuses_79 (by decide) rfl ?_
            refine r_iconst hc (0 : Int32) dX9_excuses_81 rfl ?_
            refine r_istore hc [(7, .int (0 : Int32)), (6, .int (1000000 : Int32)), (0, .ref (A 0)), (1, .int x1), (3, .int x3), (4, .int x4), (5, .int x5)] dX9_excuses_82 (by decide) rfl ?_
            exact V.sub [2, 3, 4, 5, 6, 1, 0] rfl (L84 FU z x1 x3 x4 x5 (1000000 : Int32) (0 : Int32) hf)
      intro z x1 x3 x4 hf
      replace hf : X9_excuses_B60 (it X9_excuses_B60 (fun _ _ _ _ => none) n60) z x1 x3 x4 = some q := hf
      unfold X9_excuses_B60 at hf
      refine r_iload hc 3 dX9_excuses_60 rfl ?_
      refine r_bipush hc (6 : Int32) dX9_excuses_62 rfl ?_
      refine r_icmp_ge hc 188 dX9_excuses_64 (by decide) (fun c_6 => ?_) (fun c_6 => ?_)
      · have hf := o_pos c_6 hf
        refine r_aload_n hc 0 dX9_excuses_188 rfl ?_
        refine r_get (v := .ref (A 12)) hc iw_X9 0 rfl rfl 15 (by decide) mw_875 rfl dX9_excuses_189 ?_
        refine r_iload_n hc 1 dX9_excuses_192 rfl ?_
        obtain ⟨i_7, hf⟩ := chk_some hf
        refine r_iald (f := (M_at z)) hc 12 rfl i_7 dX9_excuses_193 ?_
        refine r_istore hc [(4, .int ((M_at z) (x1).toNatClampNeg)), (0, .ref (A 0)), (1, .int x1), (3, .int x3)] dX9_excuses_194 (by decide) rfl ?_
        refine r_iconst hc (0 : Int32) dX9_excuses_196 rfl ?_
        refine r_istore hc [(5, .int (0 : Int32)), (4, .int ((M_at z) (x1).toNatClampNeg)), (0, .ref (A 0)), (1, .int x1), (3, .int x3)] dX9_excuses_197 (by decide) rfl ?_
        refine r_iconst hc (1 : Int32) dX9_excuses_199 rfl ?_
        refine r_istore hc [(6, .int (1 : Int32)), (5, .int (0 : Int32)), (4, .int ((M_at z) (x1).toNatClampNeg)), (0, .ref (A 0)), (1, .int x1), (3, .int x3)] dX9_excuses_200 (by decide) rfl ?_
        exact V.sub [3, 5, 2, 1, 0] rfl (L202 FU z x3 ((M_at z) (x1).toNatClampNeg) (0 : Int32) (1 : Int32) hf)
      · have hf := o_neg c_6 hf
        refine r_iconst hc (0 : Int32) dX9_excuses_67 rfl ?_
        refine r_istore hc [(5, .int (0 : Int32)), (0, .ref (A 0)), (1, .int x1), (3, .int x3), (4, .int x4)] dX9_excuses_68 (by decide) rfl ?_
        exact V.sub [1, 2, 3, 4, 0] rfl (L70 FU z x1 x3 x4 (0 : Int32) hf)
  have L25 : ∀ (n25 : Nat) (z : MS) (x1 : Int32) (x2 : Int32) (x3 : Int32) (x4 : Int32), it X9_excuses_B25 (fun _ _ _ _ _ => none) n25 z x1 x2 x3 x4 = some q → V K (wM cy A z) 25 [(0, .ref (A 0)), (1, .int x1), (2, .int x2), (3, .int x3), (4, .int x4)] [] := by
    intro n25
    induction n25 with
    | zero => intro z x1 x2 x3 x4 hf; exact (o_none hf).elim
    | succ n25 ih25 =>
      have J50 : ∀ (z : MS) (x1 : Int32) (x2 : Int32) (x3 : Int32) (x4 : Int32) (s0 : Int32) (s1 : Int32), X9_excuses_J50 (it X9_excuses_B25 (fun _ _ _ _ _ => none) n25) z x1 x2 x3 x4 s0 s1 = some q → V K (wM cy A z) 50 [(0, .ref (A 0)), (1, .int x1), (2, .int x2), (3, .int x3), (4, .int x4)] [.int s0, .int s1, .ref (A 19)] := by
        intro z x1 x2 x3 x4 s0 s1 hf
        unfold X9_excuses_J50 at hf
        obtain ⟨i_5, hf⟩ := chk_some hf
        obtain ⟨z50, ez50, hf⟩ := lt_some hf
        refine r_iast (f := (M_dear z)) hc 19 rfl i_5 dX9_excuses_50 _ rfl (wM cy A z50) (wM_s_dear ez50) ?_
        refine r_iinc hc 4 [(4, .int (x4 + (1 : Int32))), (0, .ref (A 0)), (1, .int x1), (2, .int x2), (3, .int x3)] (x4 + (1 : Int32)) dX9_excuses_51 rfl rfl (by decide) rfl ?_
        refine r_goto hc 25 dX9_excuses_54 (by decide) ?_
        exact V.sub [1, 2, 3, 4, 0] rfl (ih25 z50 x1 x2 x3 (x4 + (1 : Int32)) hf)
      intro z x1 x2 x3 x4 hf
      replace hf : X9_excuses_B25 (it X9_excuses_B25 (fun _ _ _ _ _ => none) n25) z x1 x2 x3 x4 = some q := hf
      unfold X9_excuses_B25 at hf
      refine r_iload hc 4 dX9_excuses_25 rfl ?_
      refine r_bipush hc (6 : Int32) dX9_excuses_27 rfl ?_
      refine r_icmp_ge hc 57 dX9_excuses_29 (by decide) (fun c_3 => ?_) (fun c_3 => ?_)
      · have hf := o_pos c_3 hf
        refine r_iconst hc (1 : Int32) dX9_excuses_57 rfl ?_
        refine r_istore hc [(4, .int (1 : Int32)), (0, .ref (A 0)), (1, .int x1), (2, .int x2), (3, .int x3)] dX9_excuses_58 (by decide) rfl ?_
        exact V.sub [1, 2, 4, 0] rfl (L60 FU z x1 x3 (1 : Int32) hf)
      · have hf := o_neg c_3 hf
        refine r_aload_n hc 0 dX9_excuses_32 rfl ?_
        refine r_get (v := .ref (A 19)) hc iw_X9 0 rfl rfl 25 (by decide) mw_885 rfl dX9_excuses_33 ?_
        refine r_iload hc 4 dX9_excuses_36 rfl ?_
        refine r_iload hc 4 dX9_excuses_38 rfl ?_
        refine r_iload_n hc 2 dX9_excuses_40 rfl ?_
        refine r_icmp_ne hc 48 dX9_excuses_41 (by decide) (fun c_4 => ?_) (fun c_4 => ?_)
        · have hf := o_neg c_4 hf
          refine r_ldc (v := (1000000 : Int32)) hc mw_1178 dX9_excuses_48 ?_
          exact V.sub [0, 1, 2, 3, 4] rfl (J50 z x1 x2 x3 x4 (1000000 : Int32) x4 hf)
        · have hf := o_pos c_4 hf
          refine r_iconst hc (0 : Int32) dX9_excuses_44 rfl ?_
          refine r_goto hc 50 dX9_excuses_45 (by decide) ?_
          exact V.sub [0, 1, 2, 3, 4] rfl (J50 z x1 x2 x3 x4 (0 : Int32) x4 hf)
  show V K (wM cy A z) 0 [(0, .ref (A 0)), (1, .int x1), (2, .int x2), (3, .int x3)] []
  unfold f_X9_excuses at hf
  refine r_aload_n hc 0 dX9_excuses_0 rfl ?_
  refine r_iload_n hc 1 dX9_excuses_1 rfl ?_
  obtain ⟨q2, hq2, hf⟩ := o_bind hf
  refine r_callVi (ws' := (wM cy A z)) (As := [.int x1]) (rest := []) hc (c_X9_isThere A z x1 q2 hq2) kv_X9_isThere mw_996 0 rfl rfl _ _ _ (Sp_all _ _) rfl rfl (Nat.le_of_ble_eq_true rfl) ⟨by decide, by decide⟩ dX9_excuses_2 ?_
  refine r_if_eq hc 16 dX9_excuses_5 (by decide) (fun c_1 => ?_) (fun c_1 => ?_)
  · have hf := o_pos c_1 hf
    refine r_iconst hc (-1 : Int32) dX9_excuses_16 rfl ?_
    exact r_iret hK (congrArg (fun z9 => z9.1) (Option.some.inj hf)) (congrArg (fun z9 => (wM cy A z9.2)) (Option.some.inj hf)) dX9_excuses_17
  · have hf := o_neg c_1 hf
    refine r_aload_n hc 0 dX9_excuses_8 rfl ?_
    refine r_iload_n hc 2 dX9_excuses_9 rfl ?_
    obtain ⟨q10, hq10, hf⟩ := o_bind hf
    refine r_callVi (ws' := (wM cy A z)) (As := [.int x2]) (rest := []) hc (c_X9_isRoom A z x2 q10 hq10) kv_X9_isRoom mw_962 0 rfl rfl _ _ _ (Sp_all _ _) rfl rfl (Nat.le_of_ble_eq_true rfl) ⟨by decide, by decide⟩ dX9_excuses_10 ?_
    refine r_if_ne hc 18 dX9_excuses_13 (by decide) (fun c_2 => ?_) (fun c_2 => ?_)
    · have hf := o_neg c_2 hf
      refine r_aload_n hc 0 dX9_excuses_18 rfl ?_
      obtain ⟨q19, hq19, hf⟩ := o_bind hf
      refine r_callVv (ws' := (wM cy A q19)) (As := []) (rest := []) hc (c_X9_asNow A z q19 hq19) kv_X9_asNow mw_1028 0 rfl rfl _ _ _ (Sp_all _ _) rfl rfl (Nat.le_of_ble_eq_true rfl) ⟨by decide, by decide⟩ dX9_excuses_19 ?_
      refine r_iconst hc (0 : Int32) dX9_excuses_22 rfl ?_
      refine r_istore hc [(4, .int (0 : Int32)), (0, .ref (A 0)), (1, .int x1), (2, .int x2), (3, .int x3)] dX9_excuses_23 (by decide) rfl ?_
      exact V.sub [1, 2, 3, 4, 0] rfl (L25 FU q19 x1 x2 x3 (0 : Int32) hf)
    · have hf := o_pos c_2 hf
      refine r_iconst hc (-1 : Int32) dX9_excuses_16 rfl ?_
      exact r_iret hK (congrArg (fun z9 => z9.1) (Option.some.inj hf)) (congrArg (fun z9 => (wM cy A z9.2)) (Option.some.inj hf)) dX9_excuses_17
def f_X9_seen (z : MS) (x1 : Int32) (x2 : Int32) : Option (Int32 × MS) :=
  ((f_X9_in x1 (0 : Int32) (7 : Int32)).bind fun q4 => (if q4 = 0 then (some ((-1 : Int32), z)) else ((f_X9_isRoom z x2).bind fun q12 => (if q12 = 0 then (some ((-1 : Int32), z)) else (if (M_sights z) = (6 : Int32) then (some ((-4 : Int32), z)) else (chk ((2 : Int32) * (M_sights z)) 12 (ltA (M_set_sight z (upd (M_sight z) (((2 : Int32) * (M_sights z))).toNatClampNeg x1)) fun z43 => (chk (((2 : Int32) * (M_sights z43)) + (1 : Int32)) 12 (ltA (M_set_sight z43 (upd (M_sight z43) ((((2 : Int32) * (M_sights z43)) + (1 : Int32))).toNatClampNeg x2)) fun z57 => (ltA (M_set_sights z57 ((M_sights z57) + (1 : Int32))) fun z65 => (some ((M_sights z65), z65))))))))))))
theorem kv_X9_seen : KV RX9 yX9_seen cX9_seen 3 (some .int) 2 := ⟨mw_1188, mw_1189, mw_65, mw_1190, by decide +kernel⟩
set_option maxHeartbeats 8000000 in
set_option maxRecDepth 100000 in
theorem c_X9_seen {l : Launch} {E : va_G} {cy : Nat → ClassId} (A : Nat → Nat) (z : MS) (x1 : Int32) (x2 : Int32) (q : Int32 × MS) (hf : f_X9_seen z x1 x2 = some q) : Ci l yX9_seen cX9_seen 3 (some .int) 3 103 E cy [.ref (A 0), .int x1, .int x2] (wM cy A z) q.1 (wM cy A q.2) := by
  refine Ci.of RX9 (by decide) rfl (Nat.le_of_ble_eq_true rfl) ?_
  intro K hK
  have hc := hK.cq
  show V K (wM cy A z) 0 [(0, .ref (A 0)), (1, .int x1), (2, .int x2)] []
  unfold f_X9_seen at hf
  refine r_iload_n hc 1 dX9_seen_0 rfl ?_
  refine r_iconst hc (0 : Int32) dX9_seen_1 rfl ?_
  refine r_bipush hc (7 : Int32) dX9_seen_2 rfl ?_
  obtain ⟨q4, hq4, hf⟩ := o_bind hf
  refine r_callSi (ws' := (wM cy A z)) (As := [.int x1, .int (0 : Int32), .int (7 : Int32)]) (rest := []) hc (c_X9_in  x1 (0 : Int32) (7 : Int32) q4 hq4) ks_X9_in mw_955 _ _ _ (Sp_none _) rfl rfl (Nat.le_of_ble_eq_true rfl) ⟨by decide, by decide⟩ dX9_seen_4 ?_
  refine r_if_eq hc 18 dX9_seen_7 (by decide) (fun c_1 => ?_) (fun c_1 => ?_)
  · have hf := o_pos c_1 hf
    refine r_iconst hc (-1 : Int32) dX9_seen_18 rfl ?_
    exact r_iret hK (congrArg (fun z9 => z9.1) (Option.some.inj hf)) (congrArg (fun z9 => (wM cy A z9.2)) (Option.some.inj hf)) dX9_seen_19
  · have hf := o_neg c_1 hf
    refine r_aload_n hc 0 dX9_seen_10 rfl ?_
    refine r_iload_n hc 2 dX9_seen_11 rfl ?_
    obtain ⟨q12, hq12, hf⟩ := o_bind hf
    refine r_callVi (ws' := (wM cy A z)) (As := [.int x2]) (rest := []) hc (c_X9_isRoom A z x2 q12 hq12) kv_X9_isRoom mw_962 0 rfl rfl _ _ _ (Sp_all _ _) rfl rfl (Nat.le_of_ble_eq_true rfl) ⟨by decide, by decide⟩ dX9_seen_12 ?_
    refine r_if_ne hc 20 dX9_seen_15 (by decide) (fun c_2 => ?_) (fun c_2 => ?_)
    · have hf := o_neg c_2 hf
      refine r_aload_n hc 0 dX9_seen_20 rfl ?_
      refine r_get (v := .int (M_sights z)) hc iw_X9 0 rfl rfl 11 (by decide) mw_871 rfl dX9_seen_21 ?_
      refine r_bipush hc (6 : Int32) dX9_seen_24 rfl ?_
      refine r_icmp_ne hc 32 dX9_seen_26 (by decide) (fun c_3 => ?_) (fun c_3 => ?_)
      · have hf := o_neg c_3 hf
        refine r_aload_n hc 0 dX9_seen_32 rfl ?_
        refine r_get (v := .ref (A 10)) hc iw_X9 0 rfl rfl 12 (by decide) mw_872 rfl dX9_seen_33 ?_
        refine r_iconst hc (2 : Int32) dX9_seen_36 rfl ?_
        refine r_aload_n hc 0 dX9_seen_37 rfl ?_
        refine r_get (v := .int (M_sights z)) hc iw_X9 0 rfl rfl 11 (by decide) mw_871 rfl dX9_seen_38 ?_
        refine r_imul hc dX9_seen_41 ?_
        refine r_iload_n hc 1 dX9_seen_42 rfl ?_
        obtain ⟨i_4, hf⟩ := chk_some hf
        obtain ⟨z43, ez43, hf⟩ := lt_some hf
        refine r_iast (f := (M_sight z)) hc 10 rfl i_4 dX9_seen_43 _ rfl (wM cy A z43) (wM_s_sight ez43) ?_
        refine r_aload_n hc 0 dX9_seen_44 rfl ?_
        refine r_get (v := .ref (A 10)) hc iw_X9 0 rfl rfl 12 (by decide) mw_872 rfl dX9_seen_45 ?_
        refine r_iconst hc (2 : Int32) dX9_seen_48 rfl ?_
        refine r_aload_n hc 0 dX9_seen_49 rfl ?_
        refine r_get (v := .int (M_sights z43)) hc iw_X9 0 rfl rfl 11 (by decide) mw_871 rfl dX9_seen_50 ?_
        refine r_imul hc dX9_seen_53 ?_
        refine r_iconst hc (1 : Int32) dX9_seen_54 rfl ?_
        refine r_iadd hc dX9_seen_55 ?_
        refine r_iload_n hc 2 dX9_seen_56 rfl ?_
        obtain ⟨i_5, hf⟩ := chk_some hf
        obtain ⟨z57, ez57, hf⟩ := lt_some hf
        refine r_iast (f := (M_sight z43)) hc 10 rfl i_5 dX9_seen_57 _ rfl (wM cy A z57) (wM_s_sight ez57) ?_
        refine r_aload_n hc 0 dX9_seen_58 rfl ?_
        refine r_dup hc dX9_seen_59 rfl ?_
        refine r_get (v := .int (M_sights z57)) hc iw_X9 0 rfl rfl 11 (by decide) mw_871 rfl dX9_seen_60 ?_
        refine r_iconst hc (1 : Int32) dX9_seen_63 rfl ?_
        refine r_iadd hc dX9_seen_64 ?_
        obtain ⟨z65, ez65, hf⟩ := lt_some hf
        refine r_put hc iw_X9 tyX9 tyX9_ok nmX9 0 rfl rfl 11 (by decide) mw_871 rfl rfl rfl (Nat.le_of_ble_eq_true rfl) dX9_seen_65 (wM cy A z65) (wM_s_sights ez65) ?_
        refine r_aload_n hc 0 dX9_seen_68 rfl ?_
        refine r_get (v := .int (M_sights z65)) hc iw_X9 0 rfl rfl 11 (by decide) mw_871 rfl dX9_seen_69 ?_
        exact r_iret hK (congrArg (fun z9 => z9.1) (Option.some.inj hf)) (congrArg (fun z9 => (wM cy A z9.2)) (Option.some.inj hf)) dX9_seen_72
      · have hf := o_pos c_3 hf
        refine r_bipush hc (-4 : Int32) dX9_seen_29 rfl ?_
        exact r_iret hK (congrArg (fun z9 => z9.1) (Option.some.inj hf)) (congrArg (fun z9 => (wM cy A z9.2)) (Option.some.inj hf)) dX9_seen_31
    · have hf := o_pos c_2 hf
      refine r_iconst hc (-1 : Int32) dX9_seen_18 rfl ?_
      exact r_iret hK (congrArg (fun z9 => z9.1) (Option.some.inj hf)) (congrArg (fun z9 => (wM cy A z9.2)) (Option.some.inj hf)) dX9_seen_19
def f_X9_forget (z : MS) : Option (Int32 × MS) :=
  (ltA (M_set_sights z (0 : Int32)) fun z7 => (some ((M_sights z), z7)))
theorem kv_X9_forget : KV RX9 yX9_forget cX9_forget 2 (some .int) 0 := ⟨mw_1192, mw_1193, mw_65, mw_1194, by decide +kernel⟩
set_option maxHeartbeats 8000000 in
set_option maxRecDepth 100000 in
theorem c_X9_forget {l : Launch} {E : va_G} {cy : Nat → ClassId} (A : Nat → Nat) (z : MS) (q : Int32 × MS) (hf : f_X9_forget z = some q) : Ci l yX9_forget cX9_forget 2 (some .int) 1 60 E cy [.ref (A 0)] (wM cy A z) q.1 (wM cy A q.2) := by
  refine Ci.of RX9 (by decide) rfl (Nat.le_of_ble_eq_true rfl) ?_
  intro K hK
  have hc := hK.cq
  show V K (wM cy A z) 0 [(0, .ref (A 0))] []
  unfold f_X9_forget at hf
  refine r_aload_n hc 0 dX9_forget_0 rfl ?_
  refine r_get (v := .int (M_sights z)) hc iw_X9 0 rfl rfl 11 (by decide) mw_871 rfl dX9_forget_1 ?_
  refine r_istore_n hc [(1, .int (M_sights z)), (0, .ref (A 0))] dX9_forget_4 (by decide) rfl ?_
  refine r_aload_n hc 1 dX9_forget_5 rfl ?_
  refine r_iconst hc (0 : Int32) dX9_forget_6 rfl ?_
  obtain ⟨z7, ez7, hf⟩ := lt_some hf
  refine r_put hc iw_X9 tyX9 tyX9_ok nmX9 0 rfl rfl 11 (by decide) mw_871 rfl rfl rfl (Nat.le_of_ble_eq_true rfl) dX9_forget_7 (wM cy A z7) (wM_s_sights ez7) ?_
  refine r_iload_n hc 0 dX9_forget_10 rfl ?_
  exact r_iret hK (congrArg (fun z9 => z9.1) (Option.some.inj hf)) (congrArg (fun z9 => (wM cy A z9.2)) (Option.some.inj hf)) dX9_forget_11
def X9_tastes_J126 (k36 : MS → Int32 → Int32 → Int32 → Int32 → Option (Int32 × MS)) (z : MS) (x1 : Int32) (x2 : Int32) (x4 : Int32) (s0 : Int32) (s1 : Int32) : Option (Int32 × MS) :=
  (k36 z x1 x2 (s1 ||| s0) (x4 + (1 : Int32)))
def X9_tastes_J102 (k36 : MS → Int32 → Int32 → Int32 → Int32 → Option (Int32 × MS)) (k48 : MS → Int32 → Int32 → Int32 → Int32 → Int32 → Int32 → Option (Int32 × MS)) (z : MS) (x1 : Int32) (x2 : Int32) (x3 : Int32) (x4 : Int32) (x6 : Int32) (s0 : Int32) : Option (Int32 × MS) :=
  (k48 z x1 x2 x3 x4 s0 (x6 + (1 : Int32)))
def X9_tastes_J101 (k36 : MS → Int32 → Int32 → Int32 → Int32 → Option (Int32 × MS)) (k48 : MS → Int32 → Int32 → Int32 → Int32 → Int32 → Int32 → Option (Int32 × MS)) (z : MS) (x1 : Int32) (x2 : Int32) (x3 : Int32) (x4 : Int32) (x6 : Int32) : Option (Int32 × MS) :=
  (X9_tastes_J102 k36 k48 z x1 x2 x3 x4 x6 (0 : Int32))
def X9_tastes_J97 (k36 : MS → Int32 → Int32 → Int32 → Int32 → Option (Int32 × MS)) (k48 : MS → Int32 → Int32 → Int32 → Int32 → Int32 → Int32 → Option (Int32 × MS)) (z : MS) (x1 : Int32) (x2 : Int32) (x3 : Int32) (x4 : Int32) (x6 : Int32) : Option (Int32 × MS) :=
  (X9_tastes_J102 k36 k48 z x1 x2 x3 x4 x6 (1 : Int32))
def X9_tastes_B48 (k36 : MS → Int32 → Int32 → Int32 → Int32 → Option (Int32 × MS)) (k48 : MS → Int32 → Int32 → Int32 → Int32 → Int32 → Int32 → Option (Int32 × MS)) (z : MS) (x1 : Int32) (x2 : Int32) (x3 : Int32) (x4 : Int32) (x5 : Int32) (x6 : Int32) : Option (Int32 × MS) :=
  (if (M_sights z) ≤ x6 then (if x5 = 0 then (X9_tastes_J126 k36 z x1 x2 x4 (0 : Int32) x3) else (X9_tastes_J126 k36 z x1 x2 x4 ((1 : Int32) <<< ((x4 + (3 : Int32)) &&& 31)) x3)) else (if x5 = 0 then (X9_tastes_J101 k36 k48 z x1 x2 x3 x4 x6) else (chk ((2 : Int32) * x6) 12 (if ((M_sight z) (((2 : Int32) * x6)).toNatClampNeg) = x1 then ((f_X9_goal z x1 x2 x4).bind fun q80 => (chk (((2 : Int32) * x6) + (1 : Int32)) 12 (if q80 = ((M_sight z) ((((2 : Int32) * x6) + (1 : Int32))).toNatClampNeg) then (X9_tastes_J97 k36 k48 z x1 x2 x3 x4 x6) else (X9_tastes_J101 k36 k48 z x1 x2 x3 x4 x6)))) else (X9_tastes_J97 k36 k48 z x1 x2 x3 x4 x6)))))
def X9_tastes_B36 (k36 : MS → Int32 → Int32 → Int32 → Int32 → Option (Int32 × MS)) (z : MS) (x1 : Int32) (x2 : Int32) (x3 : Int32) (x4 : Int32) : Option (Int32 × MS) :=
  (if (4 : Int32) ≤ x4 then (some (x3, z)) else (it (X9_tastes_B48 k36) (fun _ _ _ _ _ _ _ => none) FU z x1 x2 x3 x4 (1 : Int32) (0 : Int32)))
def f_X9_tastes (z : MS) (x1 : Int32) (x2 : Int32) : Option (Int32 × MS) :=
  ((f_X9_isThere z x1).bind fun q2 => (if q2 = 0 then (some ((-1 : Int32), z)) else ((f_X9_in x2 (0 : Int32) (4 : Int32)).bind fun q13 => (if q13 = 0 then (some ((-2 : Int32), z)) else ((f_X9_asNow z).bind fun q23 => ((f_X9_shut q23).bind fun q27 => (it X9_tastes_B36 (fun _ _ _ _ _ => none) FU q27 x1 x2 (0 : Int32) (-3 : Int32))))))))
theorem kv_X9_tastes : KV RX9 yX9_tastes cX9_tastes 7 (some .int) 2 := ⟨mw_1196, mw_1197, mw_65, mw_1198, by decide +kernel⟩
set_option maxHeartbeats 8000000 in
set_option maxRecDepth 100000 in
theorem c_X9_tastes {l : Launch} {E : va_G} {cy : Nat → ClassId} (A : Nat → Nat) (z : MS) (x1 : Int32) (x2 : Int32) (q : Int32 × MS) (hf : f_X9_tastes z x1 x2 = some q) : Ci l yX9_tastes cX9_tastes 7 (some .int) 5 159 E cy [.ref (A 0), .int x1, .int x2] (wM cy A z) q.1 (wM cy A q.2) := by
  refine Ci.of RX9 (by decide) rfl (Nat.le_of_ble_eq_true rfl) ?_
  intro K hK
  have hc := hK.cq
  have L36 : ∀ (n36 : Nat) (z : MS) (x1 : Int32) (x2 : Int32) (x3 : Int32) (x4 : Int32), it X9_tastes_B36 (fun _ _ _ _ _ => none) n36 z x1 x2 x3 x4 = some q → V K (wM cy A z) 36 [(0, .ref (A 0)), (1, .int x1), (2, .int x2), (3, .int x3), (4, .int x4)] [] := by
    intro n36
    induction n36 with
    | zero => intro z x1 x2 x3 x4 hf; exact (o_none hf).elim
    | succ n36 ih36 =>
      have J126 : ∀ (z : MS) (x1 : Int32) (x2 : Int32) (x4 : Int32) (s0 : Int32) (s1 : Int32), X9_tastes_J126 (it X9_tastes_B36 (fun _ _ _ _ _ => none) n36) z x1 x2 x4 s0 s1 = some q → V K (wM cy A z) 126 [(0, .ref (A 0)), (1, .int x1), (2, .int x2), (4, .int x4)] [.int s0, .int s1] := by
        intro z x1 x2 x4 s0 s1 hf
        unfold X9_tastes_J126 at hf
        refine r_ior hc dX9_tastes_126 ?_
        refine r_istore_n hc [(3, .int (s1 ||| s0)), (0, .ref (A 0)), (1, .int x1), (2, .int x2), (4, .int x4)] dX9_tastes_127 (by decide) rfl ?_
        refine r_iinc hc 4 [(4, .int (x4 + (1 : Int32))), (3, .int (s1 ||| s0)), (0, .ref (A 0)), (1, .int x1), (2, .int x2)] (x4 + (1 : Int32)) dX9_tastes_128 rfl rfl (by decide) rfl ?_
        refine r_goto hc 36 dX9_tastes_131 (by decide) ?_
        exact V.sub [2, 3, 4, 1, 0] rfl (ih36 z x1 x2 (s1 ||| s0) (x4 + (1 : Int32)) hf)
      have L48 : ∀ (n48 : Nat) (z : MS) (x1 : Int32) (x2 : Int32) (x3 : Int32) (x4 : Int32) (x5 : Int32) (x6 : Int32), it (X9_tastes_B48 (it X9_tastes_B36 (fun _ _ _ _ _ => none) n36)) (fun _ _ _ _ _ _ _ => none) n48 z x1 x2 x3 x4 x5 x6 = some q → V K (wM cy A z) 48 [(0, .ref (A 0)), (1, .int x1), (2, .int x2), (3, .int x3), (4, .int x4), (5, .int x5), (6, .int x6)] [] := by
        intro n48
        induction n48 with
        | zero => intro z x1 x2 x3 x4 x5 x6 hf; exact (o_none hf).elim
        | succ n48 ih48 =>
          have J102 : ∀ (z : MS) (x1 : Int32) (x2 : Int32) (x3 : Int32) (x4 : Int32) (x6 : Int32) (s0 : Int32), X9_tastes_J102 (it X9_tastes_B36 (fun _ _ _ _ _ => none) n36) (it (X9_tastes_B48 (it X9_tastes_B36 (fun _ _ _ _ _ => none) n36)) (fun _ _ _ _ _ _ _ => none) n48) z x1 x2 x3 x4 x6 s0 = some q → V K (wM cy A z) 102 [(0, .ref (A 0)), (1, .int x1), (2, .int x2), (3, .int x3), (4, .int x4), (6, .int x6)] [.int s0] := by
            intro z x1 x2 x3 x4 x6 s0 hf
            unfold X9_tastes_J102 at hf
            refine r_istore hc [(5, .int s0), (0, .ref (A 0)), (1, .int x1), (2, .int x2), (3, .int x3), (4, .int x4), (6, .int x6)] dX9_tastes_102 (by decide) rfl ?_
            refine r_iinc hc 6 [(6, .int (x6 + (1 : Int32))), (5, .int s0), (0, .ref (A 0)), (1, .int x1), (2, .int x2), (3, .int x3), (4, .int x4)] (x6 + (1 : Int32)) dX9_tastes_104 rfl rfl (by decide) rfl ?_
            refine r_goto hc 48 dX9_tastes_107 (by decide) ?_
            exact V.sub [2, 3, 4, 5, 6, 1, 0] rfl (ih48 z x1 x2 x3 x4 s0 (x6 + (1 : Int32)) hf)
          have J101 : ∀ (z : MS) (x1 : Int32) (x2 : Int32) (x3 : Int32) (x4 : Int32) (x6 : Int32), X9_tastes_J101 (it X9_tastes_B36 (fun _ _ _ _ _ => none) n36) (it (X9_tastes_B48 (it X9_tastes_B36 (fun _ _ _ _ _ => none) n36)) (fun _ _ _ _ _ _ _ => none) n48) z x1 x2 x3 x4 x6 = some q → V K (wM cy A z) 101 [(0, .ref (A 0)), (1, .int x1), (2, .int x2), (3, .int x3), (4, .int x4), (6, .int x6)] [] := by
            intro z x1 x2 x3 x4 x6 hf
            unfold X9_tastes_J101 at hf
            refine r_iconst hc (0 : Int32) dX9_tastes_101 rfl ?_
            exact V.sub [0, 1, 2, 3, 4, 5] rfl (J102 z x1 x2 x3 x4 x6 (0 : Int32) hf)
          have J97 : ∀ (z : MS) (x1 : Int32) (x2 : Int32) (x3 : Int32) (x4 : Int32) (x6 : Int32), X9_tastes_J97 (it X9_tastes_B36 (fun _ _ _ _ _ => none) n36) (it (X9_tastes_B48 (it X9_tastes_B36 (fun _ _ _ _ _ => none) n36)) (fun _ _ _ _ _ _ _ => none) n48) z x1 x2 x3 x4 x6 = some q → V K (wM cy A z) 97 [(0, .ref (A 0)), (1, .int x1), (2, .int x2), (3, .int x3), (4, .int x4), (6, .int x6)] [] := by
            intro z x1 x2 x3 x4 x6 hf
            unfold X9_tastes_J97 at hf
            refine r_iconst hc (1 : Int32) dX9_tastes_97 rfl ?_
            refine r_goto hc 102 dX9_tastes_98 (by decide) ?_
            exact V.sub [0, 1, 2, 3, 4, 5] rfl (J102 z x1 x2 x3 x4 x6 (1 : Int32) hf)
          intro z x1 x2 x3 x4 x5 x6 hf
          replace hf : X9_tastes_B48 (it X9_tastes_B36 (fun _ _ _ _ _ => none) n36) (it (X9_tastes_B48 (it X9_tastes_B36 (fun _ _ _ _ _ => none) n36)) (fun _ _ _ _ _ _ _ => none) n48) z x1 x2 x3 x4 x5 x6 = some q := hf
          unfold X9_tastes_B48 at hf
          refine r_iload hc 6 dX9_tastes_48 rfl ?_
          refine r_aload_n hc 0 dX9_tastes_50 rfl ?_
          refine r_get (v := .int (M_sights z)) hc iw_X9 0 rfl rfl 11 (by decide) mw_871 rfl dX9_tastes_51 ?_
          refine r_icmp_ge hc 110 dX9_tastes_54 (by decide) (fun c_4 => ?_) (fun c_4 => ?_)
          · have hf := o_pos c_4 hf
            refine r_iload_n hc 3 dX9_tastes_110 rfl ?_
            refine r_iload hc 5 dX9_tastes_111 rfl ?_
            refine r_if_eq hc 125 dX9_tastes_113 (by decide) (fun c_5 => ?_) (fun c_5 => ?_)
            · have hf := o_pos c_5 hf
              refine r_iconst hc (0 : Int32) dX9_tastes_125 rfl ?_
              exact V.sub [0, 1, 2, 4] rfl (J126 z x1 x2 x4 (0 : Int32) x3 hf)
            · have hf := o_neg c_5 hf
              refine r_iconst hc (1 : Int32) dX9_tastes_116 rfl ?_
              refine r_iload hc 4 dX9_tastes_117 rfl ?_
              refine r_iconst hc (3 : Int32) dX9_tastes_119 rfl ?_
              refine r_iadd hc dX9_tastes_120 ?_
              refine r_ishl hc dX9_tastes_121 ?_
              refine r_goto hc 126 dX9_tastes_122 (by decide) ?_
              exact V.sub [0, 1, 2, 4] rfl (J126 z x1 x2 x4 ((1 : Int32) <<< ((x4 + (3 : Int32)) &&& 31)) x3 hf)
          · have hf := o_neg c_4 hf
            refine r_iload hc 5 dX9_tastes_57 rfl ?_
            refine r_if_eq hc 101 dX9_tastes_59 (by decide) (fun c_6 => ?_) (fun c_6 => ?_)
            · have hf := o_pos c_6 hf
              exact V.sub [0, 1, 2, 3, 4, 6] rfl (J101 z x1 x2 x3 x4 x6 hf)
            · have hf := o_neg c_6 hf
              refine r_aload_n hc 0 dX9_tastes_62 rfl ?_
              refine r_get (v := .ref (A 10)) hc iw_X9 0 rfl rfl 12 (by decide) mw_872 rfl dX9_tastes_63 ?_
              refine r_iconst hc (2 : Int32) dX9_tastes_66 rfl ?_
              refine r_iload hc 6 dX9_tastes_67 rfl ?_
              refine r_imul hc dX9_tastes_69 ?_
              obtain ⟨i_7, hf⟩ := chk_some hf
              refine r_iald (f := (M_sight z)) hc 10 rfl i_7 dX9_tastes_70 ?_
              refine r_iload_n hc 1 dX9_tastes_71 rfl ?_
              refine r_icmp_ne hc 97 dX9_tastes_72 (by decide) (fun c_8 => ?_) (fun c_8 => ?_)
              · have hf := o_neg c_8 hf
                exact V.sub [0, 1, 2, 3, 4, 6] rfl (J97 z x1 x2 x3 x4 x6 hf)
              · have hf := o_pos c_8 hf
                refine r_aload_n hc 0 dX9_tastes_75 rfl ?_
                refine r_iload_n hc 1 dX9_tastes_76 rfl ?_
                refine r_iload_n hc 2 dX9_tastes_77 rfl ?_
                refine r_iload hc 4 dX9_tastes_78 rfl ?_
                obtain ⟨q80, hq80, hf⟩ := o_bind hf
                refine r_callVi (ws' := (wM cy A z)) (As := [.int x1, .int x2, .int x4]) (rest := []) hc (c_X9_goal A z x1 x2 x4 q80 hq80) kv_X9_goal mw_1040 0 rfl rfl _ _ _ (Sp_all _ _) rfl rfl (Nat.le_of_ble_eq_true rfl) ⟨by decide, by decide⟩ dX9_tastes_80 ?_
                refine r_aload_n hc 0 dX9_tastes_83 rfl ?_
                refine r_get (v := .ref (A 10)) hc iw_X9 0 rfl rfl 12 (by decide) mw_872 rfl dX9_tastes_84 ?_
                refine r_iconst hc (2 : Int32) dX9_tastes_87 rfl ?_
                refine r_iload hc 6 dX9_tastes_88 rfl ?_
                refine r_imul hc dX9_tastes_90 ?_
                refine r_iconst hc (1 : Int32) dX9_tastes_91 rfl ?_
                refine r_iadd hc dX9_tastes_92 ?_
                obtain ⟨i_9, hf⟩ := chk_some hf
                refine r_iald (f := (M_sight z)) hc 10 rfl i_9 dX9_tastes_93 ?_
                refine r_icmp_ne hc 101 dX9_tastes_94 (by decide) (fun c_10 => ?_) (fun c_10 => ?_)
                · have hf := o_neg c_10 hf
                  exact V.sub [0, 1, 2, 3, 4, 6] rfl (J101 z x1 x2 x3 x4 x6 hf)
                · have hf := o_pos c_10 hf
                  exact V.sub [0, 1, 2, 3, 4, 6] rfl (J97 z x1 x2 x3 x4 x6 hf)
      intro z x1 x2 x3 x4 hf
      replace hf : X9_tastes_B36 (it X9_tastes_B36 (fun _ _ _ _ _ => none) n36) z x1 x2 x3 x4 = some q := hf
      unfold X9_tastes_B36 at hf
      refine r_iload hc 4 dX9_tastes_36 rfl ?_
      refine r_iconst hc (4 : Int32) dX9_tastes_38 rfl ?_
      refine r_icmp_ge hc 134 dX9_tastes_39 (by decide) (fun c_3 => ?_) (fun c_3 => ?_)
      · have hf := o_pos c_3 hf
        refine r_iload_n hc 3 dX9_tastes_134 rfl ?_
        exact r_iret hK (congrArg (fun z9 => z9.1) (Option.some.inj hf)) (congrArg (fun z9 => (wM cy A z9.2)) (Option.some.inj hf)) dX9_tastes_135
      · have hf := o_neg c_3 hf
        refine r_iconst hc (1 : Int32) dX9_tastes_42 rfl ?_
        refine r_istore hc [(5, .int (1 : Int32)), (0, .ref (A 0)), (1, .int x1), (2, .int x2), (3, .int x3), (4, .int x4)] dX9_tastes_43 (by decide) rfl ?_
        refine r_iconst hc (0 : Int32) dX9_tastes_45 rfl ?_
        refine r_istore hc [(6, .int (0 : Int32)), (5, .int (1 : Int32)), (0, .ref (A 0)), (1, .int x1), (2, .int x2), (3, .int x3), (4, .int x4)] dX9_tastes_46 (by decide) rfl ?_
        exact V.sub [2, 3, 4, 5, 6, 1, 0] rfl (L48 FU z x1 x2 x3 x4 (1 : Int32) (0 : Int32) hf)
  show V K (wM cy A z) 0 [(0, .ref (A 0)), (1, .int x1), (2, .int x2)] []
  unfold f_X9_tastes at hf
  refine r_aload_n hc 0 dX9_tastes_0 rfl ?_
  refine r_iload_n hc 1 dX9_tastes_1 rfl ?_
  obtain ⟨q2, hq2, hf⟩ := o_bind hf
  refine r_callVi (ws' := (wM cy A z)) (As := [.int x1]) (rest := []) hc (c_X9_isThere A z x1 q2 hq2) kv_X9_isThere mw_996 0 rfl rfl _ _ _ (Sp_all _ _) rfl rfl (Nat.le_of_ble_eq_true rfl) ⟨by decide, by decide⟩ dX9_tastes_2 ?_
  refine r_if_ne hc 10 dX9_tastes_5 (by decide) (fun c_1 => ?_) (fun c_1 => ?_)
  · have hf := o_neg c_1 hf
    refine r_iload_n hc 2 dX9_tastes_10 rfl ?_
    refine r_iconst hc (0 : Int32) dX9_tastes_11 rfl ?_
    refine r_iconst hc (4 : Int32) dX9_tastes_12 rfl ?_
    obtain ⟨q13, hq13, hf⟩ := o_bind hf
    refine r_callSi (ws' := (wM cy A z)) (As := [.int x2, .int (0 : Int32), .int (4 : Int32)]) (rest := []) hc (c_X9_in  x2 (0 : Int32) (4 : Int32) q13 hq13) ks_X9_in mw_955 _ _ _ (Sp_none _) rfl rfl (Nat.le_of_ble_eq_true rfl) ⟨by decide, by decide⟩ dX9_tastes_13 ?_
    refine r_if_ne hc 22 dX9_tastes_16 (by decide) (fun c_2 => ?_) (fun c_2 => ?_)
    · have hf := o_neg c_2 hf
      refine r_aload_n hc 0 dX9_tastes_22 rfl ?_
      obtain ⟨q23, hq23, hf⟩ := o_bind hf
      refine r_callVv (ws' := (wM cy A q23)) (As := []) (rest := []) hc (c_X9_asNow A z q23 hq23) kv_X9_asNow mw_1028 0 rfl rfl _ _ _ (Sp_all _ _) rfl rfl (Nat.le_of_ble_eq_true rfl) ⟨by decide, by decide⟩ dX9_tastes_23 ?_
      refine r_aload_n hc 0 dX9_tastes_26 rfl ?_
      obtain ⟨q27, hq27, hf⟩ := o_bind hf
      refine r_callVv (ws' := (wM cy A q27)) (As := []) (rest := []) hc (c_X9_shut A q23 q27 hq27) kv_X9_shut mw_1036 0 rfl rfl _ _ _ (Sp_all _ _) rfl rfl (Nat.le_of_ble_eq_true rfl) ⟨by decide, by decide⟩ dX9_tastes_27 ?_
      refine r_iconst hc (0 : Int32) dX9_tastes_30 rfl ?_
      refine r_istore_n hc [(3, .int (0 : Int32)), (0, .ref (A 0)), (1, .int x1), (2, .int x2)] dX9_tastes_31 (by decide) rfl ?_
      refine r_bipush hc (-3 : Int32) dX9_tastes_32 rfl ?_
      refine r_istore hc [(4, .int (-3 : Int32)), (3, .int (0 : Int32)), (0, .ref (A 0)), (1, .int x1), (2, .int x2)] dX9_tastes_34 (by decide) rfl ?_
      exact V.sub [2, 3, 4, 1, 0] rfl (L36 FU q27 x1 x2 (0 : Int32) (-3 : Int32) hf)
    · have hf := o_pos c_2 hf
      refine r_bipush hc (-2 : Int32) dX9_tastes_19 rfl ?_
      exact r_iret hK (congrArg (fun z9 => z9.1) (Option.some.inj hf)) (congrArg (fun z9 => (wM cy A z9.2)) (Option.some.inj hf)) dX9_tastes_21
  · have hf := o_pos c_1 hf
    refine r_iconst hc (-1 : Int32) dX9_tastes_8 rfl ?_
    exact r_iret hK (congrArg (fun z9 => z9.1) (Option.some.inj hf)) (congrArg (fun z9 => (wM cy A z9.2)) (Option.some.inj hf)) dX9_tastes_9
def X9_drunk_B353 (k353 : MS → Int32 → Int32 → Int64 → Int64 → Int64 → Option (Int64 × MS)) (z : MS) (x2 : Int32) (x5 : Int32) (x6 : Int64) (x8 : Int64) (x10 : Int64) : Option (Int64 × MS) :=
  (if (lg_cmp x10 (0 : Int64)) = 0 then (if x5 = 0 then (chk x2 6 (nzl x8 (some ((((M_chances z) (x2).toNatClampNeg) / x8), z)))) else (nzl x8 (some ((x6 / x8), z)))) else (nzl x10 (k353 z x2 x5 x6 x10 (x8 - x8 / x10 * x10))))
def X9_drunk_B300 (k100 : MS → Int32 → Int32 → Int32 → Int32 → Int64 → Int32 → Option (Int64 × MS)) (k300 : MS → Int32 → Int32 → Int32 → Int32 → Int64 → Int32 → Int32 → Option (Int64 × MS)) (z : MS) (x2 : Int32) (x3 : Int32) (x4 : Int32) (x5 : Int32) (x6 : Int64) (x8 : Int32) (x9 : Int32) : Option (Int64 × MS) :=
  (if (6 : Int32) ≤ x9 then (k100 z x2 x3 x4 x5 (x6 * (600 : Int64)) (x8 + (1 : Int32))) else (chk x9 6 (chk x9 6 (ltA (M_set_chances z (vp_updL (M_chances z) (x9).toNatClampNeg ((M_then z) (x9).toNatClampNeg))) fun z320 => (k300 z320 x2 x3 x4 x5 x6 x8 (x9 + (1 : Int32)))))))
def X9_drunk_J283 (k100 : MS → Int32 → Int32 → Int32 → Int32 → Int64 → Int32 → Option (Int64 × MS)) (k134 : MS → Int32 → Int32 → Int32 → Int32 → Int64 → Int32 → Int32 → Option (Int64 × MS)) (k227 : MS → Int32 → Int32 → Int32 → Int32 → Int64 → Int32 → Int32 → Int32 → Int32 → Option (Int64 × MS)) (z : MS) (x2 : Int32) (x3 : Int32) (x4 : Int32) (x5 : Int32) (x6 : Int64) (x8 : Int32) (x9 : Int32) (x10 : Int32) (x11 : Int32) (s0 : Int64) (s1 : Int64) (s2 : Int32) : Option (Int64 × MS) :=
  (chk s2 6 (ltA (M_set_then z (vp_updL (M_then z) (s2).toNatClampNeg (s1 + s0))) fun z284 => (k227 z284 x2 x3 x4 x5 x6 x8 x9 x10 (x11 + (1 : Int32)))))
def X9_drunk_B227 (k100 : MS → Int32 → Int32 → Int32 → Int32 → Int64 → Int32 → Option (Int64 × MS)) (k134 : MS → Int32 → Int32 → Int32 → Int32 → Int64 → Int32 → Int32 → Option (Int64 × MS)) (k227 : MS → Int32 → Int32 → Int32 → Int32 → Int64 → Int32 → Int32 → Int32 → Int32 → Option (Int64 × MS)) (z : MS) (x2 : Int32) (x3 : Int32) (x4 : Int32) (x5 : Int32) (x6 : Int64) (x8 : Int32) (x9 : Int32) (x10 : Int32) (x11 : Int32) : Option (Int64 × MS) :=
  (if (M_rooms z) ≤ x11 then (k134 z x2 x3 x4 x5 x6 x8 (x9 + (1 : Int32))) else (chk x11 6 (chk (((6 : Int32) * x9) + x11) 36 (if ((M_width z) ((((6 : Int32) * x9) + x11)).toNatClampNeg) ≤ 0 then (X9_drunk_J283 k100 k134 k227 z x2 x3 x4 x5 x6 x8 x9 x10 x11 (0 : Int64) ((M_then z) (x11).toNatClampNeg) x11) else (chk x9 6 (nz x10 (X9_drunk_J283 k100 k134 k227 z x2 x3 x4 x5 x6 x8 x9 x10 x11 (((M_chances z) (x9).toNatClampNeg) * ((((60 : Int32) * ((10 : Int32) - x3)) / x10)).toInt64) ((M_then z) (x11).toNatClampNeg) x11)))))))
def X9_drunk_J220 (k100 : MS → Int32 → Int32 → Int32 → Int32 → Int64 → Int32 → Option (Int64 × MS)) (k134 : MS → Int32 → Int32 → Int32 → Int32 → Int64 → Int32 → Int32 → Option (Int64 × MS)) (z : MS) (x2 : Int32) (x3 : Int32) (x4 : Int32) (x5 : Int32) (x6 : Int64) (x8 : Int32) (x9 : Int32) (x10 : Int32) (s0 : Int32) (s1 : Int64) (s2 : Int64) (s3 : Int32) : Option (Int64 × MS) :=
  (chk s3 6 (ltA (M_set_then z (vp_updL (M_then z) (s3).toNatClampNeg (s2 + (s1 * (s0).toInt64)))) fun z223 => (it (X9_drunk_B227 k100 k134) (fun _ _ _ _ _ _ _ _ _ _ => none) FU z223 x2 x3 x4 x5 x6 x8 x9 x10 (0 : Int32))))
def X9_drunk_J181 (k100 : MS → Int32 → Int32 → Int32 → Int32 → Int64 → Int32 → Option (Int64 × MS)) (k134 : MS → Int32 → Int32 → Int32 → Int32 → Int64 → Int32 → Int32 → Option (Int64 × MS)) (k149 : MS → Int32 → Int32 → Int32 → Int32 → Int64 → Int32 → Int32 → Int32 → Int32 → Option (Int64 × MS)) (z : MS) (x2 : Int32) (x3 : Int32) (x4 : Int32) (x5 : Int32) (x6 : Int64) (x8 : Int32) (x9 : Int32) (x11 : Int32) (s0 : Int32) (s1 : Int32) : Option (Int64 × MS) :=
  (k149 z x2 x3 x4 x5 x6 x8 x9 (s1 + s0) (x11 + (1 : Int32)))
def X9_drunk_B149 (k100 : MS → Int32 → Int32 → Int32 → Int32 → Int64 → Int32 → Option (Int64 × MS)) (k134 : MS → Int32 → Int32 → Int32 → Int32 → Int64 → Int32 → Int32 → Option (Int64 × MS)) (k149 : MS → Int32 → Int32 → Int32 → Int32 → Int64 → Int32 → Int32 → Int32 → Int32 → Option (Int64 × MS)) (z : MS) (x2 : Int32) (x3 : Int32) (x4 : Int32) (x5 : Int32) (x6 : Int64) (x8 : Int32) (x9 : Int32) (x10 : Int32) (x11 : Int32) : Option (Int64 × MS) :=
  (if (M_rooms z) ≤ x11 then (chk x9 6 (chk x9 6 (if x10 = 0 then (X9_drunk_J220 k100 k134 z x2 x3 x4 x5 x6 x8 x9 x10 (600 : Int32) ((M_chances z) (x9).toNatClampNeg) ((M_then z) (x9).toNatClampNeg) x9) else (X9_drunk_J220 k100 k134 z x2 x3 x4 x5 x6 x8 x9 x10 ((60 : Int32) * x3) ((M_chances z) (x9).toNatClampNeg) ((M_then z) (x9).toNatClampNeg) x9)))) else (chk (((6 : Int32) * x9) + x11) 36 (if ((M_width z) ((((6 : Int32) * x9) + x11)).toNatClampNeg) ≤ 0 then (X9_drunk_J181 k100 k134 k149 z x2 x3 x4 x5 x6 x8 x9 x11 (0 : Int32) x10) else (X9_drunk_J181 k100 k134 k149 z x2 x3 x4 x5 x6 x8 x9 x11 (1 : Int32) x10))))
def X9_drunk_B134 (k100 : MS → Int32 → Int32 → Int32 → Int32 → Int64 → Int32 → Option (Int64 × MS)) (k134 : MS → Int32 → Int32 → Int32 → Int32 → Int64 → Int32 → Int32 → Option (Int64 × MS)) (z : MS) (x2 : Int32) (x3 : Int32) (x4 : Int32) (x5 : Int32) (x6 : Int64) (x8 : Int32) (x9 : Int32) : Option (Int64 × MS) :=
  (if (M_rooms z) ≤ x9 then (it (X9_drunk_B300 k100) (fun _ _ _ _ _ _ _ _ => none) FU z x2 x3 x4 x5 x6 x8 (0 : Int32)) else (it (X9_drunk_B149 k100 k134) (fun _ _ _ _ _ _ _ _ _ _ => none) FU z x2 x3 x4 x5 x6 x8 x9 (0 : Int32) (0 : Int32)))
def X9_drunk_B110 (k100 : MS → Int32 → Int32 → Int32 → Int32 → Int64 → Int32 → Option (Int64 × MS)) (k110 : MS → Int32 → Int32 → Int32 → Int32 → Int64 → Int32 → Int32 → Option (Int64 × MS)) (z : MS) (x2 : Int32) (x3 : Int32) (x4 : Int32) (x5 : Int32) (x6 : Int64) (x8 : Int32) (x9 : Int32) : Option (Int64 × MS) :=
  (if (6 : Int32) ≤ x9 then (it (X9_drunk_B134 k100) (fun _ _ _ _ _ _ _ _ => none) FU z x2 x3 x4 x5 x6 x8 (0 : Int32)) else (chk x9 6 (ltA (M_set_then z (vp_updL (M_then z) (x9).toNatClampNeg (0 : Int64))) fun z124 => (k110 z124 x2 x3 x4 x5 x6 x8 (x9 + (1 : Int32))))))
def X9_drunk_B100 (k100 : MS → Int32 → Int32 → Int32 → Int32 → Int64 → Int32 → Option (Int64 × MS)) (z : MS) (x2 : Int32) (x3 : Int32) (x4 : Int32) (x5 : Int32) (x6 : Int64) (x8 : Int32) : Option (Int64 × MS) :=
  (if x4 ≤ x8 then (chk x2 6 (it X9_drunk_B353 (fun _ _ _ _ _ _ => none) FU z x2 x5 x6 ((M_chances z) (x2).toNatClampNeg) x6)) else (it (X9_drunk_B110 k100) (fun _ _ _ _ _ _ _ _ => none) FU z x2 x3 x4 x5 x6 x8 (0 : Int32)))
def X9_drunk_J87 (k58 : MS → Int32 → Int32 → Int32 → Int32 → Int32 → Int32 → Option (Int64 × MS)) (z : MS) (x1 : Int32) (x2 : Int32) (x3 : Int32) (x4 : Int32) (x5 : Int32) (x6 : Int32) (s0 : Int64) (s1 : Int32) : Option (Int64 × MS) :=
  (chk s1 6 (ltA (M_set_chances z (vp_updL (M_chances z) (s1).toNatClampNeg s0)) fun z87 => (k58 z87 x1 x2 x3 x4 x5 (x6 + (1 : Int32)))))
def X9_drunk_B58 (k58 : MS → Int32 → Int32 → Int32 → Int32 → Int32 → Int32 → Option (Int64 × MS)) (z : MS) (x1 : Int32) (x2 : Int32) (x3 : Int32) (x4 : Int32) (x5 : Int32) (x6 : Int32) : Option (Int64 × MS) :=
  (if (6 : Int32) ≤ x6 then (it X9_drunk_B100 (fun _ _ _ _ _ _ _ => none) FU z x2 x3 x4 x5 (1 : Int64) (0 : Int32)) else (chk x1 8 (if x6 = ((M_place z) (x1).toNatClampNeg) then (X9_drunk_J87 k58 z x1 x2 x3 x4 x5 x6 (1 : Int64) x6) else (X9_drunk_J87 k58 z x1 x2 x3 x4 x5 x6 (0 : Int64) x6))))
def f_X9_drunk (z : MS) (x1 : Int32) (x2 : Int32) (x3 : Int32) (x4 : Int32) (x5 : Int32) : Option (Int64 × MS) :=
  ((f_X9_isThere z x1).bind fun q2 => (if q2 = 0 then (some ((-1000000000000000001 : Int64), z)) else ((f_X9_isRoom z x2).bind fun q10 => (if q10 = 0 then (some ((-1000000000000000001 : Int64), z)) else ((f_X9_in x3 (0 : Int32) (10 : Int32)).bind fun q24 => (if q24 = 0 then (some ((-1000000000000000002 : Int64), z)) else ((f_X9_in x4 (0 : Int32) (6 : Int32)).bind fun q35 => (if q35 = 0 then (some ((-1000000000000000002 : Int64), z)) else ((f_X9_in x5 (0 : Int32) (1 : Int32)).bind fun q45 => (if q45 = 0 then (some ((-1000000000000000002 : Int64), z)) else (it X9_drunk_B58 (fun _ _ _ _ _ _ _ => none) FU z x1 x2 x3 x4 x5 (0 : Int32))))))))))))
theorem kv_X9_drunk : KV RX9 yX9_drunk cX9_drunk 14 (some .long) 5 := ⟨mw_1200, mw_1201, mw_65, mw_1202, by decide +kernel⟩
set_option maxHeartbeats 8000000 in
set_option maxRecDepth 100000 in
theorem c_X9_drunk {l : Launch} {E : va_G} {cy : Nat → ClassId} (A : Nat → Nat) (z : MS) (x1 : Int32) (x2 : Int32) (x3 : Int32) (x4 : Int32) (x5 : Int32) (q : Int64 × MS) (hf : f_X9_drunk z x1 x2 x3 x4 x5 = some q) : Cl l yX9_drunk cX9_drunk 14 (some .long) 3 103 E cy [.ref (A 0), .int x1, .int x2, .int x3, .int x4, .int x5] (wM cy A z) q.1 (wM cy A q.2) := by
  refine Cl.of RX9 (by decide) rfl (Nat.le_of_ble_eq_true rfl) ?_
  intro K hK
  have hc := hK.cq
  have L353 : ∀ (n353 : Nat) (z : MS) (x2 : Int32) (x5 : Int32) (x6 : Int64) (x8 : Int64) (x10 : Int64), it X9_drunk_B353 (fun _ _ _ _ _ _ => none) n353 z x2 x5 x6 x8 x10 = some q → V K (wM cy A z) 353 [(0, .ref (A 0)), (2, .int x2), (5, .int x5), (6, .long x6), (8, .long x8), (10, .long x10)] [] := by
    intro n353
    induction n353 with
    | zero => intro z x2 x5 x6 x8 x10 hf; exact (o_none hf).elim
    | succ n353 ih353 =>
      intro z x2 x5 x6 x8 x10 hf
      replace hf : X9_drunk_B353 (it X9_drunk_B353 (fun _ _ _ _ _ _ => none) n353) z x2 x5 x6 x8 x10 = some q := hf
      unfold X9_drunk_B353 at hf
      refine r_lload hc 5 dX9_drunk_353 rfl ?_
      refine r_lconst hc (0 : Int64) dX9_drunk_355 rfl ?_
      refine r_lcmp hc dX9_drunk_356 ?_
      refine r_if_eq hc 378 dX9_drunk_357 (by decide) (fun c_32 => ?_) (fun c_32 => ?_)
      · have hf := o_pos c_32 hf
        refine r_iload hc 2 dX9_drunk_378 rfl ?_
        refine r_if_ne hc 395 dX9_drunk_380 (by decide) (fun c_33 => ?_) (fun c_33 => ?_)
        · have hf := o_neg c_33 hf
          refine r_lload hc 3 dX9_drunk_395 rfl ?_
          refine r_lload hc 4 dX9_drunk_397 rfl ?_
          obtain ⟨z_34, hf⟩ := nzl_some hf
          refine r_ldiv hc dX9_drunk_399 z_34 ?_
          exact r_lret hK (congrArg (fun z9 => z9.1) (Option.some.inj hf)) (congrArg (fun z9 => (wM cy A z9.2)) (Option.some.inj hf)) dX9_drunk_400
        · have hf := o_pos c_33 hf
          refine r_aload_n hc 0 dX9_drunk_383 rfl ?_
          refine r_get (v := .ref (A 20)) hc iw_X9 0 rfl rfl 26 (by decide) mw_886 rfl dX9_drunk_384 ?_
          refine r_iload_n hc 1 dX9_drunk_387 rfl ?_
          obtain ⟨i_35, hf⟩ := chk_some hf
          refine r_lald (f := (M_chances z)) hc 20 rfl i_35 dX9_drunk_388 ?_
          refine r_lload hc 4 dX9_drunk_389 rfl ?_
          obtain ⟨z_36, hf⟩ := nzl_some hf
          refine r_ldiv hc dX9_drunk_391 z_36 ?_
          refine r_goto hc 400 dX9_drunk_392 (by decide) ?_
          exact r_lret hK (congrArg (fun z9 => z9.1) (Option.some.inj hf)) (congrArg (fun z9 => (wM cy A z9.2)) (Option.some.inj hf)) dX9_drunk_400
      · have hf := o_neg c_32 hf
        refine r_lload hc 4 dX9_drunk_360 rfl ?_
        refine r_lload hc 5 dX9_drunk_362 rfl ?_
        obtain ⟨z_37, hf⟩ := nzl_some hf
        refine r_lrem hc dX9_drunk_364 z_37 ?_
        refine r_lstore hc [(12, .long (x8 - x8 / x10 * x10)), (0, .ref (A 0)), (2, .int x2), (5, .int x5), (6, .long x6), (8, .long x8), (10, .long x10)] dX9_drunk_365 (by decide) rfl ?_
        refine r_lload hc 6 dX9_drunk_367 rfl ?_
        refine r_lstore hc [(8, .long x10), (12, .long (x8 - x8 / x10 * x10)), (0, .ref (A 0)), (2, .int x2), (5, .int x5), (6, .long x6), (10, .long x10)] dX9_drunk_369 (by decide) rfl ?_
        refine r_lload hc 1 dX9_drunk_371 rfl ?_
        refine r_lstore hc [(10, .long (x8 - x8 / x10 * x10)), (8, .long x10), (12, .long (x8 - x8 / x10 * x10)), (0, .ref (A 0)), (2, .int x2), (5, .int x5), (6, .long x6)] dX9_drunk_373 (by decide) rfl ?_
        refine r_goto hc 353 dX9_drunk_375 (by decide) ?_
        exact V.sub [3, 4, 5, 6, 1, 0] rfl (ih353 z x2 x5 x6 x10 (x8 - x8 / x10 * x10) hf)
  have L100 : ∀ (n100 : Nat) (z : MS) (x2 : Int32) (x3 : Int32) (x4 : Int32) (x5 : Int32) (x6 : Int64) (x8 : Int32), it X9_drunk_B100 (fun _ _ _ _ _ _ _ => none) n100 z x2 x3 x4 x5 x6 x8 = some q → V K (wM cy A z) 100 [(0, .ref (A 0)), (2, .int x2), (3, .int x3), (4, .int x4), (5, .int x5), (6, .long x6), (8, .int x8)] [] := by
    intro n100
    induction n100 with
    | zero => intro z x2 x3 x4 x5 x6 x8 hf; exact (o_none hf).elim
    | succ n100 ih100 =>
      have L300 : ∀ (n300 : Nat) (z : MS) (x2 : Int32) (x3 : Int32) (x4 : Int32) (x5 : Int32) (x6 : Int64) (x8 : Int32) (x9 : Int32), it (X9_drunk_B300 (it X9_drunk_B100 (fun _ _ _ _ _ _ _ => none) n100)) (fun _ _ _ _ _ _ _ _ => none) n300 z x2 x3 x4 x5 x6 x8 x9 = some q → V K (wM cy A z) 300 [(0, .ref (A 0)), (2, .int x2), (3, .int x3), (4, .int x4), (5, .int x5), (6, .long x6), (8, .int x8), (9, .int x9)] [] := by
        intro n300
        induction n300 with
        | zero => intro z x2 x3 x4 x5 x6 x8 x9 hf; exact (o_none hf).elim
        | succ n300 ih300 =>
          intro z x2 x3 x4 x5 x6 x8 x9 hf
          replace hf : X9_drunk_B300 (it X9_drunk_B100 (fun _ _ _ _ _ _ _ => none) n100) (it (X9_drunk_B300 (it X9_drunk_B100 (fun _ _ _ _ _ _ _ => none) n100)) (fun _ _ _ _ _ _ _ _ => none) n300) z x2 x3 x4 x5 x6 x8 x9 = some q := hf
          unfold X9_drunk_B300 at hf
          refine r_iload hc 7 dX9_drunk_300 rfl ?_
          refine r_bipush hc (6 : Int32) dX9_drunk_302 rfl ?_
          refine r_icmp_ge hc 327 dX9_drunk_304 (by decide) (fun c_29 => ?_) (fun c_29 => ?_)
          · have hf := o_pos c_29 hf
            refine r_lload hc 5 dX9_drunk_327 rfl ?_
            refine r_ldc2 (v := (600 : Int64)) hc mw_1205 dX9_drunk_329 ?_
            refine r_lmul hc dX9_drunk_332 ?_
            refine r_lstore hc [(6, .long (x6 * (600 : Int64))), (0, .ref (A 0)), (2, .int x2), (3, .int x3), (4, .int x4), (5, .int x5), (8, .int x8), (9, .int x9)] dX9_drunk_333 (by decide) rfl ?_
            refine r_iinc hc 6 [(8, .int (x8 + (1 : Int32))), (6, .long (x6 * (600 : Int64))), (0, .ref (A 0)), (2, .int x2), (3, .int x3), (4, .int x4), (5, .int x5), (9, .int x9)] (x8 + (1 : Int32)) dX9_drunk_335 rfl rfl (by decide) rfl ?_
            refine r_goto hc 100 dX9_drunk_338 (by decide) ?_
            exact V.sub [2, 3, 4, 5, 6, 1, 0] rfl (ih100 z x2 x3 x4 x5 (x6 * (600 : Int64)) (x8 + (1 : Int32)) hf)
          · have hf := o_neg c_29 hf
            refine r_aload_n hc 0 dX9_drunk_307 rfl ?_
            refine r_get (v := .ref (A 20)) hc iw_X9 0 rfl rfl 26 (by decide) mw_886 rfl dX9_drunk_308 ?_
            refine r_iload hc 7 dX9_drunk_311 rfl ?_
            refine r_aload_n hc 0 dX9_drunk_313 rfl ?_
            refine r_get (v := .ref (A 21)) hc iw_X9 0 rfl rfl 27 (by decide) mw_887 rfl dX9_drunk_314 ?_
            refine r_iload hc 7 dX9_drunk_317 rfl ?_
            obtain ⟨i_30, hf⟩ := chk_some hf
            refine r_lald (f := (M_then z)) hc 21 rfl i_30 dX9_drunk_319 ?_
            obtain ⟨i_31, hf⟩ := chk_some hf
            obtain ⟨z320, ez320, hf⟩ := lt_some hf
            refine r_last (f := (M_chances z)) hc 20 rfl i_31 dX9_drunk_320 _ rfl (wM cy A z320) (wM_s_chances ez320) ?_
            refine r_iinc hc 7 [(9, .int (x9 + (1 : Int32))), (0, .ref (A 0)), (2, .int x2), (3, .int x3), (4, .int x4), (5, .int x5), (6, .long x6), (8, .int x8)] (x9 + (1 : Int32)) dX9_drunk_321 rfl rfl (by decide) rfl ?_
            refine r_goto hc 300 dX9_drunk_324 (by decide) ?_
            exact V.sub [1, 2, 3, 4, 5, 6, 7, 0] rfl (ih300 z320 x2 x3 x4 x5 x6 x8 (x9 + (1 : Int32)) hf)
      have L134 : ∀ (n134 : Nat) (z : MS) (x2 : Int32) (x3 : Int32) (x4 : Int32) (x5 : Int32) (x6 : Int64) (x8 : Int32) (x9 : Int32), it (X9_drunk_B134 (it X9_drunk_B100 (fun _ _ _ _ _ _ _ => none) n100)) (fun _ _ _ _ _ _ _ _ => none) n134 z x2 x3 x4 x5 x6 x8 x9 = some q → V K (wM cy A z) 134 [(0, .ref (A 0)), (2, .int x2), (3, .int x3), (4, .int x4), (5, .int x5), (6, .long x6), (8, .int x8), (9, .int x9)] [] := by
        intro n134
        induction n134 with
        | zero => intro z x2 x3 x4 x5 x6 x8 x9 hf; exact (o_none hf).elim
        | succ n134 ih134 =>
          have L227 : ∀ (n227 : Nat) (z : MS) (x2 : Int32) (x3 : Int32) (x4 : Int32) (x5 : Int32) (x6 : Int64) (x8 : Int32) (x9 : Int32) (x10 : Int32) (x11 : Int32), it (X9_drunk_B227 (it X9_drunk_B100 (fun _ _ _ _ _ _ _ => none) n100) (it (X9_drunk_B134 (it X9_drunk_B100 (fun _ _ _ _ _ _ _ => none) n100)) (fun _ _ _ _ _ _ _ _ => none) n134)) (fun _ _ _ _ _ _ _ _ _ _ => none) n227 z x2 x3 x4 x5 x6 x8 x9 x10 x11 = some q → V K (wM cy A z) 227 [(0, .ref (A 0)), (2, .int x2), (3, .int x3), (4, .int x4), (5, .int x5), (6, .long x6), (8, .int x8), (9, .int x9), (10, .int x10), (11, .int x11)] [] := by
            intro n227
            induction n227 with
            | zero => intro z x2 x3 x4 x5 x6 x8 x9 x10 x11 hf; exact (o_none hf).elim
            | succ n227 ih227 =>
              have J283 : ∀ (z : MS) (x2 : Int32) (x3 : Int32) (x4 : Int32) (x5 : Int32) (x6 : Int64) (x8 : Int32) (x9 : Int32) (x10 : Int32) (x11 : Int32) (s0 : Int64) (s1 : Int64) (s2 : Int32), X9_drunk_J283 (it X9_drunk_B100 (fun _ _ _ _ _ _ _ => none) n100) (it (X9_drunk_B134 (it X9_drunk_B100 (fun _ _ _ _ _ _ _ => none) n100)) (fun _ _ _ _ _ _ _ _ => none) n134) (it (X9_drunk_B227 (it X9_drunk_B100 (fun _ _ _ _ _ _ _ => none) n100) (it (X9_drunk_B134 (it X9_drunk_B100 (fun _ _ _ _ _ _ _ => none) n100)) (fun _ _ _ _ _ _ _ _ => none) n134)) (fun _ _ _ _ _ _ _ _ _ _ => none) n227) z x2 x3 x4 x5 x6 x8 x9 x10 x11 s0 s1 s2 = some q → V K (wM cy A z) 283 [(0, .ref (A 0)), (2, .int x2), (3, .int x3), (4, .int x4), (5, .int x5), (6, .long x6), (8, .int x8), (9, .int x9), (10, .int x10), (11, .int x11)] [.long s0, .long s1, .int s2, .ref (A 21)] := by
                intro z x2 x3 x4 x5 x6 x8 x9 x10 x11 s0 s1 s2 hf
                unfold X9_drunk_J283 at hf
                refine r_ladd hc dX9_drunk_283 ?_
                obtain ⟨i_28, hf⟩ := chk_some hf
                obtain ⟨z284, ez284, hf⟩ := lt_some hf
                refine r_last (f := (M_then z)) hc 21 rfl i_28 dX9_drunk_284 _ rfl (wM cy A z284) (wM_s_then ez284) ?_
                refine r_iinc hc 9 [(11, .int (x11 + (1 : Int32))), (0, .ref (A 0)), (2, .int x2), (3, .int x3), (4, .int x4), (5, .int x5), (6, .long x6), (8, .int x8), (9, .int x9), (10, .int x10)] (x11 + (1 : Int32)) dX9_drunk_285 rfl rfl (by decide) rfl ?_
                refine r_goto hc 227 dX9_drunk_288 (by decide) ?_
                exact V.sub [1, 2, 3, 4, 5, 6, 7, 8, 9, 0] rfl (ih227 z284 x2 x3 x4 x5 x6 x8 x9 x10 (x11 + (1 : Int32)) hf)
              intro z x2 x3 x4 x5 x6 x8 x9 x10 x11 hf
              replace hf : X9_drunk_B227 (it X9_drunk_B100 (fun _ _ _ _ _ _ _ => none) n100) (it (X9_drunk_B134 (it X9_drunk_B100 (fun _ _ _ _ _ _ _ => none) n100)) (fun _ _ _ _ _ _ _ _ => none) n134) (it (X9_drunk_B227 (it X9_drunk_B100 (fun _ _ _ _ _ _ _ => none) n100) (it (X9_drunk_B134 (it X9_drunk_B100 (fun _ _ _ _ _ _ _ => none) n100)) (fun _ _ _ _ _ _ _ _ => none) n134)) (fun _ _ _ _ _ _ _ _ _ _ => none) n227) z x2 x3 x4 x5 x6 x8 x9 x10 x11 = some q := hf
              unfold X9_drunk_B227 at hf
              refine r_iload hc 9 dX9_drunk_227 rfl ?_
              refine r_aload_n hc 0 dX9_drunk_229 rfl ?_
              refine r_get (v := .int (M_rooms z)) hc iw_X9 0 rfl rfl 0 (by decide) mw_860 rfl dX9_drunk_230 ?_
              refine r_icmp_ge hc 291 dX9_drunk_233 (by decide) (fun c_22 => ?_) (fun c_22 => ?_)
              · have hf := o_pos c_22 hf
                refine r_iinc hc 7 [(9, .int (x9 + (1 : Int32))), (0, .ref (A 0)), (2, .int x2), (3, .int x3), (4, .int x4), (5, .int x5), (6, .long x6), (8, .int x8), (10, .int x10), (11, .int x11)] (x9 + (1 : Int32)) dX9_drunk_291 rfl rfl (by decide) rfl ?_
                refine r_goto hc 134 dX9_drunk_294 (by decide) ?_
                exact V.sub [1, 2, 3, 4, 5, 6, 7, 0] rfl (ih134 z x2 x3 x4 x5 x6 x8 (x9 + (1 : Int32)) hf)
              · have hf := o_neg c_22 hf
                refine r_aload_n hc 0 dX9_drunk_236 rfl ?_
                refine r_get (v := .ref (A 21)) hc iw_X9 0 rfl rfl 27 (by decide) mw_887 rfl dX9_drunk_237 ?_
                refine r_iload hc 9 dX9_drunk_240 rfl ?_
                refine r_dup2_11 hc dX9_drunk_242 rfl rfl ?_
                obtain ⟨i_23, hf⟩ := chk_some hf
                refine r_lald (f := (M_then z)) hc 21 rfl i_23 dX9_drunk_243 ?_
                refine r_aload_n hc 0 dX9_drunk_244 rfl ?_
                refine r_get (v := .ref (A 4)) hc iw_X9 0 rfl rfl 4 (by decide) mw_864 rfl dX9_drunk_245 ?_
                refine r_bipush hc (6 : Int32) dX9_drunk_248 rfl ?_
                refine r_iload hc 7 dX9_drunk_250 rfl ?_
                refine r_imul hc dX9_drunk_252 ?_
                refine r_iload hc 9 dX9_drunk_253 rfl ?_
                refine r_iadd hc dX9_drunk_255 ?_
                obtain ⟨i_24, hf⟩ := chk_some hf
                refine r_iald (f := (M_width z)) hc 4 rfl i_24 dX9_drunk_256 ?_
                refine r_if_le hc 282 dX9_drunk_257 (by decide) (fun c_25 => ?_) (fun c_25 => ?_)
                · have hf := o_pos c_25 hf
                  refine r_lconst hc (0 : Int64) dX9_drunk_282 rfl ?_
                  exact V.sub [0, 1, 2, 3, 4, 5, 6, 7, 8, 9] rfl (J283 z x2 x3 x4 x5 x6 x8 x9 x10 x11 (0 : Int64) ((M_then z) (x11).toNatClampNeg) x11 hf)
                · have hf := o_neg c_25 hf
                  refine r_aload_n hc 0 dX9_drunk_260 rfl ?_
                  refine r_get (v := .ref (A 20)) hc iw_X9 0 rfl rfl 26 (by decide) mw_886 rfl dX9_drunk_261 ?_
                  refine r_iload hc 7 dX9_drunk_264 rfl ?_
                  obtain ⟨i_26, hf⟩ := chk_some hf
                  refine r_lald (f := (M_chances z)) hc 20 rfl i_26 dX9_drunk_266 ?_
                  refine r_bipush hc (60 : Int32) dX9_drunk_267 rfl ?_
                  refine r_bipush hc (10 : Int32) dX9_drunk_269 rfl ?_
                  refine r_iload_n hc 2 dX9_drunk_271 rfl ?_
                  refine r_isub hc dX9_drunk_272 ?_
                  refine r_imul hc dX9_drunk_273 ?_
                  refine r_iload hc 8 dX9_drunk_274 rfl ?_
                  obtain ⟨z_27, hf⟩ := nz_some hf
                  refine r_idiv hc dX9_drunk_276 z_27 ?_
                  refine r_i2l hc dX9_drunk_277 ?_
                  refine r_lmul hc dX9_drunk_278 ?_
                  refine r_goto hc 283 dX9_drunk_279 (by decide) ?_
                  exact V.sub [0, 1, 2, 3, 4, 5, 6, 7, 8, 9] rfl (J283 z x2 x3 x4 x5 x6 x8 x9 x10 x11 (((M_chances z) (x9).toNatClampNeg) * ((((60 : Int32) * ((10 : Int32) - x3)) / x10)).toInt64) ((M_then z) (x11).toNatClampNeg) x11 hf)
          have J220 : ∀ (z : MS) (x2 : Int32) (x3 : Int32) (x4 : Int32) (x5 : Int32) (x6 : Int64) (x8 : Int32) (x9 : Int32) (x10 : Int32) (s0 : Int32) (s1 : Int64) (s2 : Int64) (s3 : Int32), X9_drunk_J220 (it X9_drunk_B100 (fun _ _ _ _ _ _ _ => none) n100) (it (X9_drunk_B134 (it X9_drunk_B100 (fun _ _ _ _ _ _ _ => none) n100)) (fun _ _ _ _ _ _ _ _ => none) n134) z x2 x3 x4 x5 x6 x8 x9 x10 s0 s1 s2 s3 = some q → V K (wM cy A z) 220 [(0, .ref (A 0)), (2, .int x2), (3, .int x3), (4, .int x4), (5, .int x5), (6, .long x6), (8, .int x8), (9, .int x9), (10, .int x10)] [.int s0, .long s1, .long s2, .int s3, .ref (A 21)] := by
            intro z x2 x3 x4 x5 x6 x8 x9 x10 s0 s1 s2 s3 hf
            unfold X9_drunk_J220 at hf
            refine r_i2l hc dX9_drunk_220 ?_
            refine r_lmul hc dX9_drunk_221 ?_
            refine r_ladd hc dX9_drunk_222 ?_
            obtain ⟨i_21, hf⟩ := chk_some hf
            obtain ⟨z223, ez223, hf⟩ := lt_some hf
            refine r_last (f := (M_then z)) hc 21 rfl i_21 dX9_drunk_223 _ rfl (wM cy A z223) (wM_s_then ez223) ?_
            refine r_iconst hc (0 : Int32) dX9_drunk_224 rfl ?_
            refine r_istore hc [(11, .int (0 : Int32)), (0, .ref (A 0)), (2, .int x2), (3, .int x3), (4, .int x4), (5, .int x5), (6, .long x6), (8, .int x8), (9, .int x9), (10, .int x10)] dX9_drunk_225 (by decide) rfl ?_
            exact V.sub [1, 2, 3, 4, 5, 6, 7, 8, 9, 0] rfl (L227 FU z223 x2 x3 x4 x5 x6 x8 x9 x10 (0 : Int32) hf)
          have L149 : ∀ (n149 : Nat) (z : MS) (x2 : Int32) (x3 : Int32) (x4 : Int32) (x5 : Int32) (x6 : Int64) (x8 : Int32) (x9 : Int32) (x10 : Int32) (x11 : Int32), it (X9_drunk_B149 (it X9_drunk_B100 (fun _ _ _ _ _ _ _ => none) n100) (it (X9_drunk_B134 (it X9_drunk_B100 (fun _ _ _ _ _ _ _ => none) n100)) (fun _ _ _ _ _ _ _ _ => none) n134)) (fun _ _ _ _ _ _ _ _ _ _ => none) n149 z x2 x3 x4 x5 x6 x8 x9 x10 x11 = some q → V K (wM cy A z) 149 [(0, .ref (A 0)), (2, .int x2), (3, .int x3), (4, .int x4), (5, .int x5), (6, .long x6), (8, .int x8), (9, .int x9), (10, .int x10), (11, .int x11)] [] := by
            intro n149
            induction n149 with
            | zero => intro z x2 x3 x4 x5 x6 x8 x9 x10 x11 hf; exact (o_none hf).elim
            | succ n149 ih149 =>
              have J181 : ∀ (z : MS) (x2 : Int32) (x3 : Int32) (x4 : Int32) (x5 : Int32) (x6 : Int64) (x8 : Int32) (x9 : Int32) (x11 : Int32) (s0 : Int32) (s1 : Int32), X9_drunk_J181 (it X9_drunk_B100 (fun _ _ _ _ _ _ _ => none) n100) (it (X9_drunk_B134 (it X9_drunk_B100 (fun _ _ _ _ _ _ _ => none) n100)) (fun _ _ _ _ _ _ _ _ => none) n134) (it (X9_drunk_B149 (it X9_drunk_B100 (fun _ _ _ _ _ _ _ => none) n100) (it (X9_drunk_B134 (it X9_drunk_B100 (fun _ _ _ _ _ _ _ => none) n100)) (fun _ _ _ _ _ _ _ _ => none) n134)) (fun _ _ _ _ _ _ _ _ _ _ => none) n149) z x2 x3 x4 x5 x6 x8 x9 x11 s0 s1 = some q → V K (wM cy A z) 181 [(0, .ref (A 0)), (2, .int x2), (3, .int x3), (4, .int x4), (5, .int x5), (6, .long x6), (8, .int x8), (9, .int x9), (11, .int x11)] [.int s0, .int s1] := by
                intro z x2 x3 x4 x5 x6 x8 x9 x11 s0 s1 hf
                unfold X9_drunk_J181 at hf
                refine r_iadd hc dX9_drunk_181 ?_
                refine r_istore hc [(10, .int (s1 + s0)), (0, .ref (A 0)), (2, .int x2), (3, .int x3), (4, .int x4), (5, .int x5), (6, .long x6), (8, .int x8), (9, .int x9), (11, .int x11)] dX9_drunk_182 (by decide) rfl ?_
                refine r_iinc hc 9 [(11, .int (x11 + (1 : Int32))), (10, .int (s1 + s0)), (0, .ref (A 0)), (2, .int x2), (3, .int x3), (4, .int x4), (5, .int x5), (6, .long x6), (8, .int x8), (9, .int x9)] (x11 + (1 : Int32)) dX9_drunk_184 rfl rfl (by decide) rfl ?_
                refine r_goto hc 149 dX9_drunk_187 (by decide) ?_
                exact V.sub [2, 3, 4, 5, 6, 7, 8, 9, 1, 0] rfl (ih149 z x2 x3 x4 x5 x6 x8 x9 (s1 + s0) (x11 + (1 : Int32)) hf)
              intro z x2 x3 x4 x5 x6 x8 x9 x10 x11 hf
              replace hf : X9_drunk_B149 (it X9_drunk_B100 (fun _ _ _ _ _ _ _ => none) n100) (it (X9_drunk_B134 (it X9_drunk_B100 (fun _ _ _ _ _ _ _ => none) n100)) (fun _ _ _ _ _ _ _ _ => none) n134) (it (X9_drunk_B149 (it X9_drunk_B100 (fun _ _ _ _ _ _ _ => none) n100) (it (X9_drunk_B134 (it X9_drunk_B100 (fun _ _ _ _ _ _ _ => none) n100)) (fun _ _ _ _ _ _ _ _ => none) n134)) (fun _ _ _ _ _ _ _ _ _ _ => none) n149) z x2 x3 x4 x5 x6 x8 x9 x10 x11 = some q := hf
              unfold X9_drunk_B149 at hf
              refine r_iload hc 9 dX9_drunk_149 rfl ?_
              refine r_aload_n hc 0 dX9_drunk_151 rfl ?_
              refine r_get (v := .int (M_rooms z)) hc iw_X9 0 rfl rfl 0 (by decide) mw_860 rfl dX9_drunk_152 ?_
              refine r_icmp_ge hc 190 dX9_drunk_155 (by decide) (fun c_15 => ?_) (fun c_15 => ?_)
              · have hf := o_pos c_15 hf
                refine r_aload_n hc 0 dX9_drunk_190 rfl ?_
                refine r_get (v := .ref (A 21)) hc iw_X9 0 rfl rfl 27 (by decide) mw_887 rfl dX9_drunk_191 ?_
                refine r_iload hc 7 dX9_drunk_194 rfl ?_
                refine r_dup2_11 hc dX9_drunk_196 rfl rfl ?_
                obtain ⟨i_16, hf⟩ := chk_some hf
                refine r_lald (f := (M_then z)) hc 21 rfl i_16 dX9_drunk_197 ?_
                refine r_aload_n hc 0 dX9_drunk_198 rfl ?_
                refine r_get (v := .ref (A 20)) hc iw_X9 0 rfl rfl 26 (by decide) mw_886 rfl dX9_drunk_199 ?_
                refine r_iload hc 7 dX9_drunk_202 rfl ?_
                obtain ⟨i_17, hf⟩ := chk_some hf
                refine r_lald (f := (M_chances z)) hc 20 rfl i_17 dX9_drunk_204 ?_
                refine r_iload hc 8 dX9_drunk_205 rfl ?_
                refine r_if_ne hc 216 dX9_drunk_207 (by decide) (fun c_18 => ?_) (fun c_18 => ?_)
                · have hf := o_neg c_18 hf
                  refine r_bipush hc (60 : Int32) dX9_drunk_216 rfl ?_
                  refine r_iload_n hc 2 dX9_drunk_218 rfl ?_
                  refine r_imul hc dX9_drunk_219 ?_
                  exact V.sub [0, 1, 2, 3, 4, 5, 6, 7, 8] rfl (J220 z x2 x3 x4 x5 x6 x8 x9 x10 ((60 : Int32) * x3) ((M_chances z) (x9).toNatClampNeg) ((M_then z) (x9).toNatClampNeg) x9 hf)
                · have hf := o_pos c_18 hf
                  refine r_sipush hc (600 : Int32) dX9_drunk_210 rfl ?_
                  refine r_goto hc 220 dX9_drunk_213 (by decide) ?_
                  exact V.sub [0, 1, 2, 3, 4, 5, 6, 7, 8] rfl (J220 z x2 x3 x4 x5 x6 x8 x9 x10 (600 : Int32) ((M_chances z) (x9).toNatClampNeg) ((M_then z) (x9).toNatClampNeg) x9 hf)
              · have hf := o_neg c_15 hf
                refine r_iload hc 8 dX9_drunk_158 rfl ?_
                refine r_aload_n hc 0 dX9_drunk_160 rfl ?_
                refine r_get (v := .ref (A 4)) hc iw_X9 0 rfl rfl 4 (by decide) mw_864 rfl dX9_drunk_161 ?_
                refine r_bipush hc (6 : Int32) dX9_drunk_164 rfl ?_
                refine r_iload hc 7 dX9_drunk_166 rfl ?_
                refine r_imul hc dX9_drunk_168 ?_
                refine r_iload hc 9 dX9_drunk_169 rfl ?_
                refine r_iadd hc dX9_drunk_171 ?_
                obtain ⟨i_19, hf⟩ := chk_some hf
                refine r_iald (f := (M_width z)) hc 4 rfl i_19 dX9_drunk_172 ?_
                refine r_if_le hc 180 dX9_drunk_173 (by decide) (fun c_20 => ?_) (fun c_20 => ?_)
                · have hf := o_pos c_20 hf
                  refine r_iconst hc (0 : Int32) dX9_drunk_180 rfl ?_
                  exact V.sub [0, 1, 2, 3, 4, 5, 6, 7, 9] rfl (J181 z x2 x3 x4 x5 x6 x8 x9 x11 (0 : Int32) x10 hf)
                · have hf := o_neg c_20 hf
                  refine r_iconst hc (1 : Int32) dX9_drunk_176 rfl ?_
                  refine r_goto hc 181 dX9_drunk_177 (by decide) ?_
                  exact V.sub [0, 1, 2, 3, 4, 5, 6, 7, 9] rfl (J181 z x2 x3 x4 x5 x6 x8 x9 x11 (1 : Int32) x10 hf)
          intro z x2 x3 x4 x5 x6 x8 x9 hf
          replace hf : X9_drunk_B134 (it X9_drunk_B100 (fun _ _ _ _ _ _ _ => none) n100) (it (X9_drunk_B134 (it X9_drunk_B100 (fun _ _ _ _ _ _ _ => none) n100)) (fun _ _ _ _ _ _ _ _ => none) n134) z x2 x3 x4 x5 x6 x8 x9 = some q := hf
          unfold X9_drunk_B134 at hf
          refine r_iload hc 7 dX9_drunk_134 rfl ?_
          refine r_aload_n hc 0 dX9_drunk_136 rfl ?_
          refine r_get (v := .int (M_rooms z)) hc iw_X9 0 rfl rfl 0 (by decide) mw_860 rfl dX9_drunk_137 ?_
          refine r_icmp_ge hc 297 dX9_drunk_140 (by decide) (fun c_14 => ?_) (fun c_14 => ?_)
          · have hf := o_pos c_14 hf
            refine r_iconst hc (0 : Int32) dX9_drunk_297 rfl ?_
            refine r_istore hc [(9, .int (0 : Int32)), (0, .ref (A 0)), (2, .int x2), (3, .int x3), (4, .int x4), (5, .int x5), (6, .long x6), (8, .int x8)] dX9_drunk_298 (by decide) rfl ?_
            exact V.sub [1, 2, 3, 4, 5, 6, 7, 0] rfl (L300 FU z x2 x3 x4 x5 x6 x8 (0 : Int32) hf)
          · have hf := o_neg c_14 hf
            refine r_iconst hc (0 : Int32) dX9_drunk_143 rfl ?_
            refine r_istore hc [(10, .int (0 : Int32)), (0, .ref (A 0)), (2, .int x2), (3, .int x3), (4, .int x4), (5, .int x5), (6, .long x6), (8, .int x8), (9, .int x9)] dX9_drunk_144 (by decide) rfl ?_
            refine r_iconst hc (0 : Int32) dX9_drunk_146 rfl ?_
            refine r_istore hc [(11, .int (0 : Int32)), (10, .int (0 : Int32)), (0, .ref (A 0)), (2, .int x2), (3, .int x3), (4, .int x4), (5, .int x5), (6, .long x6), (8, .int x8), (9, .int x9)] dX9_drunk_147 (by decide) rfl ?_
            exact V.sub [2, 3, 4, 5, 6, 7, 8, 9, 1, 0] rfl (L149 FU z x2 x3 x4 x5 x6 x8 x9 (0 : Int32) (0 : Int32) hf)
      have L110 : ∀ (n110 : Nat) (z : MS) (x2 : Int32) (x3 : Int32) (x4 : Int32) (x5 : Int32) (x6 : Int64) (x8 : Int32) (x9 : Int32), it (X9_drunk_B110 (it X9_drunk_B100 (fun _ _ _ _ _ _ _ => none) n100)) (fun _ _ _ _ _ _ _ _ => none) n110 z x2 x3 x4 x5 x6 x8 x9 = some q → V K (wM cy A z) 110 [(0, .ref (A 0)), (2, .int x2), (3, .int x3), (4, .int x4), (5, .int x5), (6, .long x6), (8, .int x8), (9, .int x9)] [] := by
        intro n110
        induction n110 with
        | zero => intro z x2 x3 x4 x5 x6 x8 x9 hf; exact (o_none hf).elim
        | succ n110 ih110 =>
          intro z x2 x3 x4 x5 x6 x8 x9 hf
          replace hf : X9_drunk_B110 (it X9_drunk_B100 (fun _ _ _ _ _ _ _ => none) n100) (it (X9_drunk_B110 (it X9_drunk_B100 (fun _ _ _ _ _ _ _ => none) n100)) (fun _ _ _ _ _ _ _ _ => none) n110) z x2 x3 x4 x5 x6 x8 x9 = some q := hf
          unfold X9_drunk_B110 at hf
          refine r_iload hc 7 dX9_drunk_110 rfl ?_
          refine r_bipush hc (6 : Int32) dX9_drunk_112 rfl ?_
          refine r_icmp_ge hc 131 dX9_drunk_114 (by decide) (fun c_12 => ?_) (fun c_12 => ?_)
          · have hf := o_pos c_12 hf
            refine r_iconst hc (0 : Int32) dX9_drunk_131 rfl ?_
            refine r_istore hc [(9, .int (0 : Int32)), (0, .ref (A 0)), (2, .int x2), (3, .int x3), (4, .int x4), (5, .int x5), (6, .long x6), (8, .int x8)] dX9_drunk_132 (by decide) rfl ?_
            exact V.sub [1, 2, 3, 4, 5, 6, 7, 0] rfl (L134 FU z x2 x3 x4 x5 x6 x8 (0 : Int32) hf)
          · have hf := o_neg c_12 hf
            refine r_aload_n hc 0 dX9_drunk_117 rfl ?_
            refine r_get (v := .ref (A 21)) hc iw_X9 0 rfl rfl 27 (by decide) mw_887 rfl dX9_drunk_118 ?_
            refine r_iload hc 7 dX9_drunk_121 rfl ?_
            refine r_lconst hc (0 : Int64) dX9_drunk_123 rfl ?_
            obtain ⟨i_13, hf⟩ := chk_some hf
            obtain ⟨z124, ez124, hf⟩ := lt_some hf
            refine r_last (f := (M_then z)) hc 21 rfl i_13 dX9_drunk_124 _ rfl (wM cy A z124) (wM_s_then ez124) ?_
            refine r_iinc hc 7 [(9, .int (x9 + (1 : Int32))), (0, .ref (A 0)), (2, .int x2), (3, .int x3), (4, .int x4), (5, .int x5), (6, .long x6), (8, .int x8)] (x9 + (1 : Int32)) dX9_drunk_125 rfl rfl (by decide) rfl ?_
            refine r_goto hc 110 dX9_drunk_128 (by decide) ?_
            exact V.sub [1, 2, 3, 4, 5, 6, 7, 0] rfl (ih110 z124 x2 x3 x4 x5 x6 x8 (x9 + (1 : Int32)) hf)
      intro z x2 x3 x4 x5 x6 x8 hf
      replace hf : X9_drunk_B100 (it X9_drunk_B100 (fun _ _ _ _ _ _ _ => none) n100) z x2 x3 x4 x5 x6 x8 = some q := hf
      unfold X9_drunk_B100 at hf
      refine r_iload hc 6 dX9_drunk_100 rfl ?_
      refine r_iload hc 3 dX9_drunk_102 rfl ?_
      refine r_icmp_ge hc 341 dX9_drunk_104 (by decide) (fun c_10 => ?_) (fun c_10 => ?_)
      · have hf := o_pos c_10 hf
        refine r_aload_n hc 0 dX9_drunk_341 rfl ?_
        refine r_get (v := .ref (A 20)) hc iw_X9 0 rfl rfl 26 (by decide) mw_886 rfl dX9_drunk_342 ?_
        refine r_iload_n hc 1 dX9_drunk_345 rfl ?_
        obtain ⟨i_11, hf⟩ := chk_some hf
        refine r_lald (f := (M_chances z)) hc 20 rfl i_11 dX9_drunk_346 ?_
        refine r_lstore hc [(8, .long ((M_chances z) (x2).toNatClampNeg)), (0, .ref (A 0)), (2, .int x2), (3, .int x3), (4, .int x4), (5, .int x5), (6, .long x6)] dX9_drunk_347 (by decide) rfl ?_
        refine r_lload hc 6 dX9_drunk_349 rfl ?_
        refine r_lstore hc [(10, .long x6), (8, .long ((M_chances z) (x2).toNatClampNeg)), (0, .ref (A 0)), (2, .int x2), (3, .int x3), (4, .int x4), (5, .int x5), (6, .long x6)] dX9_drunk_351 (by decide) rfl ?_
        exact V.sub [2, 3, 6, 7, 1, 0] rfl (L353 FU z x2 x5 x6 ((M_chances z) (x2).toNatClampNeg) x6 hf)
      · have hf := o_neg c_10 hf
        refine r_iconst hc (0 : Int32) dX9_drunk_107 rfl ?_
        refine r_istore hc [(9, .int (0 : Int32)), (0, .ref (A 0)), (2, .int x2), (3, .int x3), (4, .int x4), (5, .int x5), (6, .long x6), (8, .int x8)] dX9_drunk_108 (by decide) rfl ?_
        exact V.sub [1, 2, 3, 4, 5, 6, 7, 0] rfl (L110 FU z x2 x3 x4 x5 x6 x8 (0 : Int32) hf)
  have L58 : ∀ (n58 : Nat) (z : MS) (x1 : Int32) (x2 : Int32) (x3 : Int32) (x4 : Int32) (x5 : Int32) (x6 : Int32), it X9_drunk_B58 (fun _ _ _ _ _ _ _ => none) n58 z x1 x2 x3 x4 x5 x6 = some q → V K (wM cy A z) 58 [(0, .ref (A 0)), (1, .int x1), (2, .int x2), (3, .int x3), (4, .int x4), (5, .int x5), (6, .int x6)] [] := by
    intro n58
    induction n58 with
    | zero => intro z x1 x2 x3 x4 x5 x6 hf; exact (o_none hf).elim
    | succ n58 ih58 =>
      have J87 : ∀ (z : MS) (x1 : Int32) (x2 : Int32) (x3 : Int32) (x4 : Int32) (x5 : Int32) (x6 : Int32) (s0 : Int64) (s1 : Int32), X9_drunk_J87 (it X9_drunk_B58 (fun _ _ _ _ _ _ _ => none) n58) z x1 x2 x3 x4 x5 x6 s0 s1 = some q → V K (wM cy A z) 87 [(0, .ref (A 0)), (1, .int x1), (2, .int x2), (3, .int x3), (4, .int x4), (5, .int x5), (6, .int x6)] [.long s0, .int s1, .ref (A 20)] := by
        intro z x1 x2 x3 x4 x5 x6 s0 s1 hf
        unfold X9_drunk_J87 at hf
        obtain ⟨i_9, hf⟩ := chk_some hf
        obtain ⟨z87, ez87, hf⟩ := lt_some hf
        refine r_last (f := (M_chances z)) hc 20 rfl i_9 dX9_drunk_87 _ rfl (wM cy A z87) (wM_s_chances ez87) ?_
        refine r_iinc hc 6 [(6, .int (x6 + (1 : Int32))), (0, .ref (A 0)), (1, .int x1), (2, .int x2), (3, .int x3), (4, .int x4), (5, .int x5)] (x6 + (1 : Int32)) dX9_drunk_88 rfl rfl (by decide) rfl ?_
        refine r_goto hc 58 dX9_drunk_91 (by decide) ?_
        exact V.sub [1, 2, 3, 4, 5, 6, 0] rfl (ih58 z87 x1 x2 x3 x4 x5 (x6 + (1 : Int32)) hf)
      intro z x1 x2 x3 x4 x5 x6 hf
      replace hf : X9_drunk_B58 (it X9_drunk_B58 (fun _ _ _ _ _ _ _ => none) n58) z x1 x2 x3 x4 x5 x6 = some q := hf
      unfold X9_drunk_B58 at hf
      refine r_iload hc 6 dX9_drunk_58 rfl ?_
      refine r_bipush hc (6 : Int32) dX9_drunk_60 rfl ?_
      refine r_icmp_ge hc 94 dX9_drunk_62 (by decide) (fun c_6 => ?_) (fun c_6 => ?_)
      · have hf := o_pos c_6 hf
        refine r_lconst hc (1 : Int64) dX9_drunk_94 rfl ?_
        refine r_lstore hc [(6, .long (1 : Int64)), (0, .ref (A 0)), (1, .int x1), (2, .int x2), (3, .int x3), (4, .int x4), (5, .int x5)] dX9_drunk_95 (by decide) rfl ?_
        refine r_iconst hc (0 : Int32) dX9_drunk_97 rfl ?_
        refine r_istore hc [(8, .int (0 : Int32)), (6, .long (1 : Int64)), (0, .ref (A 0)), (1, .int x1), (2, .int x2), (3, .int x3), (4, .int x4), (5, .int x5)] dX9_drunk_98 (by decide) rfl ?_
        exact V.sub [2, 4, 5, 6, 7, 1, 0] rfl (L100 FU z x2 x3 x4 x5 (1 : Int64) (0 : Int32) hf)
      · have hf := o_neg c_6 hf
        refine r_aload_n hc 0 dX9_drunk_65 rfl ?_
        refine r_get (v := .ref (A 20)) hc iw_X9 0 rfl rfl 26 (by decide) mw_886 rfl dX9_drunk_66 ?_
        refine r_iload hc 6 dX9_drunk_69 rfl ?_
        refine r_iload hc 6 dX9_drunk_71 rfl ?_
        refine r_aload_n hc 0 dX9_drunk_73 rfl ?_
        refine r_get (v := .ref (A 6)) hc iw_X9 0 rfl rfl 7 (by decide) mw_867 rfl dX9_drunk_74 ?_
        refine r_iload_n hc 1 dX9_drunk_77 rfl ?_
        obtain ⟨i_7, hf⟩ := chk_some hf
        refine r_iald (f := (M_place z)) hc 6 rfl i_7 dX9_drunk_78 ?_
        refine r_icmp_ne hc 86 dX9_drunk_79 (by decide) (fun c_8 => ?_) (fun c_8 => ?_)
        · have hf := o_neg c_8 hf
          refine r_lconst hc (0 : Int64) dX9_drunk_86 rfl ?_
          exact V.sub [0, 1, 2, 3, 4, 5, 6] rfl (J87 z x1 x2 x3 x4 x5 x6 (0 : Int64) x6 hf)
        · have hf := o_pos c_8 hf
          refine r_lconst hc (1 : Int64) dX9_drunk_82 rfl ?_
          refine r_goto hc 87 dX9_drunk_83 (by decide) ?_
          exact V.sub [0, 1, 2, 3, 4, 5, 6] rfl (J87 z x1 x2 x3 x4 x5 x6 (1 : Int64) x6 hf)
  show V K (wM cy A z) 0 [(0, .ref (A 0)), (1, .int x1), (2, .int x2), (3, .int x3), (4, .int x4), (5, .int x5)] []
  unfold f_X9_drunk at hf
  refine r_aload_n hc 0 dX9_drunk_0 rfl ?_
  refine r_iload_n hc 1 dX9_drunk_1 rfl ?_
  obtain ⟨q2, hq2, hf⟩ := o_bind hf
  refine r_callVi (ws' := (wM cy A z)) (As := [.int x1]) (rest := []) hc (c_X9_isThere A z x1 q2 hq2) kv_X9_isThere mw_996 0 rfl rfl _ _ _ (Sp_all _ _) rfl rfl (Nat.le_of_ble_eq_true rfl) ⟨by decide, by decide⟩ dX9_drunk_2 ?_
  refine r_if_eq hc 16 dX9_drunk_5 (by decide) (fun c_1 => ?_) (fun c_1 => ?_)
  · have hf := o_pos c_1 hf
    refine r_ldc2 (v := (-1000000000000000001 : Int64)) hc mw_1203 dX9_drunk_16 ?_
    exact r_lret hK (congrArg (fun z9 => z9.1) (Option.some.inj hf)) (congrArg (fun z9 => (wM cy A z9.2)) (Option.some.inj hf)) dX9_drunk_19
  · have hf := o_neg c_1 hf
    refine r_aload_n hc 0 dX9_drunk_8 rfl ?_
    refine r_iload_n hc 2 dX9_drunk_9 rfl ?_
    obtain ⟨q10, hq10, hf⟩ := o_bind hf
    refine r_callVi (ws' := (wM cy A z)) (As := [.int x2]) (rest := []) hc (c_X9_isRoom A z x2 q10 hq10) kv_X9_isRoom mw_962 0 rfl rfl _ _ _ (Sp_all _ _) rfl rfl (Nat.le_of_ble_eq_true rfl) ⟨by decide, by decide⟩ dX9_drunk_10 ?_
    refine r_if_ne hc 20 dX9_drunk_13 (by decide) (fun c_2 => ?_) (fun c_2 => ?_)
    · have hf := o_neg c_2 hf
      refine r_iload_n hc 3 dX9_drunk_20 rfl ?_
      refine r_iconst hc (0 : Int32) dX9_drunk_21 rfl ?_
      refine r_bipush hc (10 : Int32) dX9_drunk_22 rfl ?_
      obtain ⟨q24, hq24, hf⟩ := o_bind hf
      refine r_callSi (ws' := (wM cy A z)) (As := [.int x3, .int (0 : Int32), .int (10 : Int32)]) (rest := []) hc (c_X9_in  x3 (0 : Int32) (10 : Int32) q24 hq24) ks_X9_in mw_955 _ _ _ (Sp_none _) rfl rfl (Nat.le_of_ble_eq_true rfl) ⟨by decide, by decide⟩ dX9_drunk_24 ?_
      refine r_if_eq hc 51 dX9_drunk_27 (by decide) (fun c_3 => ?_) (fun c_3 => ?_)
      · have hf := o_pos c_3 hf
        refine r_ldc2 (v := (-1000000000000000002 : Int64)) hc mw_1204 dX9_drunk_51 ?_
        exact r_lret hK (congrArg (fun z9 => z9.1) (Option.some.inj hf)) (congrArg (fun z9 => (wM cy A z9.2)) (Option.some.inj hf)) dX9_drunk_54
      · have hf := o_neg c_3 hf
        refine r_iload hc 4 dX9_drunk_30 rfl ?_
        refine r_iconst hc (0 : Int32) dX9_drunk_32 rfl ?_
        refine r_bipush hc (6 : Int32) dX9_drunk_33 rfl ?_
        obtain ⟨q35, hq35, hf⟩ := o_bind hf
        refine r_callSi (ws' := (wM cy A z)) (As := [.int x4, .int (0 : Int32), .int (6 : Int32)]) (rest := []) hc (c_X9_in  x4 (0 : Int32) (6 : Int32) q35 hq35) ks_X9_in mw_955 _ _ _ (Sp_none _) rfl rfl (Nat.le_of_ble_eq_true rfl) ⟨by decide, by decide⟩ dX9_drunk_35 ?_
        refine r_if_eq hc 51 dX9_drunk_38 (by decide) (fun c_4 => ?_) (fun c_4 => ?_)
        · have hf := o_pos c_4 hf
          refine r_ldc2 (v := (-1000000000000000002 : Int64)) hc mw_1204 dX9_drunk_51 ?_
          exact r_lret hK (congrArg (fun z9 => z9.1) (Option.some.inj hf)) (congrArg (fun z9 => (wM cy A z9.2)) (Option.some.inj hf)) dX9_drunk_54
        · have hf := o_neg c_4 hf
          refine r_iload hc 5 dX9_drunk_41 rfl ?_
          refine r_iconst hc (0 : Int32) dX9_drunk_43 rfl ?_
          refine r_iconst hc (1 : Int32) dX9_drunk_44 rfl ?_
          obtain ⟨q45, hq45, hf⟩ := o_bind hf
          refine r_callSi (ws' := (wM cy A z)) (As := [.int x5, .int (0 : Int32), .int (1 : Int32)]) (rest := []) hc (c_X9_in  x5 (0 : Int32) (1 : Int32) q45 hq45) ks_X9_in mw_955 _ _ _ (Sp_none _) rfl rfl (Nat.le_of_ble_eq_true rfl) ⟨by decide, by decide⟩ dX9_drunk_45 ?_
          refine r_if_ne hc 55 dX9_drunk_48 (by decide) (fun c_5 => ?_) (fun c_5 => ?_)
          · have hf := o_neg c_5 hf
            refine r_iconst hc (0 : Int32) dX9_drunk_55 rfl ?_
            refine r_istore hc [(6, .int (0 : Int32)), (0, .ref (A 0)), (1, .int x1), (2, .int x2), (3, .int x3), (4, .int x4), (5, .int x5)] dX9_drunk_56 (by decide) rfl ?_
            exact V.sub [1, 2, 3, 4, 5, 6, 0] rfl (L58 FU z x1 x2 x3 x4 x5 (0 : Int32) hf)
          · have hf := o_pos c_5 hf
            refine r_ldc2 (v := (-1000000000000000002 : Int64)) hc mw_1204 dX9_drunk_51 ?_
            exact r_lret hK (congrArg (fun z9 => z9.1) (Option.some.inj hf)) (congrArg (fun z9 => (wM cy A z9.2)) (Option.some.inj hf)) dX9_drunk_54
    · have hf := o_pos c_2 hf
      refine r_ldc2 (v := (-1000000000000000001 : Int64)) hc mw_1203 dX9_drunk_16 ?_
      exact r_lret hK (congrArg (fun z9 => z9.1) (Option.some.inj hf)) (congrArg (fun z9 => (wM cy A z9.2)) (Option.some.inj hf)) dX9_drunk_19
def X9_year_J123 (k49 : MS → Int32 → Int32 → Int32 → Int32 → Int32 → Int32 → Option (Int32 × MS)) (z : MS) (x2 : Int32) (x3 : Int32) (x4 : Int32) (x5 : Int32) (x6 : Int32) (x7 : Int32) : Option (Int32 × MS) :=
  ((f_X9_pass z).bind fun q126 => (k49 q126.2 x2 x3 x4 (x5 + q126.1) x6 (x7 + (1 : Int32))))
def X9_year_B49 (k49 : MS → Int32 → Int32 → Int32 → Int32 → Int32 → Int32 → Option (Int32 × MS)) (z : MS) (x2 : Int32) (x3 : Int32) (x4 : Int32) (x5 : Int32) (x6 : Int32) (x7 : Int32) : Option (Int32 × MS) :=
  (if x2 ≤ x7 then (if x3 = 0 then (some (x5, z)) else (if x3 = (1 : Int32) then (some (x6, z)) else ((f_X9_countIn z (0 : Int32) (-6 : Int32)).bind fun q161 => (some (q161, z))))) else (if (((((75 : Int32) * x4) + (74 : Int32)) - (((75 : Int32) * x4) + (74 : Int32)) / (65537 : Int32) * (65537 : Int32)) - ((((75 : Int32) * x4) + (74 : Int32)) - (((75 : Int32) * x4) + (74 : Int32)) / (65537 : Int32) * (65537 : Int32)) / (8 : Int32) * (8 : Int32)) = ((((((75 : Int32) * x4) + (74 : Int32)) - (((75 : Int32) * x4) + (74 : Int32)) / (65537 : Int32) * (65537 : Int32)) / (8 : Int32)) - (((((75 : Int32) * x4) + (74 : Int32)) - (((75 : Int32) * x4) + (74 : Int32)) / (65537 : Int32) * (65537 : Int32)) / (8 : Int32)) / (8 : Int32) * (8 : Int32)) then (X9_year_J123 k49 z x2 x3 ((((75 : Int32) * x4) + (74 : Int32)) - (((75 : Int32) * x4) + (74 : Int32)) / (65537 : Int32) * (65537 : Int32)) x5 x6 x7) else ((f_X9_whyNotTalk z (((((75 : Int32) * x4) + (74 : Int32)) - (((75 : Int32) * x4) + (74 : Int32)) / (65537 : Int32) * (65537 : Int32)) - ((((75 : Int32) * x4) + (74 : Int32)) - (((75 : Int32) * x4) + (74 : Int32)) / (65537 : Int32) * (65537 : Int32)) / (8 : Int32) * (8 : Int32)) ((((((75 : Int32) * x4) + (74 : Int32)) - (((75 : Int32) * x4) + (74 : Int32)) / (65537 : Int32) * (65537 : Int32)) / (8 : Int32)) - (((((75 : Int32) * x4) + (74 : Int32)) - (((75 : Int32) * x4) + (74 : Int32)) / (65537 : Int32) * (65537 : Int32)) / (8 : Int32)) / (8 : Int32) * (8 : Int32))).bind fun q97 => (if q97 = 0 then ((f_X9_talk z (((((75 : Int32) * x4) + (74 : Int32)) - (((75 : Int32) * x4) + (74 : Int32)) / (65537 : Int32) * (65537 : Int32)) - ((((75 : Int32) * x4) + (74 : Int32)) - (((75 : Int32) * x4) + (74 : Int32)) / (65537 : Int32) * (65537 : Int32)) / (8 : Int32) * (8 : Int32)) ((((((75 : Int32) * x4) + (74 : Int32)) - (((75 : Int32) * x4) + (74 : Int32)) / (65537 : Int32) * (65537 : Int32)) / (8 : Int32)) - (((((75 : Int32) * x4) + (74 : Int32)) - (((75 : Int32) * x4) + (74 : Int32)) / (65537 : Int32) * (65537 : Int32)) / (8 : Int32)) / (8 : Int32) * (8 : Int32)) ((1 : Int32) + ((((((75 : Int32) * x4) + (74 : Int32)) - (((75 : Int32) * x4) + (74 : Int32)) / (65537 : Int32) * (65537 : Int32)) / (64 : Int32)) - (((((75 : Int32) * x4) + (74 : Int32)) - (((75 : Int32) * x4) + (74 : Int32)) / (65537 : Int32) * (65537 : Int32)) / (64 : Int32)) / (5 : Int32) * (5 : Int32)))).bind fun q117 => (X9_year_J123 k49 q117 x2 x3 ((((75 : Int32) * x4) + (74 : Int32)) - (((75 : Int32) * x4) + (74 : Int32)) / (65537 : Int32) * (65537 : Int32)) x5 (x6 + (1 : Int32)) x7)) else (X9_year_J123 k49 z x2 x3 ((((75 : Int32) * x4) + (74 : Int32)) - (((75 : Int32) * x4) + (74 : Int32)) / (65537 : Int32) * (65537 : Int32)) x5 x6 x7)))))
def f_X9_year (z : MS) (x1 : Int32) (x2 : Int32) (x3 : Int32) : Option (Int32 × MS) :=
  ((f_X9_in x1 (0 : Int32) (9999 : Int32)).bind fun q5 => (if q5 = 0 then (some ((-2 : Int32), z)) else ((f_X9_in x2 (1 : Int32) (99 : Int32)).bind fun q15 => (if q15 = 0 then (some ((-2 : Int32), z)) else ((f_X9_in x3 (0 : Int32) (2 : Int32)).bind fun q24 => (if q24 = 0 then (some ((-2 : Int32), z)) else ((f_X9_asNow z).bind fun q34 => (it X9_year_B49 (fun _ _ _ _ _ _ _ => none) FU q34 x2 x3 x1 (0 : Int32) (0 : Int32) (0 : Int32)))))))))
theorem kv_X9_year : KV RX9 yX9_year cX9_year 10 (some .int) 3 := ⟨mw_1207, mw_1208, mw_65, mw_1209, by decide +kernel⟩
set_option maxHeartbeats 8000000 in
set_option maxRecDepth 100000 in
theorem c_X9_year {l : Launch} {E : va_G} {cy : Nat → ClassId} (A : Nat → Nat) (z : MS) (x1 : Int32) (x2 : Int32) (x3 : Int32) (q : Int32 × MS) (hf : f_X9_year z x1 x2 x3 = some q) : Ci l yX9_year cX9_year 10 (some .int) 6 183 E cy [.ref (A 0), .int x1, .int x2, .int x3] (wM cy A z) q.1 (wM cy A q.2) := by
  refine Ci.of RX9 (by decide) rfl (Nat.le_of_ble_eq_true rfl) ?_
  intro K hK
  have hc := hK.cq
  have L49 : ∀ (n49 : Nat) (z : MS) (x2 : Int32) (x3 : Int32) (x4 : Int32) (x5 : Int32) (x6 : Int32) (x7 : Int32), it X9_year_B49 (fun _ _ _ _ _ _ _ => none) n49 z x2 x3 x4 x5 x6 x7 = some q → V K (wM cy A z) 49 [(0, .ref (A 0)), (2, .int x2), (3, .int x3), (4, .int x4), (5, .int x5), (6, .int x6), (7, .int x7)] [] := by
    intro n49
    induction n49 with
    | zero => intro z x2 x3 x4 x5 x6 x7 hf; exact (o_none hf).elim
    | succ n49 ih49 =>
      have J123 : ∀ (z : MS) (x2 : Int32) (x3 : Int32) (x4 : Int32) (x5 : Int32) (x6 : Int32) (x7 : Int32), X9_year_J123 (it X9_year_B49 (fun _ _ _ _ _ _ _ => none) n49) z x2 x3 x4 x5 x6 x7 = some q → V K (wM cy A z) 123 [(0, .ref (A 0)), (2, .int x2), (3, .int x3), (4, .int x4), (5, .int x5), (6, .int x6), (7, .int x7)] [] := by
        intro z x2 x3 x4 x5 x6 x7 hf
        unfold X9_year_J123 at hf
        refine r_iload hc 4 dX9_year_123 rfl ?_
        refine r_aload_n hc 0 dX9_year_125 rfl ?_
        obtain ⟨q126, hq126, hf⟩ := o_bind hf
        refine r_callVi (ws' := (wM cy A q126.2)) (As := []) (rest := [.int x5]) hc (c_X9_pass A z q126 hq126) kv_X9_pass mw_1032 0 rfl rfl _ _ _ (Sp_all _ _) rfl rfl (Nat.le_of_ble_eq_true rfl) ⟨by decide, by decide⟩ dX9_year_126 ?_
        refine r_iadd hc dX9_year_129 ?_
        refine r_istore hc [(5, .int (x5 + q126.1)), (0, .ref (A 0)), (2, .int x2), (3, .int x3), (4, .int x4), (6, .int x6), (7, .int x7)] dX9_year_130 (by decide) rfl ?_
        refine r_iinc hc 6 [(7, .int (x7 + (1 : Int32))), (5, .int (x5 + q126.1)), (0, .ref (A 0)), (2, .int x2), (3, .int x3), (4, .int x4), (6, .int x6)] (x7 + (1 : Int32)) dX9_year_132 rfl rfl (by decide) rfl ?_
        refine r_goto hc 49 dX9_year_135 (by decide) ?_
        exact V.sub [2, 3, 4, 5, 1, 6, 0] rfl (ih49 q126.2 x2 x3 x4 (x5 + q126.1) x6 (x7 + (1 : Int32)) hf)
      intro z x2 x3 x4 x5 x6 x7 hf
      replace hf : X9_year_B49 (it X9_year_B49 (fun _ _ _ _ _ _ _ => none) n49) z x2 x3 x4 x5 x6 x7 = some q := hf
      unfold X9_year_B49 at hf
      refine r_iload hc 6 dX9_year_49 rfl ?_
      refine r_iload_n hc 1 dX9_year_51 rfl ?_
      refine r_icmp_ge hc 138 dX9_year_52 (by decide) (fun c_4 => ?_) (fun c_4 => ?_)
      · have hf := o_pos c_4 hf
        refine r_iload_n hc 2 dX9_year_138 rfl ?_
        refine r_if_ne hc 147 dX9_year_139 (by decide) (fun c_5 => ?_) (fun c_5 => ?_)
        · have hf := o_neg c_5 hf
          refine r_iload_n hc 2 dX9_year_147 rfl ?_
          refine r_iconst hc (1 : Int32) dX9_year_148 rfl ?_
          refine r_icmp_ne hc 157 dX9_year_149 (by decide) (fun c_6 => ?_) (fun c_6 => ?_)
          · have hf := o_neg c_6 hf
            refine r_aload_n hc 0 dX9_year_157 rfl ?_
            refine r_iconst hc (0 : Int32) dX9_year_158 rfl ?_
            refine r_bipush hc (-6 : Int32) dX9_year_159 rfl ?_
            obtain ⟨q161, hq161, hf⟩ := o_bind hf
            refine r_callVi (ws' := (wM cy A z)) (As := [.int (0 : Int32), .int (-6 : Int32)]) (rest := []) hc (c_X9_countIn A z (0 : Int32) (-6 : Int32) q161 hq161) kv_X9_countIn mw_1048 0 rfl rfl _ _ _ (Sp_all _ _) rfl rfl (Nat.le_of_ble_eq_true rfl) ⟨by decide, by decide⟩ dX9_year_161 ?_
            exact r_iret hK (congrArg (fun z9 => z9.1) (Option.some.inj hf)) (congrArg (fun z9 => (wM cy A z9.2)) (Option.some.inj hf)) dX9_year_164
          · have hf := o_pos c_6 hf
            refine r_iload hc 5 dX9_year_152 rfl ?_
            refine r_goto hc 164 dX9_year_154 (by decide) ?_
            exact r_iret hK (congrArg (fun z9 => z9.1) (Option.some.inj hf)) (congrArg (fun z9 => (wM cy A z9.2)) (Option.some.inj hf)) dX9_year_164
        · have hf := o_pos c_5 hf
          refine r_iload hc 4 dX9_year_142 rfl ?_
          refine r_goto hc 164 dX9_year_144 (by decide) ?_
          exact r_iret hK (congrArg (fun z9 => z9.1) (Option.some.inj hf)) (congrArg (fun z9 => (wM cy A z9.2)) (Option.some.inj hf)) dX9_year_164
      · have hf := o_neg c_4 hf
        refine r_bipush hc (75 : Int32) dX9_year_55 rfl ?_
        refine r_iload hc 3 dX9_year_57 rfl ?_
        refine r_imul hc dX9_year_59 ?_
        refine r_bipush hc (74 : Int32) dX9_year_60 rfl ?_
        refine r_iadd hc dX9_year_62 ?_
        refine r_ldc (v := (65537 : Int32)) hc mw_1210 dX9_year_63 ?_
        refine r_irem hc dX9_year_65 (by decide) ?_
        refine r_istore hc [(4, .int ((((75 : Int32) * x4) + (74 : Int32)) - (((75 : Int32) * x4) + (74 : Int32)) / (65537 : Int32) * (65537 : Int32))), (0, .ref (A 0)), (2, .int x2), (3, .int x3), (5, .int x5), (6, .int x6), (7, .int x7)] dX9_year_66 (by decide) rfl ?_
        refine r_iload hc 0 dX9_year_68 rfl ?_
        refine r_bipush hc (8 : Int32) dX9_year_70 rfl ?_
        refine r_irem hc dX9_year_72 (by decide) ?_
        refine r_istore hc [(8, .int (((((75 : Int32) * x4) + (74 : Int32)) - (((75 : Int32) * x4) + (74 : Int32)) / (65537 : Int32) * (65537 : Int32)) - ((((75 : Int32) * x4) + (74 : Int32)) - (((75 : Int32) * x4) + (74 : Int32)) / (65537 : Int32) * (65537 : Int32)) / (8 : Int32) * (8 : Int32))), (4, .int ((((75 : Int32) * x4) + (74 : Int32)) - (((75 : Int32) * x4) + (74 : Int32)) / (65537 : Int32) * (65537 : Int32))), (0, .ref (A 0)), (2, .int x2), (3, .int x3), (5, .int x5), (6, .int x6), (7, .int x7)] dX9_year_73 (by decide) rfl ?_
        refine r_iload hc 1 dX9_year_75 rfl ?_
        refine r_bipush hc (8 : Int32) dX9_year_77 rfl ?_
        refine r_idiv hc dX9_year_79 (by decide) ?_
        refine r_bipush hc (8 : Int32) dX9_year_80 rfl ?_
        refine r_irem hc dX9_year_82 (by decide) ?_
        refine r_istore hc [(9, .int ((((((75 : Int32) * x4) + (74 : Int32)) - (((75 : Int32) * x4) + (74 : Int32)) / (65537 : Int32) * (65537 : Int32)) / (8 : Int32)) - (((((75 : Int32) * x4) + (74 : Int32)) - (((75 : Int32) * x4) + (74 : Int32)) / (65537 : Int32) * (65537 : Int32)) / (8 : Int32)) / (8 : Int32) * (8 : Int32))), (8, .int (((((75 : Int32) * x4) + (74 : Int32)) - (((75 : Int32) * x4) + (74 : Int32)) / (65537 : Int32) * (65537 : Int32)) - ((((75 : Int32) * x4) + (74 : Int32)) - (((75 : Int32) * x4) + (74 : Int32)) / (65537 : Int32) * (65537 : Int32)) / (8 : Int32) * (8 : Int32))), (4, .int ((((75 : Int32) * x4) + (74 : Int32)) - (((75 : Int32) * x4) + (74 : Int32)) / (65537 : Int32) * (65537 : Int32))), (0, .ref (A 0)), (2, .int x2), (3, .int x3), (5, .int x5), (6, .int x6), (7, .int x7)] dX9_year_83 (by decide) rfl ?_
        refine r_iload hc 1 dX9_year_85 rfl ?_
        refine r_iload hc 0 dX9_year_87 rfl ?_
        refine r_icmp_eq hc 123 dX9_year_89 (by decide) (fun c_7 => ?_) (fun c_7 => ?_)
        · have hf := o_pos c_7 hf
          exact V.sub [3, 4, 5, 2, 6, 7, 8] rfl (J123 z x2 x3 ((((75 : Int32) * x4) + (74 : Int32)) - (((75 : Int32) * x4) + (74 : Int32)) / (65537 : Int32) * (65537 : Int32)) x5 x6 x7 hf)
        · have hf := o_neg c_7 hf
          refine r_aload_n hc 3 dX9_year_92 rfl ?_
          refine r_iload hc 1 dX9_year_93 rfl ?_
          refine r_iload hc 0 dX9_year_95 rfl ?_
          obtain ⟨q97, hq97, hf⟩ := o_bind hf
          refine r_callVi (ws' := (wM cy A z)) (As := [.int (((((75 : Int32) * x4) + (74 : Int32)) - (((75 : Int32) * x4) + (74 : Int32)) / (65537 : Int32) * (65537 : Int32)) - ((((75 : Int32) * x4) + (74 : Int32)) - (((75 : Int32) * x4) + (74 : Int32)) / (65537 : Int32) * (65537 : Int32)) / (8 : Int32) * (8 : Int32)), .int ((((((75 : Int32) * x4) + (74 : Int32)) - (((75 : Int32) * x4) + (74 : Int32)) / (65537 : Int32) * (65537 : Int32)) / (8 : Int32)) - (((((75 : Int32) * x4) + (74 : Int32)) - (((75 : Int32) * x4) + (74 : Int32)) / (65537 : Int32) * (65537 : Int32)) / (8 : Int32)) / (8 : Int32) * (8 : Int32))]) (rest := []) hc (c_X9_whyNotTalk A z (((((75 : Int32) * x4) + (74 : Int32)) - (((75 : Int32) * x4) + (74 : Int32)) / (65537 : Int32) * (65537 : Int32)) - ((((75 : Int32) * x4) + (74 : Int32)) - (((75 : Int32) * x4) + (74 : Int32)) / (65537 : Int32) * (65537 : Int32)) / (8 : Int32) * (8 : Int32)) ((((((75 : Int32) * x4) + (74 : Int32)) - (((75 : Int32) * x4) + (74 : Int32)) / (65537 : Int32) * (65537 : Int32)) / (8 : Int32)) - (((((75 : Int32) * x4) + (74 : Int32)) - (((75 : Int32) * x4) + (74 : Int32)) / (65537 : Int32) * (65537 : Int32)) / (8 : Int32)) / (8 : Int32) * (8 : Int32)) q97 hq97) kv_X9_whyNotTalk mw_1064 0 rfl rfl _ _ _ (Sp_all _ _) rfl rfl (Nat.le_of_ble_eq_true rfl) ⟨by decide, by decide⟩ dX9_year_97 ?_
          refine r_if_ne hc 123 dX9_year_100 (by decide) (fun c_8 => ?_) (fun c_8 => ?_)
          · have hf := o_neg c_8 hf
            exact V.sub [3, 4, 5, 2, 6, 7, 8] rfl (J123 z x2 x3 ((((75 : Int32) * x4) + (74 : Int32)) - (((75 : Int32) * x4) + (74 : Int32)) / (65537 : Int32) * (65537 : Int32)) x5 x6 x7 hf)
          · have hf := o_pos c_8 hf
            refine r_aload_n hc 3 dX9_year_103 rfl ?_
            refine r_iload hc 1 dX9_year_104 rfl ?_
            refine r_iload hc 0 dX9_year_106 rfl ?_
            refine r_iconst hc (1 : Int32) dX9_year_108 rfl ?_
            refine r_iload hc 2 dX9_year_109 rfl ?_
            refine r_bipush hc (64 : Int32) dX9_year_111 rfl ?_
            refine r_idiv hc dX9_year_113 (by decide) ?_
            refine r_iconst hc (5 : Int32) dX9_year_114 rfl ?_
            refine r_irem hc dX9_year_115 (by decide) ?_
            refine r_iadd hc dX9_year_116 ?_
            obtain ⟨q117, hq117, hf⟩ := o_bind hf
            refine r_callVv (ws' := (wM cy A q117)) (As := [.int (((((75 : Int32) * x4) + (74 : Int32)) - (((75 : Int32) * x4) + (74 : Int32)) / (65537 : Int32) * (65537 : Int32)) - ((((75 : Int32) * x4) + (74 : Int32)) - (((75 : Int32) * x4) + (74 : Int32)) / (65537 : Int32) * (65537 : Int32)) / (8 : Int32) * (8 : Int32)), .int ((((((75 : Int32) * x4) + (74 : Int32)) - (((75 : Int32) * x4) + (74 : Int32)) / (65537 : Int32) * (65537 : Int32)) / (8 : Int32)) - (((((75 : Int32) * x4) + (74 : Int32)) - (((75 : Int32) * x4) + (74 : Int32)) / (65537 : Int32) * (65537 : Int32)) / (8 : Int32)) / (8 : Int32) * (8 : Int32)), .int ((1 : Int32) + ((((((75 : Int32) * x4) + (74 : Int32)) - (((75 : Int32) * x4) + (74 : Int32)) / (65537 : Int32) * (65537 : Int32)) / (64 : Int32)) - (((((75 : Int32) * x4) + (74 : Int32)) - (((75 : Int32) * x4) + (74 : Int32)) / (65537 : Int32) * (65537 : Int32)) / (64 : Int32)) / (5 : Int32) * (5 : Int32)))]) (rest := []) hc (c_X9_talk A z (((((75 : Int32) * x4) + (74 : Int32)) - (((75 : Int32) * x4) + (74 : Int32)) / (65537 : Int32) * (65537 : Int32)) - ((((75 : Int32) * x4) + (74 : Int32)) - (((75 : Int32) * x4) + (74 : Int32)) / (65537 : Int32) * (65537 : Int32)) / (8 : Int32) * (8 : Int32)) ((((((75 : Int32) * x4) + (74 : Int32)) - (((75 : Int32) * x4) + (74 : Int32)) / (65537 : Int32) * (65537 : Int32)) / (8 : Int32)) - (((((75 : Int32) * x4) + (74 : Int32)) - (((75 : Int32) * x4) + (74 : Int32)) / (65537 : Int32) * (65537 : Int32)) / (8 : Int32)) / (8 : Int32) * (8 : Int32)) ((1 : Int32) + ((((((75 : Int32) * x4) + (74 : Int32)) - (((75 : Int32) * x4) + (74 : Int32)) / (65537 : Int32) * (65537 : Int32)) / (64 : Int32)) - (((((75 : Int32) * x4) + (74 : Int32)) - (((75 : Int32) * x4) + (74 : Int32)) / (65537 : Int32) * (65537 : Int32)) / (64 : Int32)) / (5 : Int32) * (5 : Int32))) q117 hq117) kv_X9_talk mw_1072 0 rfl rfl _ _ _ (Sp_all _ _) rfl rfl (Nat.le_of_ble_eq_true rfl) ⟨by decide, by decide⟩ dX9_year_117 ?_
            refine r_iinc hc 7 [(6, .int (x6 + (1 : Int32))), (9, .int ((((((75 : Int32) * x4) + (74 : Int32)) - (((75 : Int32) * x4) + (74 : Int32)) / (65537 : Int32) * (65537 : Int32)) / (8 : Int32)) - (((((75 : Int32) * x4) + (74 : Int32)) - (((75 : Int32) * x4) + (74 : Int32)) / (65537 : Int32) * (65537 : Int32)) / (8 : Int32)) / (8 : Int32) * (8 : Int32))), (8, .int (((((75 : Int32) * x4) + (74 : Int32)) - (((75 : Int32) * x4) + (74 : Int32)) / (65537 : Int32) * (65537 : Int32)) - ((((75 : Int32) * x4) + (74 : Int32)) - (((75 : Int32) * x4) + (74 : Int32)) / (65537 : Int32) * (65537 : Int32)) / (8 : Int32) * (8 : Int32))), (4, .int ((((75 : Int32) * x4) + (74 : Int32)) - (((75 : Int32) * x4) + (74 : Int32)) / (65537 : Int32) * (65537 : Int32))), (0, .ref (A 0)), (2, .int x2), (3, .int x3), (5, .int x5), (7, .int x7)] (x6 + (1 : Int32)) dX9_year_120 rfl rfl (by decide) rfl ?_
            exact V.sub [4, 5, 6, 3, 7, 0, 8] rfl (J123 q117 x2 x3 ((((75 : Int32) * x4) + (74 : Int32)) - (((75 : Int32) * x4) + (74 : Int32)) / (65537 : Int32) * (65537 : Int32)) x5 (x6 + (1 : Int32)) x7 hf)
  show V K (wM cy A z) 0 [(0, .ref (A 0)), (1, .int x1), (2, .int x2), (3, .int x3)] []
  unfold f_X9_year at hf
  refine r_iload_n hc 1 dX9_year_0 rfl ?_
  refine r_iconst hc (0 : Int32) dX9_year_1 rfl ?_
  refine r_sipush hc (9999 : Int32) dX9_year_2 rfl ?_
  obtain ⟨q5, hq5, hf⟩ := o_bind hf
  refine r_callSi (ws' := (wM cy A z)) (As := [.int x1, .int (0 : Int32), .int (9999 : Int32)]) (rest := []) hc (c_X9_in  x1 (0 : Int32) (9999 : Int32) q5 hq5) ks_X9_in mw_955 _ _ _ (Sp_none _) rfl rfl (Nat.le_of_ble_eq_true rfl) ⟨by decide, by decide⟩ dX9_year_5 ?_
  refine r_if_eq hc 30 dX9_year_8 (by decide) (fun c_1 => ?_) (fun c_1 => ?_)
  · have hf := o_pos c_1 hf
    refine r_bipush hc (-2 : Int32) dX9_year_30 rfl ?_
    exact r_iret hK (congrArg (fun z9 => z9.1) (Option.some.inj hf)) (congrArg (fun z9 => (wM cy A z9.2)) (Option.some.inj hf)) dX9_year_32
  · have hf := o_neg c_1 hf
    refine r_iload_n hc 2 dX9_year_11 rfl ?_
    refine r_iconst hc (1 : Int32) dX9_year_12 rfl ?_
    refine r_bipush hc (99 : Int32) dX9_year_13 rfl ?_
    obtain ⟨q15, hq15, hf⟩ := o_bind hf
    refine r_callSi (ws' := (wM cy A z)) (As := [.int x2, .int (1 : Int32), .int (99 : Int32)]) (rest := []) hc (c_X9_in  x2 (1 : Int32) (99 : Int32) q15 hq15) ks_X9_in mw_955 _ _ _ (Sp_none _) rfl rfl (Nat.le_of_ble_eq_true rfl) ⟨by decide, by decide⟩ dX9_year_15 ?_
    refine r_if_eq hc 30 dX9_year_18 (by decide) (fun c_2 => ?_) (fun c_2 => ?_)
    · have hf := o_pos c_2 hf
      refine r_bipush hc (-2 : Int32) dX9_year_30 rfl ?_
      exact r_iret hK (congrArg (fun z9 => z9.1) (Option.some.inj hf)) (congrArg (fun z9 => (wM cy A z9.2)) (Option.some.inj hf)) dX9_year_32
    · have hf := o_neg c_2 hf
      refine r_iload_n hc 3 dX9_year_21 rfl ?_
      refine r_iconst hc (0 : Int32) dX9_year_22 rfl ?_
      refine r_iconst hc (2 : Int32) dX9_year_23 rfl ?_
      obtain ⟨q24, hq24, hf⟩ := o_bind hf
      refine r_callSi (ws' := (wM cy A z)) (As := [.int x3, .int (0 : Int32), .int (2 : Int32)]) (rest := []) hc (c_X9_in  x3 (0 : Int32) (2 : Int32) q24 hq24) ks_X9_in mw_955 _ _ _ (Sp_none _) rfl rfl (Nat.le_of_ble_eq_true rfl) ⟨by decide, by decide⟩ dX9_year_24 ?_
      refine r_if_ne hc 33 dX9_year_27 (by decide) (fun c_3 => ?_) (fun c_3 => ?_)
      · have hf := o_neg c_3 hf
        refine r_aload_n hc 0 dX9_year_33 rfl ?_
        obtain ⟨q34, hq34, hf⟩ := o_bind hf
        refine r_callVv (ws' := (wM cy A q34)) (As := []) (rest := []) hc (c_X9_asNow A z q34 hq34) kv_X9_asNow mw_1028 0 rfl rfl _ _ _ (Sp_all _ _) rfl rfl (Nat.le_of_ble_eq_true rfl) ⟨by decide, by decide⟩ dX9_year_34 ?_
        refine r_iload_n hc 1 dX9_year_37 rfl ?_
        refine r_istore hc [(4, .int x1), (0, .ref (A 0)), (1, .int x1), (2, .int x2), (3, .int x3)] dX9_year_38 (by decide) rfl ?_
        refine r_iconst hc (0 : Int32) dX9_year_40 rfl ?_
        refine r_istore hc [(5, .int (0 : Int32)), (4, .int x1), (0, .ref (A 0)), (1, .int x1), (2, .int x2), (3, .int x3)] dX9_year_41 (by decide) rfl ?_
        refine r_iconst hc (0 : Int32) dX9_year_43 rfl ?_
        refine r_istore hc [(6, .int (0 : Int32)), (5, .int (0 : Int32)), (4, .int x1), (0, .ref (A 0)), (1, .int x1), (2, .int x2), (3, .int x3)] dX9_year_44 (by decide) rfl ?_
        refine r_iconst hc (0 : Int32) dX9_year_46 rfl ?_
        refine r_istore hc [(7, .int (0 : Int32)), (6, .int (0 : Int32)), (5, .int (0 : Int32)), (4, .int x1), (0, .ref (A 0)), (1, .int x1), (2, .int x2), (3, .int x3)] dX9_year_47 (by decide) rfl ?_
        exact V.sub [4, 6, 7, 3, 2, 1, 0] rfl (L49 FU q34 x2 x3 x1 (0 : Int32) (0 : Int32) (0 : Int32) hf)
      · have hf := o_pos c_3 hf
        refine r_bipush hc (-2 : Int32) dX9_year_30 rfl ?_
        exact r_iret hK (congrArg (fun z9 => z9.1) (Option.some.inj hf)) (congrArg (fun z9 => (wM cy A z9.2)) (Option.some.inj hf)) dX9_year_32
