def X1_clear_B25 (k25 : HS → Int32 → Option (HS)) (h : HS) (x2 : Int32) : Option (HS) :=
  (if (6 : Int32) ≤ x2 then (ltA (fillA 36 (0 : Int32) (H_width h)) fun f55 => (ltA (fillA 8 (0 : Int32) (H_place h)) fun f63 => (ltA (fillA 8 (0 : Int32) (H_busy h)) fun f71 => (ltA (fillA 8 (-6 : Int32) (H_mate h)) fun f80 => (ltA (fillA 8 (0 : Int32) (H_left h)) fun f88 => (ltA (fillA 40 (0 : Int32) (H_likes h)) fun f96 => (some (((H_rooms h), (H_there h), (H_sights h), (H_measure h), f55, f63, f71, f80, f88, f96, (H_sightGuest h), (H_sightRoom h)))))))))) else (chk ((x2 * (6 : Int32)) + (4 : Int32)) 36 (ltA (upd (H_measure h) (((x2 * (6 : Int32)) + (4 : Int32))).toNatClampNeg (8 : Int32)) fun f43 => (k25 (H_set_measure h f43) (x2 + (1 : Int32))))))
def f_X1_clear (h : HS) (x1 : Int32) : Option (HS) :=
  (ltA (fillA 36 (0 : Int32) (H_measure h)) fun f20 => (it X1_clear_B25 (fun _ _ => none) FU (x1, (0 : Int32), (0 : Int32), f20, (H_width h), (H_place h), (H_busy h), (H_mate h), (H_left h), (H_likes h), (H_sightGuest h), (H_sightRoom h)) (0 : Int32)))
theorem kv_X1_clear : KV RX1 yX1_clear cX1_clear 3 none 1 := ⟨mw_289, mw_290, mw_56, mw_291, by decide +kernel⟩
set_option maxHeartbeats 8000000 in
set_option maxRecDepth 100000 in
theorem c_X1_clear {l : Launch} {E : va_G} {cy : Nat → ClassId} (A : Nat → Nat) (h : HS) (x1 : Int32) (q : HS) (hf : f_X1_clear h x1 = some q) : Cv l yX1_clear cX1_clear 3 none 2 83 E cy [.ref (A 0), .int x1] (wH cy A h) (wH cy A q) := by
  refine Cv.of RX1 (by decide) rfl (Nat.le_of_ble_eq_true rfl) ?_
  intro K hK
  have hc := hK.cq
  have L25 : ∀ (n25 : Nat) (h : HS) (x2 : Int32), it X1_clear_B25 (fun _ _ => none) n25 h x2 = some q → V K (wH cy A h) 25 [(0, .ref (A 0)), (2, .int x2)] [] := by
    intro n25
    induction n25 with
    | zero => intro h x2 hf; exact (o_none hf).elim
    | succ n25 ih25 =>
      intro h x2 hf
      replace hf : X1_clear_B25 (it X1_clear_B25 (fun _ _ => none) n25) h x2 = some q := hf
      unfold X1_clear_B25 at hf
      refine r_iload_n hc 1 dX1_clear_25 rfl ?_
      refine r_bipush hc (6 : Int32) dX1_clear_26 rfl ?_
      refine r_icmp_ge hc 50 dX1_clear_28 (by decide) (fun c_1 => ?_) (fun c_1 => ?_)
      · have hf := o_pos c_1 hf
        refine r_aload_n hc 0 dX1_clear_50 rfl ?_
        refine r_get (v := .ref (A 2)) hc iw_X1 0 rfl rfl 4 (by decide) mw_96 rfl dX1_clear_51 ?_
        refine r_iconst hc (0 : Int32) dX1_clear_54 rfl ?_
        obtain ⟨f55, ef55, hf⟩ := lt_some hf
        refine r_callSv (ws' := (wH cy A (H_set_width h f55))) (As := [.ref (A 2), .int (0 : Int32)]) (rest := []) hc (c_fillA (A 2) 36 (H_width h) (0 : Int32) f55 ef55 (by decide)) ks_fillA mw_292 [2] [0, 1, 3, 4, 5, 6, 7, 8, 9] [0, 1, 9, 2, 3, 4, 5, 6, 7, 8] ⟨rfl, rfl, rfl, rfl, rfl, rfl, rfl⟩ rfl rfl (Nat.le_of_ble_eq_true rfl) ⟨by decide, by decide⟩ dX1_clear_55 ?_
        refine r_aload_n hc 0 dX1_clear_58 rfl ?_
        refine r_get (v := .ref (A 3)) hc iw_X1 0 rfl rfl 5 (by decide) mw_99 rfl dX1_clear_59 ?_
        refine r_iconst hc (0 : Int32) dX1_clear_62 rfl ?_
        obtain ⟨f63, ef63, hf⟩ := lt_some hf
        refine r_callSv (ws' := (wH cy A (H_set_place (H_set_width h f55) f63))) (As := [.ref (A 3), .int (0 : Int32)]) (rest := []) hc (c_fillA (A 3) 8 (H_place h) (0 : Int32) f63 ef63 (by decide)) ks_fillA mw_292 [3] [0, 1, 2, 4, 5, 6, 7, 8, 9] [0, 1, 2, 9, 3, 4, 5, 6, 7, 8] ⟨rfl, rfl, rfl, rfl, rfl, rfl, rfl⟩ rfl rfl (Nat.le_of_ble_eq_true rfl) ⟨by decide, by decide⟩ dX1_clear_63 ?_
        refine r_aload_n hc 0 dX1_clear_66 rfl ?_
        refine r_get (v := .ref (A 4)) hc iw_X1 0 rfl rfl 6 (by decide) mw_103 rfl dX1_clear_67 ?_
        refine r_iconst hc (0 : Int32) dX1_clear_70 rfl ?_
        obtain ⟨f71, ef71, hf⟩ := lt_some hf
        refine r_callSv (ws' := (wH cy A (H_set_busy (H_set_place (H_set_width h f55) f63) f71))) (As := [.ref (A 4), .int (0 : Int32)]) (rest := []) hc (c_fillA (A 4) 8 (H_busy h) (0 : Int32) f71 ef71 (by decide)) ks_fillA mw_292 [4] [0, 1, 2, 3, 5, 6, 7, 8, 9] [0, 1, 2, 3, 9, 4, 5, 6, 7, 8] ⟨rfl, rfl, rfl, rfl, rfl, rfl, rfl⟩ rfl rfl (Nat.le_of_ble_eq_true rfl) ⟨by decide, by decide⟩ dX1_clear_71 ?_
        refine r_aload_n hc 0 dX1_clear_74 rfl ?_
        refine r_get (v := .ref (A 5)) hc iw_X1 0 rfl rfl 7 (by decide) mw_106 rfl dX1_clear_75 ?_
        refine r_bipush hc (-6 : Int32) dX1_clear_78 rfl ?_
        obtain ⟨f80, ef80, hf⟩ := lt_some hf
        refine r_callSv (ws' := (wH cy A ((H_rooms h), (H_there h), (H_sights h), (H_measure h), f55, f63, f71, f80, (H_left h), (H_likes h), (H_sightGuest h), (H_sightRoom h)))) (As := [.ref (A 5), .int (-6 : Int32)]) (rest := []) hc (c_fillA (A 5) 8 (H_mate h) (-6 : Int32) f80 ef80 (by decide)) ks_fillA mw_292 [5] [0, 1, 2, 3, 4, 6, 7, 8, 9] [0, 1, 2, 3, 4, 9, 5, 6, 7, 8] ⟨rfl, rfl, rfl, rfl, rfl, rfl, rfl⟩ rfl rfl (Nat.le_of_ble_eq_true rfl) ⟨by decide, by decide⟩ dX1_clear_80 ?_
        refine r_aload_n hc 0 dX1_clear_83 rfl ?_
        refine r_get (v := .ref (A 6)) hc iw_X1 0 rfl rfl 8 (by decide) mw_108 rfl dX1_clear_84 ?_
        refine r_iconst hc (0 : Int32) dX1_clear_87 rfl ?_
        obtain ⟨f88, ef88, hf⟩ := lt_some hf
        refine r_callSv (ws' := (wH cy A ((H_rooms h), (H_there h), (H_sights h), (H_measure h), f55, f63, f71, f80, f88, (H_likes h), (H_sightGuest h), (H_sightRoom h)))) (As := [.ref (A 6), .int (0 : Int32)]) (rest := []) hc (c_fillA (A 6) 8 (H_left h) (0 : Int32) f88 ef88 (by decide)) ks_fillA mw_292 [6] [0, 1, 2, 3, 4, 5, 7, 8, 9] [0, 1, 2, 3, 4, 5, 9, 6, 7, 8] ⟨rfl, rfl, rfl, rfl, rfl, rfl, rfl⟩ rfl rfl (Nat.le_of_ble_eq_true rfl) ⟨by decide, by decide⟩ dX1_clear_88 ?_
        refine r_aload_n hc 0 dX1_clear_91 rfl ?_
        refine r_get (v := .ref (A 7)) hc iw_X1 0 rfl rfl 9 (by decide) mw_109 rfl dX1_clear_92 ?_
        refine r_iconst hc (0 : Int32) dX1_clear_95 rfl ?_
        obtain ⟨f96, ef96, hf⟩ := lt_some hf
        refine r_callSv (ws' := (wH cy A ((H_rooms h), (H_there h), (H_sights h), (H_measure h), f55, f63, f71, f80, f88, f96, (H_sightGuest h), (H_sightRoom h)))) (As := [.ref (A 7), .int (0 : Int32)]) (rest := []) hc (c_fillA (A 7) 40 (H_likes h) (0 : Int32) f96 ef96 (by decide)) ks_fillA mw_292 [7] [0, 1, 2, 3, 4, 5, 6, 8, 9] [0, 1, 2, 3, 4, 5, 6, 9, 7, 8] ⟨rfl, rfl, rfl, rfl, rfl, rfl, rfl⟩ rfl rfl (Nat.le_of_ble_eq_true rfl) ⟨by decide, by decide⟩ dX1_clear_96 ?_
        exact r_vret hK (congrArg (fun z9 => (wH cy A z9)) (Option.some.inj hf)) dX1_clear_99
      · have hf := o_neg c_1 hf
        refine r_aload_n hc 0 dX1_clear_31 rfl ?_
        refine r_get (v := .ref (A 1)) hc iw_X1 0 rfl rfl 3 (by decide) mw_93 rfl dX1_clear_32 ?_
        refine r_iload_n hc 1 dX1_clear_35 rfl ?_
        refine r_bipush hc (6 : Int32) dX1_clear_36 rfl ?_
        refine r_imul hc dX1_clear_38 ?_
        refine r_iconst hc (4 : Int32) dX1_clear_39 rfl ?_
        refine r_iadd hc dX1_clear_40 ?_
        refine r_bipush hc (8 : Int32) dX1_clear_41 rfl ?_
        obtain ⟨i_2, hf⟩ := chk_some hf
        obtain ⟨f43, ef43, hf⟩ := lt_some hf
        refine r_iast (f := (H_measure h)) hc 1 rfl i_2 dX1_clear_43 f43 ef43 (wH cy A (H_set_measure h f43)) rfl ?_
        refine r_iinc hc 1 [(2, .int (x2 + (1 : Int32))), (0, .ref (A 0))] (x2 + (1 : Int32)) dX1_clear_44 rfl rfl (by decide) rfl ?_
        refine r_goto hc 25 dX1_clear_47 (by decide) ?_
        exact V.sub [1, 0] rfl (ih25 (H_set_measure h f43) (x2 + (1 : Int32)) hf)
  show V K (wH cy A h) 0 [(0, .ref (A 0)), (1, .int x1)] []
  unfold f_X1_clear at hf
  refine r_aload_n hc 0 dX1_clear_0 rfl ?_
  refine r_iload_n hc 1 dX1_clear_1 rfl ?_
  refine r_put hc iw_X1 tyX1 tyX1_ok nmX1 0 rfl rfl 0 (by decide) mw_83 rfl rfl rfl (Nat.le_of_ble_eq_true rfl) dX1_clear_2 (wH cy A (H_set_rooms h x1)) rfl ?_
  refine r_aload_n hc 0 dX1_clear_5 rfl ?_
  refine r_iconst hc (0 : Int32) dX1_clear_6 rfl ?_
  refine r_put hc iw_X1 tyX1 tyX1_ok nmX1 0 rfl rfl 1 (by decide) mw_89 rfl rfl rfl (Nat.le_of_ble_eq_true rfl) dX1_clear_7 (wH cy A (H_set_there (H_set_rooms h x1) (0 : Int32))) rfl ?_
  refine r_aload_n hc 0 dX1_clear_10 rfl ?_
  refine r_iconst hc (0 : Int32) dX1_clear_11 rfl ?_
  refine r_put hc iw_X1 tyX1 tyX1_ok nmX1 0 rfl rfl 2 (by decide) mw_91 rfl rfl rfl (Nat.le_of_ble_eq_true rfl) dX1_clear_12 (wH cy A (H_set_sights (H_set_there (H_set_rooms h x1) (0 : Int32)) (0 : Int32))) rfl ?_
  refine r_aload_n hc 0 dX1_clear_15 rfl ?_
  refine r_get (v := .ref (A 1)) hc iw_X1 0 rfl rfl 3 (by decide) mw_93 rfl dX1_clear_16 ?_
  refine r_iconst hc (0 : Int32) dX1_clear_19 rfl ?_
  obtain ⟨f20, ef20, hf⟩ := lt_some hf
  refine r_callSv (ws' := (wH cy A (x1, (0 : Int32), (0 : Int32), f20, (H_width h), (H_place h), (H_busy h), (H_mate h), (H_left h), (H_likes h), (H_sightGuest h), (H_sightRoom h)))) (As := [.ref (A 1), .int (0 : Int32)]) (rest := []) hc (c_fillA (A 1) 36 (H_measure h) (0 : Int32) f20 ef20 (by decide)) ks_fillA mw_292 [1] [0, 2, 3, 4, 5, 6, 7, 8, 9] [0, 9, 1, 2, 3, 4, 5, 6, 7, 8] ⟨rfl, rfl, rfl, rfl, rfl, rfl, rfl⟩ rfl rfl (Nat.le_of_ble_eq_true rfl) ⟨by decide, by decide⟩ dX1_clear_20 ?_
  refine r_iconst hc (0 : Int32) dX1_clear_23 rfl ?_
  refine r_istore_n hc [(2, .int (0 : Int32)), (0, .ref (A 0)), (1, .int x1)] dX1_clear_24 (by decide) rfl ?_
  exact V.sub [1, 0] rfl (L25 FU (x1, (0 : Int32), (0 : Int32), f20, (H_width h), (H_place h), (H_busy h), (H_mate h), (H_left h), (H_likes h), (H_sightGuest h), (H_sightRoom h)) (0 : Int32) hf)
