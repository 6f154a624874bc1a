def f_X1_engage (h : HS) (x1 : Int32) (x2 : Int32) (x3 : Int32) (x4 : Int32) : Option (HS) :=
  (chk x1 8 (ltA (upd (H_busy h) (x1).toNatClampNeg x2) fun f6 => (chk x1 8 (ltA (upd (H_mate h) (x1).toNatClampNeg x3) fun f13 => (chk x1 8 (ltA (upd (H_left h) (x1).toNatClampNeg x4) fun f21 => (some ((H_set_left (H_set_mate (H_set_busy h f6) f13) f21)))))))))
theorem kv_X1_engage : KV RX1 yX1_engage cX1_engage 5 none 4 := ⟨mw_397, mw_0, mw_56, mw_398, by decide +kernel⟩
set_option maxHeartbeats 8000000 in
set_option maxRecDepth 100000 in
theorem c_X1_engage {l : Launch} {E : va_G} {cy : Nat → ClassId} (A : Nat → Nat) (h : HS) (x1 : Int32) (x2 : Int32) (x3 : Int32) (x4 : Int32) (q : HS) (hf : f_X1_engage h x1 x2 x3 x4 = some q) : Cv l yX1_engage cX1_engage 5 none 1 60 E cy [.ref (A 0), .int x1, .int x2, .int x3, .int x4] (wH cy A h) (wH cy A q) := by
  refine Cv.of RX1 (by decide) rfl (Nat.le_of_ble_eq_true rfl) ?_
  intro K hK
  have hc := hK.cq
  show V K (wH cy A h) 0 [(0, .ref (A 0)), (1, .int x1), (2, .int x2), (3, .int x3), (4, .int x4)] []
  unfold f_X1_engage at hf
  refine r_aload_n hc 0 dX1_engage_0 rfl ?_
  refine r_get (v := .ref (A 4)) hc iw_X1 0 rfl rfl 6 (by decide) mw_103 rfl dX1_engage_1 ?_
  refine r_iload_n hc 1 dX1_engage_4 rfl ?_
  refine r_iload_n hc 2 dX1_engage_5 rfl ?_
  obtain ⟨i_1, hf⟩ := chk_some hf
  obtain ⟨f6, ef6, hf⟩ := lt_some hf
  refine r_iast (f := (H_busy h)) hc 4 rfl i_1 dX1_engage_6 f6 ef6 (wH cy A (H_set_busy h f6)) rfl ?_
  refine r_aload_n hc 0 dX1_engage_7 rfl ?_
  refine r_get (v := .ref (A 5)) hc iw_X1 0 rfl rfl 7 (by decide) mw_106 rfl dX1_engage_8 ?_
  refine r_iload_n hc 1 dX1_engage_11 rfl ?_
  refine r_iload_n hc 3 dX1_engage_12 rfl ?_
  obtain ⟨i_2, hf⟩ := chk_some hf
  obtain ⟨f13, ef13, hf⟩ := lt_some hf
  refine r_iast (f := (H_mate h)) hc 5 rfl i_2 dX1_engage_13 f13 ef13 (wH cy A (H_set_mate (H_set_busy h f6) f13)) rfl ?_
  refine r_aload_n hc 0 dX1_engage_14 rfl ?_
  refine r_get (v := .ref (A 6)) hc iw_X1 0 rfl rfl 8 (by decide) mw_108 rfl dX1_engage_15 ?_
  refine r_iload_n hc 1 dX1_engage_18 rfl ?_
  refine r_iload hc 4 dX1_engage_19 rfl ?_
  obtain ⟨i_3, hf⟩ := chk_some hf
  obtain ⟨f21, ef21, hf⟩ := lt_some hf
  refine r_iast (f := (H_left h)) hc 6 rfl i_3 dX1_engage_21 f21 ef21 (wH cy A (H_set_left (H_set_mate (H_set_busy h f6) f13) f21)) rfl ?_
  exact r_vret hK (congrArg (fun z9 => (wH cy A z9)) (Option.some.inj hf)) dX1_engage_22
def X1_rise_J34 (h : HS) (x1 : Int32) : Option (HS) :=
  ((f_X1_engage h x1 (0 : Int32) (-6 : Int32) (0 : Int32)).bind fun q40 => (some (q40)))
def f_X1_rise (h : HS) (x1 : Int32) : Option (HS) :=
  (chk x1 8 (chk x1 8 (if ((H_busy h) (x1).toNatClampNeg) = (1 : Int32) then ((f_X1_isThere h ((H_mate h) (x1).toNatClampNeg)).bind fun q19 => (if q19 = 0 then (X1_rise_J34 h x1) else ((f_X1_engage h ((H_mate h) (x1).toNatClampNeg) (0 : Int32) (-6 : Int32) (0 : Int32)).bind fun q31 => (X1_rise_J34 q31 x1)))) else (X1_rise_J34 h x1))))
theorem kv_X1_rise : KV RX1 yX1_rise cX1_rise 3 none 1 := ⟨mw_392, mw_393, mw_56, mw_394, by decide +kernel⟩
set_option maxHeartbeats 8000000 in
set_option maxRecDepth 100000 in
theorem c_X1_rise {l : Launch} {E : va_G} {cy : Nat → ClassId} (A : Nat → Nat) (h : HS) (x1 : Int32) (q : HS) (hf : f_X1_rise h x1 = some q) : Cv l yX1_rise cX1_rise 3 none 2 84 E cy [.ref (A 0), .int x1] (wH cy A h) (wH cy A q) := by
  refine Cv.of RX1 (by decide) rfl (Nat.le_of_ble_eq_true rfl) ?_
  intro K hK
  have hc := hK.cq
  have J34 : ∀ (h : HS) (x1 : Int32), X1_rise_J34  h x1 = some q → V K (wH cy A h) 34 [(0, .ref (A 0)), (1, .int x1)] [] := by
    intro h x1 hf
    unfold X1_rise_J34 at hf
    refine r_aload_n hc 0 dX1_rise_34 rfl ?_
    refine r_iload_n hc 1 dX1_rise_35 rfl ?_
    refine r_iconst hc (0 : Int32) dX1_rise_36 rfl ?_
    refine r_bipush hc (-6 : Int32) dX1_rise_37 rfl ?_
    refine r_iconst hc (0 : Int32) dX1_rise_39 rfl ?_
    obtain ⟨q40, hq40, hf⟩ := o_bind hf
    refine r_callVv (ws' := (wH cy A q40)) (As := [.int x1, .int (0 : Int32), .int (-6 : Int32), .int (0 : Int32)]) (rest := []) hc (c_X1_engage A h x1 (0 : Int32) (-6 : Int32) (0 : Int32) q40 hq40) kv_X1_engage mw_395 0 rfl rfl _ _ _ (Sp_all _ _) rfl rfl (Nat.le_of_ble_eq_true rfl) ⟨by decide, by decide⟩ dX1_rise_40 ?_
    exact r_vret hK (congrArg (fun z9 => (wH cy A z9)) (Option.some.inj hf)) dX1_rise_43
  show V K (wH cy A h) 0 [(0, .ref (A 0)), (1, .int x1)] []
  unfold f_X1_rise at hf
  refine r_aload_n hc 0 dX1_rise_0 rfl ?_
  refine r_get (v := .ref (A 5)) hc iw_X1 0 rfl rfl 7 (by decide) mw_106 rfl dX1_rise_1 ?_
  refine r_iload_n hc 1 dX1_rise_4 rfl ?_
  obtain ⟨i_1, hf⟩ := chk_some hf
  refine r_iald (f := (H_mate h)) hc 5 rfl i_1 dX1_rise_5 ?_
  refine r_istore_n hc [(2, .int ((H_mate h) (x1).toNatClampNeg)), (0, .ref (A 0)), (1, .int x1)] dX1_rise_6 (by decide) rfl ?_
  refine r_aload_n hc 1 dX1_rise_7 rfl ?_
  refine r_get (v := .ref (A 4)) hc iw_X1 0 rfl rfl 6 (by decide) mw_103 rfl dX1_rise_8 ?_
  refine r_iload_n hc 2 dX1_rise_11 rfl ?_
  obtain ⟨i_2, hf⟩ := chk_some hf
  refine r_iald (f := (H_busy h)) hc 4 rfl i_2 dX1_rise_12 ?_
  refine r_iconst hc (1 : Int32) dX1_rise_13 rfl ?_
  refine r_icmp_ne hc 34 dX1_rise_14 (by decide) (fun c_3 => ?_) (fun c_3 => ?_)
  · have hf := o_neg c_3 hf
    exact V.sub [1, 2] rfl (J34 h x1 hf)
  · have hf := o_pos c_3 hf
    refine r_aload_n hc 1 dX1_rise_17 rfl ?_
    refine r_iload_n hc 0 dX1_rise_18 rfl ?_
    obtain ⟨q19, hq19, hf⟩ := o_bind hf
    refine r_callVi (ws' := (wH cy A h)) (As := [.int ((H_mate h) (x1).toNatClampNeg)]) (rest := []) hc (c_X1_isThere A h ((H_mate h) (x1).toNatClampNeg) q19 hq19) kv_X1_isThere mw_349 0 rfl rfl _ _ _ (Sp_all _ _) rfl rfl (Nat.le_of_ble_eq_true rfl) ⟨by decide, by decide⟩ dX1_rise_19 ?_
    refine r_if_eq hc 34 dX1_rise_22 (by decide) (fun c_4 => ?_) (fun c_4 => ?_)
    · have hf := o_pos c_4 hf
      exact V.sub [1, 2] rfl (J34 h x1 hf)
    · have hf := o_neg c_4 hf
      refine r_aload_n hc 1 dX1_rise_25 rfl ?_
      refine r_iload_n hc 0 dX1_rise_26 rfl ?_
      refine r_iconst hc (0 : Int32) dX1_rise_27 rfl ?_
      refine r_bipush hc (-6 : Int32) dX1_rise_28 rfl ?_
      refine r_iconst hc (0 : Int32) dX1_rise_30 rfl ?_
      obtain ⟨q31, hq31, hf⟩ := o_bind hf
      refine r_callVv (ws' := (wH cy A q31)) (As := [.int ((H_mate h) (x1).toNatClampNeg), .int (0 : Int32), .int (-6 : Int32), .int (0 : Int32)]) (rest := []) hc (c_X1_engage A h ((H_mate h) (x1).toNatClampNeg) (0 : Int32) (-6 : Int32) (0 : Int32) q31 hq31) kv_X1_engage mw_395 0 rfl rfl _ _ _ (Sp_all _ _) rfl rfl (Nat.le_of_ble_eq_true rfl) ⟨by decide, by decide⟩ dX1_rise_31 ?_
      exact V.sub [1, 2] rfl (J34 q31 x1 hf)
def X1_dismiss_B28 (k28 : HS → Int32 → Int32 → Option (HS)) (h : HS) (x1 : Int32) (x2 : Int32) : Option (HS) :=
  (if (5 : Int32) ≤ x2 then (some (h)) else (chk ((x1 * (5 : Int32)) + x2) 40 (ltA (upd (H_likes h) (((x1 * (5 : Int32)) + x2)).toNatClampNeg (0 : Int32)) fun f43 => (k28 (H_set_likes h f43) x1 (x2 + (1 : Int32))))))
def f_X1_dismiss (h : HS) (x1 : Int32) : Option (HS) :=
  ((f_X1_rise h x1).bind fun q2 => (chk x1 8 (ltA (upd (H_place q2) (x1).toNatClampNeg (0 : Int32)) fun f25 => (it X1_dismiss_B28 (fun _ _ _ => none) FU (H_set_place (H_set_there q2 ((H_there q2) &&& (((1 : Int32) <<< (x1 &&& 31)) ^^^ (-1 : Int32)))) f25) x1 (0 : Int32)))))
theorem kv_X1_dismiss : KV RX1 yX1_dismiss cX1_dismiss 3 none 1 := ⟨mw_388, mw_389, mw_56, mw_390, by decide +kernel⟩
set_option maxHeartbeats 8000000 in
set_option maxRecDepth 100000 in
theorem c_X1_dismiss {l : Launch} {E : va_G} {cy : Nat → ClassId} (A : Nat → Nat) (h : HS) (x1 : Int32) (q : HS) (hf : f_X1_dismiss h x1 = some q) : Cv l yX1_dismiss cX1_dismiss 3 none 3 106 E cy [.ref (A 0), .int x1] (wH cy A h) (wH cy A q) := by
  refine Cv.of RX1 (by decide) rfl (Nat.le_of_ble_eq_true rfl) ?_
  intro K hK
  have hc := hK.cq
  have L28 : ∀ (n28 : Nat) (h : HS) (x1 : Int32) (x2 : Int32), it X1_dismiss_B28 (fun _ _ _ => none) n28 h x1 x2 = some q → V K (wH cy A h) 28 [(0, .ref (A 0)), (1, .int x1), (2, .int x2)] [] := by
    intro n28
    induction n28 with
    | zero => intro h x1 x2 hf; exact (o_none hf).elim
    | succ n28 ih28 =>
      intro h x1 x2 hf
      replace hf : X1_dismiss_B28 (it X1_dismiss_B28 (fun _ _ _ => none) n28) h x1 x2 = some q := hf
      unfold X1_dismiss_B28 at hf
      refine r_iload_n hc 2 dX1_dismiss_28 rfl ?_
      refine r_iconst hc (5 : Int32) dX1_dismiss_29 rfl ?_
      refine r_icmp_ge hc 50 dX1_dismiss_30 (by decide) (fun c_2 => ?_) (fun c_2 => ?_)
      · have hf := o_pos c_2 hf
        exact r_vret hK (congrArg (fun z9 => (wH cy A z9)) (Option.some.inj hf)) dX1_dismiss_50
      · have hf := o_neg c_2 hf
        refine r_aload_n hc 0 dX1_dismiss_33 rfl ?_
        refine r_get (v := .ref (A 7)) hc iw_X1 0 rfl rfl 9 (by decide) mw_109 rfl dX1_dismiss_34 ?_
        refine r_iload_n hc 1 dX1_dismiss_37 rfl ?_
        refine r_iconst hc (5 : Int32) dX1_dismiss_38 rfl ?_
        refine r_imul hc dX1_dismiss_39 ?_
        refine r_iload_n hc 2 dX1_dismiss_40 rfl ?_
        refine r_iadd hc dX1_dismiss_41 ?_
        refine r_iconst hc (0 : Int32) dX1_dismiss_42 rfl ?_
        obtain ⟨i_3, hf⟩ := chk_some hf
        obtain ⟨f43, ef43, hf⟩ := lt_some hf
        refine r_iast (f := (H_likes h)) hc 7 rfl i_3 dX1_dismiss_43 f43 ef43 (wH cy A (H_set_likes h f43)) rfl ?_
        refine r_iinc hc 2 [(2, .int (x2 + (1 : Int32))), (0, .ref (A 0)), (1, .int x1)] (x2 + (1 : Int32)) dX1_dismiss_44 rfl rfl (by decide) rfl ?_
        refine r_goto hc 28 dX1_dismiss_47 (by decide) ?_
        exact V.sub [1, 2, 0] rfl (ih28 (H_set_likes h f43) x1 (x2 + (1 : Int32)) hf)
  show V K (wH cy A h) 0 [(0, .ref (A 0)), (1, .int x1)] []
  unfold f_X1_dismiss at hf
  refine r_aload_n hc 0 dX1_dismiss_0 rfl ?_
  refine r_iload_n hc 1 dX1_dismiss_1 rfl ?_
  obtain ⟨q2, hq2, hf⟩ := o_bind hf
  refine r_callVv (ws' := (wH cy A q2)) (As := [.int x1]) (rest := []) hc (c_X1_rise A h x1 q2 hq2) kv_X1_rise mw_391 0 rfl rfl _ _ _ (Sp_all _ _) rfl rfl (Nat.le_of_ble_eq_true rfl) ⟨by decide, by decide⟩ dX1_dismiss_2 ?_
  refine r_aload_n hc 0 dX1_dismiss_5 rfl ?_
  refine r_dup hc dX1_dismiss_6 rfl ?_
  refine r_get (v := .int (H_there q2)) hc iw_X1 0 rfl rfl 1 (by decide) mw_89 rfl dX1_dismiss_7 ?_
  refine r_iconst hc (1 : Int32) dX1_dismiss_10 rfl ?_
  refine r_iload_n hc 1 dX1_dismiss_11 rfl ?_
  refine r_ishl hc dX1_dismiss_12 ?_
  refine r_iconst hc (-1 : Int32) dX1_dismiss_13 rfl ?_
  refine r_ixor hc dX1_dismiss_14 ?_
  refine r_iand hc dX1_dismiss_15 ?_
  refine r_put hc iw_X1 tyX1 tyX1_ok nmX1 0 rfl rfl 1 (by decide) mw_89 rfl rfl rfl (Nat.le_of_ble_eq_true rfl) dX1_dismiss_16 (wH cy A (H_set_there q2 ((H_there q2) &&& (((1 : Int32) <<< (x1 &&& 31)) ^^^ (-1 : Int32))))) rfl ?_
  refine r_aload_n hc 0 dX1_dismiss_19 rfl ?_
  refine r_get (v := .ref (A 3)) hc iw_X1 0 rfl rfl 5 (by decide) mw_99 rfl dX1_dismiss_20 ?_
  refine r_iload_n hc 1 dX1_dismiss_23 rfl ?_
  refine r_iconst hc (0 : Int32) dX1_dismiss_24 rfl ?_
  obtain ⟨i_1, hf⟩ := chk_some hf
  obtain ⟨f25, ef25, hf⟩ := lt_some hf
  refine r_iast (f := (H_place q2)) hc 3 rfl i_1 dX1_dismiss_25 f25 ef25 (wH cy A (H_set_place (H_set_there q2 ((H_there q2) &&& (((1 : Int32) <<< (x1 &&& 31)) ^^^ (-1 : Int32)))) f25)) rfl ?_
  refine r_iconst hc (0 : Int32) dX1_dismiss_26 rfl ?_
  refine r_istore_n hc [(2, .int (0 : Int32)), (0, .ref (A 0)), (1, .int x1)] dX1_dismiss_27 (by decide) rfl ?_
  exact V.sub [1, 2, 0] rfl (L28 FU (H_set_place (H_set_there q2 ((H_there q2) &&& (((1 : Int32) <<< (x1 &&& 31)) ^^^ (-1 : Int32)))) f25) x1 (0 : Int32) hf)
def f_X1_whyNotTalk (h : HS) (x1 : Int32) (x2 : Int32) : Option (Int32) :=
  ((f_X1_isThere h x1).bind fun q2 => (if q2 = 0 then (some ((1 : Int32))) else ((f_X1_isThere h x2).bind fun q10 => (if q10 = 0 then (some ((1 : Int32))) else (chk x1 8 (if ((H_busy h) (x1).toNatClampNeg) = 0 then (chk x2 8 (if ((H_busy h) (x2).toNatClampNeg) = 0 then (chk x1 8 (chk x2 8 (if ((H_place h) (x1).toNatClampNeg) = ((H_place h) (x2).toNatClampNeg) then (some ((0 : Int32))) else (some ((3 : Int32)))))) else (some ((2 : Int32))))) else (some ((2 : Int32)))))))))
theorem kv_X1_whyNotTalk : KV RX1 yX1_whyNotTalk cX1_whyNotTalk 3 (some .int) 2 := ⟨mw_543, mw_544, mw_56, mw_545, by decide +kernel⟩
set_option maxHeartbeats 8000000 in
set_option maxRecDepth 100000 in
theorem c_X1_whyNotTalk {l : Launch} {E : va_G} {cy : Nat → ClassId} (A : Nat → Nat) (h : HS) (x1 : Int32) (x2 : Int32) (q : Int32) (hf : f_X1_whyNotTalk h x1 x2 = some q) : Ci l yX1_whyNotTalk cX1_whyNotTalk 3 (some .int) 2 81 E cy [.ref (A 0), .int x1, .int x2] (wH cy A h) q (wH cy A h) := by
  refine Ci.of RX1 (by decide) rfl (Nat.le_of_ble_eq_true rfl) ?_
  intro K hK
  have hc := hK.cq
  show V K (wH cy A h) 0 [(0, .ref (A 0)), (1, .int x1), (2, .int x2)] []
  unfold f_X1_whyNotTalk at hf
  refine r_aload_n hc 0 dX1_whyNotTalk_0 rfl ?_
  refine r_iload_n hc 1 dX1_whyNotTalk_1 rfl ?_
  obtain ⟨q2, hq2, hf⟩ := o_bind hf
  refine r_callVi (ws' := (wH cy A h)) (As := [.int x1]) (rest := []) hc (c_X1_isThere A h x1 q2 hq2) kv_X1_isThere mw_349 0 rfl rfl _ _ _ (Sp_all _ _) rfl rfl (Nat.le_of_ble_eq_true rfl) ⟨by decide, by decide⟩ dX1_whyNotTalk_2 ?_
  refine r_if_eq hc 16 dX1_whyNotTalk_5 (by decide) (fun c_1 => ?_) (fun c_1 => ?_)
  · have hf := o_pos c_1 hf
    refine r_iconst hc (1 : Int32) dX1_whyNotTalk_16 rfl ?_
    exact r_iret hK (Option.some.inj hf) rfl dX1_whyNotTalk_17
  · have hf := o_neg c_1 hf
    refine r_aload_n hc 0 dX1_whyNotTalk_8 rfl ?_
    refine r_iload_n hc 2 dX1_whyNotTalk_9 rfl ?_
    obtain ⟨q10, hq10, hf⟩ := o_bind hf
    refine r_callVi (ws' := (wH cy A h)) (As := [.int x2]) (rest := []) hc (c_X1_isThere A h x2 q10 hq10) kv_X1_isThere mw_349 0 rfl rfl _ _ _ (Sp_all _ _) rfl rfl (Nat.le_of_ble_eq_true rfl) ⟨by decide, by decide⟩ dX1_whyNotTalk_10 ?_
    refine r_if_ne hc 18 dX1_whyNotTalk_13 (by decide) (fun c_2 => ?_) (fun c_2 => ?_)
    · have hf := o_neg c_2 hf
      refine r_aload_n hc 0 dX1_whyNotTalk_18 rfl ?_
      refine r_get (v := .ref (A 4)) hc iw_X1 0 rfl rfl 6 (by decide) mw_103 rfl dX1_whyNotTalk_19 ?_
      refine r_iload_n hc 1 dX1_whyNotTalk_22 rfl ?_
      obtain ⟨i_3, hf⟩ := chk_some hf
      refine r_iald (f := (H_busy h)) hc 4 rfl i_3 dX1_whyNotTalk_23 ?_
      refine r_if_ne hc 36 dX1_whyNotTalk_24 (by decide) (fun c_4 => ?_) (fun c_4 => ?_)
      · have hf := o_neg c_4 hf
        refine r_iconst hc (2 : Int32) dX1_whyNotTalk_36 rfl ?_
        exact r_iret hK (Option.some.inj hf) rfl dX1_whyNotTalk_37
      · have hf := o_pos c_4 hf
        refine r_aload_n hc 0 dX1_whyNotTalk_27 rfl ?_
        refine r_get (v := .ref (A 4)) hc iw_X1 0 rfl rfl 6 (by decide) mw_103 rfl dX1_whyNotTalk_28 ?_
        refine r_iload_n hc 2 dX1_whyNotTalk_31 rfl ?_
        obtain ⟨i_5, hf⟩ := chk_some hf
        refine r_iald (f := (H_busy h)) hc 4 rfl i_5 dX1_whyNotTalk_32 ?_
        refine r_if_eq hc 38 dX1_whyNotTalk_33 (by decide) (fun c_6 => ?_) (fun c_6 => ?_)
        · have hf := o_pos c_6 hf
          refine r_aload_n hc 0 dX1_whyNotTalk_38 rfl ?_
          refine r_get (v := .ref (A 3)) hc iw_X1 0 rfl rfl 5 (by decide) mw_99 rfl dX1_whyNotTalk_39 ?_
          refine r_iload_n hc 1 dX1_whyNotTalk_42 rfl ?_
          obtain ⟨i_7, hf⟩ := chk_some hf
          refine r_iald (f := (H_place h)) hc 3 rfl i_7 dX1_whyNotTalk_43 ?_
          refine r_aload_n hc 0 dX1_whyNotTalk_44 rfl ?_
          refine r_get (v := .ref (A 3)) hc iw_X1 0 rfl rfl 5 (by decide) mw_99 rfl dX1_whyNotTalk_45 ?_
          refine r_iload_n hc 2 dX1_whyNotTalk_48 rfl ?_
          obtain ⟨i_8, hf⟩ := chk_some hf
          refine r_iald (f := (H_place h)) hc 3 rfl i_8 dX1_whyNotTalk_49 ?_
          refine r_icmp_eq hc 57 dX1_whyNotTalk_50 (by decide) (fun c_9 => ?_) (fun c_9 => ?_)
          · have hf := o_pos c_9 hf
            refine r_iconst hc (0 : Int32) dX1_whyNotTalk_57 rfl ?_
            exact r_iret hK (Option.some.inj hf) rfl dX1_whyNotTalk_58
          · have hf := o_neg c_9 hf
            refine r_iconst hc (3 : Int32) dX1_whyNotTalk_53 rfl ?_
            refine r_goto hc 58 dX1_whyNotTalk_54 (by decide) ?_
            exact r_iret hK (Option.some.inj hf) rfl dX1_whyNotTalk_58
        · have hf := o_neg c_6 hf
          refine r_iconst hc (2 : Int32) dX1_whyNotTalk_36 rfl ?_
          exact r_iret hK (Option.some.inj hf) rfl dX1_whyNotTalk_37
    · have hf := o_pos c_2 hf
      refine r_iconst hc (1 : Int32) dX1_whyNotTalk_16 rfl ?_
      exact r_iret hK (Option.some.inj hf) rfl dX1_whyNotTalk_17
def f_X1_whyNotSit (h : HS) (x1 : Int32) : Option (Int32) :=
  ((f_X1_isThere h x1).bind fun q2 => (if q2 = 0 then (some ((1 : Int32))) else (chk x1 8 (if ((H_busy h) (x1).toNatClampNeg) = 0 then (chk x1 8 ((f_X1_sitters h ((H_place h) (x1).toNatClampNeg)).bind fun q30 => (chk ((((H_place h) (x1).toNatClampNeg) * (6 : Int32)) + (5 : Int32)) 36 (if q30 < ((H_measure h) (((((H_place h) (x1).toNatClampNeg) * (6 : Int32)) + (5 : Int32))).toNatClampNeg) then (some ((0 : Int32))) else (some ((4 : Int32))))))) else (some ((2 : Int32)))))))
theorem kv_X1_whyNotSit : KV RX1 yX1_whyNotSit cX1_whyNotSit 3 (some .int) 1 := ⟨mw_517, mw_518, mw_56, mw_519, by decide +kernel⟩
set_option maxHeartbeats 8000000 in
set_option maxRecDepth 100000 in
theorem c_X1_whyNotSit {l : Launch} {E : va_G} {cy : Nat → ClassId} (A : Nat → Nat) (h : HS) (x1 : Int32) (q : Int32) (hf : f_X1_whyNotSit h x1 = some q) : Ci l yX1_whyNotSit cX1_whyNotSit 3 (some .int) 2 83 E cy [.ref (A 0), .int x1] (wH cy A h) q (wH cy A h) := by
  refine Ci.of RX1 (by decide) rfl (Nat.le_of_ble_eq_true rfl) ?_
  intro K hK
  have hc := hK.cq
  show V K (wH cy A h) 0 [(0, .ref (A 0)), (1, .int x1)] []
  unfold f_X1_whyNotSit at hf
  refine r_aload_n hc 0 dX1_whyNotSit_0 rfl ?_
  refine r_iload_n hc 1 dX1_whyNotSit_1 rfl ?_
  obtain ⟨q2, hq2, hf⟩ := o_bind hf
  refine r_callVi (ws' := (wH cy A h)) (As := [.int x1]) (rest := []) hc (c_X1_isThere A h x1 q2 hq2) kv_X1_isThere mw_349 0 rfl rfl _ _ _ (Sp_all _ _) rfl rfl (Nat.le_of_ble_eq_true rfl) ⟨by decide, by decide⟩ dX1_whyNotSit_2 ?_
  refine r_if_ne hc 10 dX1_whyNotSit_5 (by decide) (fun c_1 => ?_) (fun c_1 => ?_)
  · have hf := o_neg c_1 hf
    refine r_aload_n hc 0 dX1_whyNotSit_10 rfl ?_
    refine r_get (v := .ref (A 4)) hc iw_X1 0 rfl rfl 6 (by decide) mw_103 rfl dX1_whyNotSit_11 ?_
    refine r_iload_n hc 1 dX1_whyNotSit_14 rfl ?_
    obtain ⟨i_2, hf⟩ := chk_some hf
    refine r_iald (f := (H_busy h)) hc 4 rfl i_2 dX1_whyNotSit_15 ?_
    refine r_if_eq hc 21 dX1_whyNotSit_16 (by decide) (fun c_3 => ?_) (fun c_3 => ?_)
    · have hf := o_pos c_3 hf
      refine r_aload_n hc 0 dX1_whyNotSit_21 rfl ?_
      refine r_get (v := .ref (A 3)) hc iw_X1 0 rfl rfl 5 (by decide) mw_99 rfl dX1_whyNotSit_22 ?_
      refine r_iload_n hc 1 dX1_whyNotSit_25 rfl ?_
      obtain ⟨i_4, hf⟩ := chk_some hf
      refine r_iald (f := (H_place h)) hc 3 rfl i_4 dX1_whyNotSit_26 ?_
      refine r_istore_n hc [(2, .int ((H_place h) (x1).toNatClampNeg)), (0, .ref (A 0)), (1, .int x1)] dX1_whyNotSit_27 (by decide) rfl ?_
      refine r_aload_n hc 1 dX1_whyNotSit_28 rfl ?_
      refine r_iload_n hc 0 dX1_whyNotSit_29 rfl ?_
      obtain ⟨q30, hq30, hf⟩ := o_bind hf
      refine r_callVi (ws' := (wH cy A h)) (As := [.int ((H_place h) (x1).toNatClampNeg)]) (rest := []) hc (c_X1_sitters A h ((H_place h) (x1).toNatClampNeg) q30 hq30) kv_X1_sitters mw_520 0 rfl rfl _ _ _ (Sp_all _ _) rfl rfl (Nat.le_of_ble_eq_true rfl) ⟨by decide, by decide⟩ dX1_whyNotSit_30 ?_
      refine r_aload_n hc 1 dX1_whyNotSit_33 rfl ?_
      refine r_get (v := .ref (A 1)) hc iw_X1 0 rfl rfl 3 (by decide) mw_93 rfl dX1_whyNotSit_34 ?_
      refine r_iload_n hc 0 dX1_whyNotSit_37 rfl ?_
      refine r_bipush hc (6 : Int32) dX1_whyNotSit_38 rfl ?_
      refine r_imul hc dX1_whyNotSit_40 ?_
      refine r_iconst hc (5 : Int32) dX1_whyNotSit_41 rfl ?_
      refine r_iadd hc dX1_whyNotSit_42 ?_
      obtain ⟨i_5, hf⟩ := chk_some hf
      refine r_iald (f := (H_measure h)) hc 1 rfl i_5 dX1_whyNotSit_43 ?_
      refine r_icmp_lt hc 51 dX1_whyNotSit_44 (by decide) (fun c_6 => ?_) (fun c_6 => ?_)
      · have hf := o_pos c_6 hf
        refine r_iconst hc (0 : Int32) dX1_whyNotSit_51 rfl ?_
        exact r_iret hK (Option.some.inj hf) rfl dX1_whyNotSit_52
      · have hf := o_neg c_6 hf
        refine r_iconst hc (4 : Int32) dX1_whyNotSit_47 rfl ?_
        refine r_goto hc 52 dX1_whyNotSit_48 (by decide) ?_
        exact r_iret hK (Option.some.inj hf) rfl dX1_whyNotSit_52
    · have hf := o_neg c_3 hf
      refine r_iconst hc (2 : Int32) dX1_whyNotSit_19 rfl ?_
      exact r_iret hK (Option.some.inj hf) rfl dX1_whyNotSit_20
  · have hf := o_pos c_1 hf
    refine r_iconst hc (1 : Int32) dX1_whyNotSit_8 rfl ?_
    exact r_iret hK (Option.some.inj hf) rfl dX1_whyNotSit_9
def f_X1_whyNotBlock (h : HS) (x1 : Int32) (x2 : Int32) : Option (Int32) :=
  ((f_X1_isThere h x1).bind fun q2 => (if q2 = 0 then (some ((1 : Int32))) else (chk x1 8 (if ((H_busy h) (x1).toNatClampNeg) = 0 then (chk x1 8 ((f_X1_widthOf h ((H_place h) (x1).toNatClampNeg) x2).bind fun q29 => (if q29 = 0 then (some ((5 : Int32))) else (some ((0 : Int32)))))) else (some ((2 : Int32)))))))
theorem kv_X1_whyNotBlock : KV RX1 yX1_whyNotBlock cX1_whyNotBlock 3 (some .int) 2 := ⟨mw_531, mw_532, mw_56, mw_533, by decide +kernel⟩
set_option maxHeartbeats 8000000 in
set_option maxRecDepth 100000 in
theorem c_X1_whyNotBlock {l : Launch} {E : va_G} {cy : Nat → ClassId} (A : Nat → Nat) (h : HS) (x1 : Int32) (x2 : Int32) (q : Int32) (hf : f_X1_whyNotBlock h x1 x2 = some q) : Ci l yX1_whyNotBlock cX1_whyNotBlock 3 (some .int) 2 82 E cy [.ref (A 0), .int x1, .int x2] (wH cy A h) q (wH cy A h) := by
  refine Ci.of RX1 (by decide) rfl (Nat.le_of_ble_eq_true rfl) ?_
  intro K hK
  have hc := hK.cq
  show V K (wH cy A h) 0 [(0, .ref (A 0)), (1, .int x1), (2, .int x2)] []
  unfold f_X1_whyNotBlock at hf
  refine r_aload_n hc 0 dX1_whyNotBlock_0 rfl ?_
  refine r_iload_n hc 1 dX1_whyNotBlock_1 rfl ?_
  obtain ⟨q2, hq2, hf⟩ := o_bind hf
  refine r_callVi (ws' := (wH cy A h)) (As := [.int x1]) (rest := []) hc (c_X1_isThere A h x1 q2 hq2) kv_X1_isThere mw_349 0 rfl rfl _ _ _ (Sp_all _ _) rfl rfl (Nat.le_of_ble_eq_true rfl) ⟨by decide, by decide⟩ dX1_whyNotBlock_2 ?_
  refine r_if_ne hc 10 dX1_whyNotBlock_5 (by decide) (fun c_1 => ?_) (fun c_1 => ?_)
  · have hf := o_neg c_1 hf
    refine r_aload_n hc 0 dX1_whyNotBlock_10 rfl ?_
    refine r_get (v := .ref (A 4)) hc iw_X1 0 rfl rfl 6 (by decide) mw_103 rfl dX1_whyNotBlock_11 ?_
    refine r_iload_n hc 1 dX1_whyNotBlock_14 rfl ?_
    obtain ⟨i_2, hf⟩ := chk_some hf
    refine r_iald (f := (H_busy h)) hc 4 rfl i_2 dX1_whyNotBlock_15 ?_
    refine r_if_eq hc 21 dX1_whyNotBlock_16 (by decide) (fun c_3 => ?_) (fun c_3 => ?_)
    · have hf := o_pos c_3 hf
      refine r_aload_n hc 0 dX1_whyNotBlock_21 rfl ?_
      refine r_aload_n hc 0 dX1_whyNotBlock_22 rfl ?_
      refine r_get (v := .ref (A 3)) hc iw_X1 0 rfl rfl 5 (by decide) mw_99 rfl dX1_whyNotBlock_23 ?_
      refine r_iload_n hc 1 dX1_whyNotBlock_26 rfl ?_
      obtain ⟨i_4, hf⟩ := chk_some hf
      refine r_iald (f := (H_place h)) hc 3 rfl i_4 dX1_whyNotBlock_27 ?_
      refine r_iload_n hc 2 dX1_whyNotBlock_28 rfl ?_
      obtain ⟨q29, hq29, hf⟩ := o_bind hf
      refine r_callVi (ws' := (wH cy A h)) (As := [.int ((H_place h) (x1).toNatClampNeg), .int x2]) (rest := []) hc (c_X1_widthOf A h ((H_place h) (x1).toNatClampNeg) x2 q29 hq29) kv_X1_widthOf mw_534 0 rfl rfl _ _ _ (Sp_all _ _) rfl rfl (Nat.le_of_ble_eq_true rfl) ⟨by decide, by decide⟩ dX1_whyNotBlock_29 ?_
      refine r_if_ne hc 39 dX1_whyNotBlock_32 (by decide) (fun c_5 => ?_) (fun c_5 => ?_)
      · have hf := o_neg c_5 hf
        refine r_iconst hc (0 : Int32) dX1_whyNotBlock_39 rfl ?_
        exact r_iret hK (Option.some.inj hf) rfl dX1_whyNotBlock_40
      · have hf := o_pos c_5 hf
        refine r_iconst hc (5 : Int32) dX1_whyNotBlock_35 rfl ?_
        refine r_goto hc 40 dX1_whyNotBlock_36 (by decide) ?_
        exact r_iret hK (Option.some.inj hf) rfl dX1_whyNotBlock_40
    · have hf := o_neg c_3 hf
      refine r_iconst hc (2 : Int32) dX1_whyNotBlock_19 rfl ?_
      exact r_iret hK (Option.some.inj hf) rfl dX1_whyNotBlock_20
  · have hf := o_pos c_1 hf
    refine r_iconst hc (1 : Int32) dX1_whyNotBlock_8 rfl ?_
    exact r_iret hK (Option.some.inj hf) rfl dX1_whyNotBlock_9
def f_X1_whyNotRise (h : HS) (x1 : Int32) : Option (Int32) :=
  ((f_X1_isThere h x1).bind fun q2 => (if q2 = 0 then (some ((1 : Int32))) else (chk x1 8 (if ((H_busy h) (x1).toNatClampNeg) = 0 then (some ((2 : Int32))) else (some ((0 : Int32)))))))
theorem kv_X1_whyNotRise : KV RX1 yX1_whyNotRise cX1_whyNotRise 2 (some .int) 1 := ⟨mw_526, mw_527, mw_56, mw_528, by decide +kernel⟩
set_option maxHeartbeats 8000000 in
set_option maxRecDepth 100000 in
theorem c_X1_whyNotRise {l : Launch} {E : va_G} {cy : Nat → ClassId} (A : Nat → Nat) (h : HS) (x1 : Int32) (q : Int32) (hf : f_X1_whyNotRise h x1 = some q) : Ci l yX1_whyNotRise cX1_whyNotRise 2 (some .int) 2 81 E cy [.ref (A 0), .int x1] (wH cy A h) q (wH cy A h) := by
  refine Ci.of RX1 (by decide) rfl (Nat.le_of_ble_eq_true rfl) ?_
  intro K hK
  have hc := hK.cq
  show V K (wH cy A h) 0 [(0, .ref (A 0)), (1, .int x1)] []
  unfold f_X1_whyNotRise at hf
  refine r_aload_n hc 0 dX1_whyNotRise_0 rfl ?_
  refine r_iload_n hc 1 dX1_whyNotRise_1 rfl ?_
  obtain ⟨q2, hq2, hf⟩ := o_bind hf
  refine r_callVi (ws' := (wH cy A h)) (As := [.int x1]) (rest := []) hc (c_X1_isThere A h x1 q2 hq2) kv_X1_isThere mw_349 0 rfl rfl _ _ _ (Sp_all _ _) rfl rfl (Nat.le_of_ble_eq_true rfl) ⟨by decide, by decide⟩ dX1_whyNotRise_2 ?_
  refine r_if_ne hc 10 dX1_whyNotRise_5 (by decide) (fun c_1 => ?_) (fun c_1 => ?_)
  · have hf := o_neg c_1 hf
    refine r_aload_n hc 0 dX1_whyNotRise_10 rfl ?_
    refine r_get (v := .ref (A 4)) hc iw_X1 0 rfl rfl 6 (by decide) mw_103 rfl dX1_whyNotRise_11 ?_
    refine r_iload_n hc 1 dX1_whyNotRise_14 rfl ?_
    obtain ⟨i_2, hf⟩ := chk_some hf
    refine r_iald (f := (H_busy h)) hc 4 rfl i_2 dX1_whyNotRise_15 ?_
    refine r_if_ne hc 23 dX1_whyNotRise_16 (by decide) (fun c_3 => ?_) (fun c_3 => ?_)
    · have hf := o_neg c_3 hf
      refine r_iconst hc (0 : Int32) dX1_whyNotRise_23 rfl ?_
      exact r_iret hK (Option.some.inj hf) rfl dX1_whyNotRise_24
    · have hf := o_pos c_3 hf
      refine r_iconst hc (2 : Int32) dX1_whyNotRise_19 rfl ?_
      refine r_goto hc 24 dX1_whyNotRise_20 (by decide) ?_
      exact r_iret hK (Option.some.inj hf) rfl dX1_whyNotRise_24
  · have hf := o_pos c_1 hf
    refine r_iconst hc (1 : Int32) dX1_whyNotRise_8 rfl ?_
    exact r_iret hK (Option.some.inj hf) rfl dX1_whyNotRise_9
def X1_whyNotCarry_J42 (h : HS) (x1 : Int32) (x2 : Int32) (x4 : Int32) (s0 : Int32) : Option (Int32) :=
  (if x1 = x2 then (some ((6 : Int32))) else (if x4 = 0 then (some ((6 : Int32))) else (if s0 = 0 then (some ((6 : Int32))) else (some ((0 : Int32))))))
def X1_whyNotCarry_J19 (h : HS) (x1 : Int32) (x2 : Int32) (x3 : Int32) (s0 : Int32) : Option (Int32) :=
  (chk ((x2 * (6 : Int32)) + x3) 36 (if (9 : Int32) ≤ ((H_measure h) (((x2 * (6 : Int32)) + x3)).toNatClampNeg) then (X1_whyNotCarry_J42 h x1 x2 s0 (0 : Int32)) else (X1_whyNotCarry_J42 h x1 x2 s0 (1 : Int32))))
def f_X1_whyNotCarry (h : HS) (x1 : Int32) (x2 : Int32) (x3 : Int32) : Option (Int32) :=
  (chk ((x1 * (6 : Int32)) + x3) 36 (if ((H_measure h) (((x1 * (6 : Int32)) + x3)).toNatClampNeg) ≤ 0 then (X1_whyNotCarry_J19 h x1 x2 x3 (0 : Int32)) else (X1_whyNotCarry_J19 h x1 x2 x3 (1 : Int32))))
theorem kv_X1_whyNotCarry : KV RX1 yX1_whyNotCarry cX1_whyNotCarry 6 (some .int) 3 := ⟨mw_554, mw_555, mw_56, mw_556, by decide +kernel⟩
set_option maxHeartbeats 8000000 in
set_option maxRecDepth 100000 in
theorem c_X1_whyNotCarry {l : Launch} {E : va_G} {cy : Nat → ClassId} (A : Nat → Nat) (h : HS) (x1 : Int32) (x2 : Int32) (x3 : Int32) (q : Int32) (hf : f_X1_whyNotCarry h x1 x2 x3 = some q) : Ci l yX1_whyNotCarry cX1_whyNotCarry 6 (some .int) 1 60 E cy [.ref (A 0), .int x1, .int x2, .int x3] (wH cy A h) q (wH cy A h) := by
  refine Ci.of RX1 (by decide) rfl (Nat.le_of_ble_eq_true rfl) ?_
  intro K hK
  have hc := hK.cq
  have J42 : ∀ (x1 : Int32) (x2 : Int32) (x4 : Int32) (s0 : Int32), X1_whyNotCarry_J42  h x1 x2 x4 s0 = some q → V K (wH cy A h) 42 [(1, .int x1), (2, .int x2), (4, .int x4)] [.int s0] := by
    intro x1 x2 x4 s0 hf
    unfold X1_whyNotCarry_J42 at hf
    refine r_istore hc [(5, .int s0), (1, .int x1), (2, .int x2), (4, .int x4)] dX1_whyNotCarry_42 (by decide) rfl ?_
    refine r_iload_n hc 1 dX1_whyNotCarry_44 rfl ?_
    refine r_iload_n hc 2 dX1_whyNotCarry_45 rfl ?_
    refine r_icmp_eq hc 63 dX1_whyNotCarry_46 (by decide) (fun c_5 => ?_) (fun c_5 => ?_)
    · have hf := o_pos c_5 hf
      refine r_bipush hc (6 : Int32) dX1_whyNotCarry_63 rfl ?_
      exact r_iret hK (Option.some.inj hf) rfl dX1_whyNotCarry_65
    · have hf := o_neg c_5 hf
      refine r_iload hc 3 dX1_whyNotCarry_49 rfl ?_
      refine r_if_eq hc 63 dX1_whyNotCarry_51 (by decide) (fun c_6 => ?_) (fun c_6 => ?_)
      · have hf := o_pos c_6 hf
        refine r_bipush hc (6 : Int32) dX1_whyNotCarry_63 rfl ?_
        exact r_iret hK (Option.some.inj hf) rfl dX1_whyNotCarry_65
      · have hf := o_neg c_6 hf
        refine r_iload hc 0 dX1_whyNotCarry_54 rfl ?_
        refine r_if_eq hc 63 dX1_whyNotCarry_56 (by decide) (fun c_7 => ?_) (fun c_7 => ?_)
        · have hf := o_pos c_7 hf
          refine r_bipush hc (6 : Int32) dX1_whyNotCarry_63 rfl ?_
          exact r_iret hK (Option.some.inj hf) rfl dX1_whyNotCarry_65
        · have hf := o_neg c_7 hf
          refine r_iconst hc (0 : Int32) dX1_whyNotCarry_59 rfl ?_
          refine r_goto hc 65 dX1_whyNotCarry_60 (by decide) ?_
          exact r_iret hK (Option.some.inj hf) rfl dX1_whyNotCarry_65
  have J19 : ∀ (x1 : Int32) (x2 : Int32) (x3 : Int32) (s0 : Int32), X1_whyNotCarry_J19  h x1 x2 x3 s0 = some q → V K (wH cy A h) 19 [(0, .ref (A 0)), (1, .int x1), (2, .int x2), (3, .int x3)] [.int s0] := by
    intro x1 x2 x3 s0 hf
    unfold X1_whyNotCarry_J19 at hf
    refine r_istore hc [(4, .int s0), (0, .ref (A 0)), (1, .int x1), (2, .int x2), (3, .int x3)] dX1_whyNotCarry_19 (by decide) rfl ?_
    refine r_aload_n hc 1 dX1_whyNotCarry_21 rfl ?_
    refine r_get (v := .ref (A 1)) hc iw_X1 0 rfl rfl 3 (by decide) mw_93 rfl dX1_whyNotCarry_22 ?_
    refine r_iload_n hc 3 dX1_whyNotCarry_25 rfl ?_
    refine r_bipush hc (6 : Int32) dX1_whyNotCarry_26 rfl ?_
    refine r_imul hc dX1_whyNotCarry_28 ?_
    refine r_iload_n hc 4 dX1_whyNotCarry_29 rfl ?_
    refine r_iadd hc dX1_whyNotCarry_30 ?_
    obtain ⟨i_3, hf⟩ := chk_some hf
    refine r_iald (f := (H_measure h)) hc 1 rfl i_3 dX1_whyNotCarry_31 ?_
    refine r_bipush hc (9 : Int32) dX1_whyNotCarry_32 rfl ?_
    refine r_icmp_ge hc 41 dX1_whyNotCarry_34 (by decide) (fun c_4 => ?_) (fun c_4 => ?_)
    · have hf := o_pos c_4 hf
      refine r_iconst hc (0 : Int32) dX1_whyNotCarry_41 rfl ?_
      exact V.sub [2, 3, 0] rfl (J42 x1 x2 s0 (0 : Int32) hf)
    · have hf := o_neg c_4 hf
      refine r_iconst hc (1 : Int32) dX1_whyNotCarry_37 rfl ?_
      refine r_goto hc 42 dX1_whyNotCarry_38 (by decide) ?_
      exact V.sub [2, 3, 0] rfl (J42 x1 x2 s0 (1 : Int32) hf)
  show V K (wH cy A h) 0 [(0, .ref (A 0)), (1, .int x1), (2, .int x2), (3, .int x3)] []
  unfold f_X1_whyNotCarry at hf
  refine r_aload_n hc 0 dX1_whyNotCarry_0 rfl ?_
  refine r_get (v := .ref (A 1)) hc iw_X1 0 rfl rfl 3 (by decide) mw_93 rfl dX1_whyNotCarry_1 ?_
  refine r_iload_n hc 1 dX1_whyNotCarry_4 rfl ?_
  refine r_bipush hc (6 : Int32) dX1_whyNotCarry_5 rfl ?_
  refine r_imul hc dX1_whyNotCarry_7 ?_
  refine r_iload_n hc 3 dX1_whyNotCarry_8 rfl ?_
  refine r_iadd hc dX1_whyNotCarry_9 ?_
  obtain ⟨i_1, hf⟩ := chk_some hf
  refine r_iald (f := (H_measure h)) hc 1 rfl i_1 dX1_whyNotCarry_10 ?_
  refine r_if_le hc 18 dX1_whyNotCarry_11 (by decide) (fun c_2 => ?_) (fun c_2 => ?_)
  · have hf := o_pos c_2 hf
    refine r_iconst hc (0 : Int32) dX1_whyNotCarry_18 rfl ?_
    exact V.sub [0, 1, 2, 3] rfl (J19 x1 x2 x3 (0 : Int32) hf)
  · have hf := o_neg c_2 hf
    refine r_iconst hc (1 : Int32) dX1_whyNotCarry_14 rfl ?_
    refine r_goto hc 19 dX1_whyNotCarry_15 (by decide) ?_
    exact V.sub [0, 1, 2, 3] rfl (J19 x1 x2 x3 (1 : Int32) hf)
def f_X1_talk (h : HS) (x1 : Int32) (x2 : Int32) (x3 : Int32) : Option (HS) :=
  ((f_X1_engage h x1 (1 : Int32) x2 x3).bind fun q5 => ((f_X1_engage q5 x2 (1 : Int32) x1 x3).bind fun q13 => (some (q13))))
theorem kv_X1_talk : KV RX1 yX1_talk cX1_talk 4 none 3 := ⟨mw_547, mw_548, mw_56, mw_549, by decide +kernel⟩
set_option maxHeartbeats 8000000 in
set_option maxRecDepth 100000 in
theorem c_X1_talk {l : Launch} {E : va_G} {cy : Nat → ClassId} (A : Nat → Nat) (h : HS) (x1 : Int32) (x2 : Int32) (x3 : Int32) (q : HS) (hf : f_X1_talk h x1 x2 x3 = some q) : Cv l yX1_talk cX1_talk 4 none 2 84 E cy [.ref (A 0), .int x1, .int x2, .int x3] (wH cy A h) (wH cy A q) := by
  refine Cv.of RX1 (by decide) rfl (Nat.le_of_ble_eq_true rfl) ?_
  intro K hK
  have hc := hK.cq
  show V K (wH cy A h) 0 [(0, .ref (A 0)), (1, .int x1), (2, .int x2), (3, .int x3)] []
  unfold f_X1_talk at hf
  refine r_aload_n hc 0 dX1_talk_0 rfl ?_
  refine r_iload_n hc 1 dX1_talk_1 rfl ?_
  refine r_iconst hc (1 : Int32) dX1_talk_2 rfl ?_
  refine r_iload_n hc 2 dX1_talk_3 rfl ?_
  refine r_iload_n hc 3 dX1_talk_4 rfl ?_
  obtain ⟨q5, hq5, hf⟩ := o_bind hf
  refine r_callVv (ws' := (wH cy A q5)) (As := [.int x1, .int (1 : Int32), .int x2, .int x3]) (rest := []) hc (c_X1_engage A h x1 (1 : Int32) x2 x3 q5 hq5) kv_X1_engage mw_395 0 rfl rfl _ _ _ (Sp_all _ _) rfl rfl (Nat.le_of_ble_eq_true rfl) ⟨by decide, by decide⟩ dX1_talk_5 ?_
  refine r_aload_n hc 0 dX1_talk_8 rfl ?_
  refine r_iload_n hc 2 dX1_talk_9 rfl ?_
  refine r_iconst hc (1 : Int32) dX1_talk_10 rfl ?_
  refine r_iload_n hc 1 dX1_talk_11 rfl ?_
  refine r_iload_n hc 3 dX1_talk_12 rfl ?_
  obtain ⟨q13, hq13, hf⟩ := o_bind hf
  refine r_callVv (ws' := (wH cy A q13)) (As := [.int x2, .int (1 : Int32), .int x1, .int x3]) (rest := []) hc (c_X1_engage A q5 x2 (1 : Int32) x1 x3 q13 hq13) kv_X1_engage mw_395 0 rfl rfl _ _ _ (Sp_all _ _) rfl rfl (Nat.le_of_ble_eq_true rfl) ⟨by decide, by decide⟩ dX1_talk_13 ?_
  exact r_vret hK (congrArg (fun z9 => (wH cy A z9)) (Option.some.inj hf)) dX1_talk_16
def f_X1_sit (h : HS) (x1 : Int32) : Option (HS) :=
  ((f_X1_engage h x1 (2 : Int32) (-6 : Int32) (0 : Int32)).bind fun q6 => (some (q6)))
theorem kv_X1_sit : KV RX1 yX1_sit cX1_sit 2 none 1 := ⟨mw_522, mw_523, mw_56, mw_524, by decide +kernel⟩
set_option maxHeartbeats 8000000 in
set_option maxRecDepth 100000 in
theorem c_X1_sit {l : Launch} {E : va_G} {cy : Nat → ClassId} (A : Nat → Nat) (h : HS) (x1 : Int32) (q : HS) (hf : f_X1_sit h x1 = some q) : Cv l yX1_sit cX1_sit 2 none 2 84 E cy [.ref (A 0), .int x1] (wH cy A h) (wH cy A q) := by
  refine Cv.of RX1 (by decide) rfl (Nat.le_of_ble_eq_true rfl) ?_
  intro K hK
  have hc := hK.cq
  show V K (wH cy A h) 0 [(0, .ref (A 0)), (1, .int x1)] []
  unfold f_X1_sit at hf
  refine r_aload_n hc 0 dX1_sit_0 rfl ?_
  refine r_iload_n hc 1 dX1_sit_1 rfl ?_
  refine r_iconst hc (2 : Int32) dX1_sit_2 rfl ?_
  refine r_bipush hc (-6 : Int32) dX1_sit_3 rfl ?_
  refine r_iconst hc (0 : Int32) dX1_sit_5 rfl ?_
  obtain ⟨q6, hq6, hf⟩ := o_bind hf
  refine r_callVv (ws' := (wH cy A q6)) (As := [.int x1, .int (2 : Int32), .int (-6 : Int32), .int (0 : Int32)]) (rest := []) hc (c_X1_engage A h x1 (2 : Int32) (-6 : Int32) (0 : Int32) q6 hq6) kv_X1_engage mw_395 0 rfl rfl _ _ _ (Sp_all _ _) rfl rfl (Nat.le_of_ble_eq_true rfl) ⟨by decide, by decide⟩ dX1_sit_6 ?_
  exact r_vret hK (congrArg (fun z9 => (wH cy A z9)) (Option.some.inj hf)) dX1_sit_9
def f_X1_block (h : HS) (x1 : Int32) (x2 : Int32) : Option (HS) :=
  ((f_X1_engage h x1 (3 : Int32) x2 (0 : Int32)).bind fun q5 => (some (q5)))
theorem kv_X1_block : KV RX1 yX1_block cX1_block 3 none 2 := ⟨mw_536, mw_537, mw_56, mw_538, by decide +kernel⟩
set_option maxHeartbeats 8000000 in
set_option maxRecDepth 100000 in
theorem c_X1_block {l : Launch} {E : va_G} {cy : Nat → ClassId} (A : Nat → Nat) (h : HS) (x1 : Int32) (x2 : Int32) (q : HS) (hf : f_X1_block h x1 x2 = some q) : Cv l yX1_block cX1_block 3 none 2 84 E cy [.ref (A 0), .int x1, .int x2] (wH cy A h) (wH cy A q) := by
  refine Cv.of RX1 (by decide) rfl (Nat.le_of_ble_eq_true rfl) ?_
  intro K hK
  have hc := hK.cq
  show V K (wH cy A h) 0 [(0, .ref (A 0)), (1, .int x1), (2, .int x2)] []
  unfold f_X1_block at hf
  refine r_aload_n hc 0 dX1_block_0 rfl ?_
  refine r_iload_n hc 1 dX1_block_1 rfl ?_
  refine r_iconst hc (3 : Int32) dX1_block_2 rfl ?_
  refine r_iload_n hc 2 dX1_block_3 rfl ?_
  refine r_iconst hc (0 : Int32) dX1_block_4 rfl ?_
  obtain ⟨q5, hq5, hf⟩ := o_bind hf
  refine r_callVv (ws' := (wH cy A q5)) (As := [.int x1, .int (3 : Int32), .int x2, .int (0 : Int32)]) (rest := []) hc (c_X1_engage A h x1 (3 : Int32) x2 (0 : Int32) q5 hq5) kv_X1_engage mw_395 0 rfl rfl _ _ _ (Sp_all _ _) rfl rfl (Nat.le_of_ble_eq_true rfl) ⟨by decide, by decide⟩ dX1_block_5 ?_
  exact r_vret hK (congrArg (fun z9 => (wH cy A z9)) (Option.some.inj hf)) dX1_block_8
def f_X1_carry (h : HS) (x1 : Int32) (x2 : Int32) (x3 : Int32) : Option (HS) :=
  (chk ((x1 * (6 : Int32)) + x3) 36 (chk ((x1 * (6 : Int32)) + x3) 36 (ltA (upd (H_measure h) (((x1 * (6 : Int32)) + x3)).toNatClampNeg (((H_measure h) (((x1 * (6 : Int32)) + x3)).toNatClampNeg) - (1 : Int32))) fun f14 => (chk ((x2 * (6 : Int32)) + x3) 36 (chk ((x2 * (6 : Int32)) + x3) 36 (ltA (upd f14 (((x2 * (6 : Int32)) + x3)).toNatClampNeg ((f14 (((x2 * (6 : Int32)) + x3)).toNatClampNeg) + (1 : Int32))) fun f29 => (some ((H_set_measure h f29)))))))))
theorem kv_X1_carry : KV RX1 yX1_carry cX1_carry 4 none 3 := ⟨mw_558, mw_559, mw_56, mw_560, by decide +kernel⟩
set_option maxHeartbeats 8000000 in
set_option maxRecDepth 100000 in
theorem c_X1_carry {l : Launch} {E : va_G} {cy : Nat → ClassId} (A : Nat → Nat) (h : HS) (x1 : Int32) (x2 : Int32) (x3 : Int32) (q : HS) (hf : f_X1_carry h x1 x2 x3 = some q) : Cv l yX1_carry cX1_carry 4 none 1 60 E cy [.ref (A 0), .int x1, .int x2, .int x3] (wH cy A h) (wH cy A q) := by
  refine Cv.of RX1 (by decide) rfl (Nat.le_of_ble_eq_true rfl) ?_
  intro K hK
  have hc := hK.cq
  show V K (wH cy A h) 0 [(0, .ref (A 0)), (1, .int x1), (2, .int x2), (3, .int x3)] []
  unfold f_X1_carry at hf
  refine r_aload_n hc 0 dX1_carry_0 rfl ?_
  refine r_get (v := .ref (A 1)) hc iw_X1 0 rfl rfl 3 (by decide) mw_93 rfl dX1_carry_1 ?_
  refine r_iload_n hc 1 dX1_carry_4 rfl ?_
  refine r_bipush hc (6 : Int32) dX1_carry_5 rfl ?_
  refine r_imul hc dX1_carry_7 ?_
  refine r_iload_n hc 3 dX1_carry_8 rfl ?_
  refine r_iadd hc dX1_carry_9 ?_
  refine r_dup2_11 hc dX1_carry_10 rfl rfl ?_
  obtain ⟨i_1, hf⟩ := chk_some hf
  refine r_iald (f := (H_measure h)) hc 1 rfl i_1 dX1_carry_11 ?_
  refine r_iconst hc (1 : Int32) dX1_carry_12 rfl ?_
  refine r_isub hc dX1_carry_13 ?_
  obtain ⟨i_2, hf⟩ := chk_some hf
  obtain ⟨f14, ef14, hf⟩ := lt_some hf
  refine r_iast (f := (H_measure h)) hc 1 rfl i_2 dX1_carry_14 f14 ef14 (wH cy A (H_set_measure h f14)) rfl ?_
  refine r_aload_n hc 0 dX1_carry_15 rfl ?_
  refine r_get (v := .ref (A 1)) hc iw_X1 0 rfl rfl 3 (by decide) mw_93 rfl dX1_carry_16 ?_
  refine r_iload_n hc 2 dX1_carry_19 rfl ?_
  refine r_bipush hc (6 : Int32) dX1_carry_20 rfl ?_
  refine r_imul hc dX1_carry_22 ?_
  refine r_iload_n hc 3 dX1_carry_23 rfl ?_
  refine r_iadd hc dX1_carry_24 ?_
  refine r_dup2_11 hc dX1_carry_25 rfl rfl ?_
  obtain ⟨i_3, hf⟩ := chk_some hf
  refine r_iald (f := f14) hc 1 rfl i_3 dX1_carry_26 ?_
  refine r_iconst hc (1 : Int32) dX1_carry_27 rfl ?_
  refine r_iadd hc dX1_carry_28 ?_
  obtain ⟨i_4, hf⟩ := chk_some hf
  obtain ⟨f29, ef29, hf⟩ := lt_some hf
  refine r_iast (f := f14) hc 1 rfl i_4 dX1_carry_29 f29 ef29 (wH cy A (H_set_measure h f29)) rfl ?_
  exact r_vret hK (congrArg (fun z9 => (wH cy A z9)) (Option.some.inj hf)) dX1_carry_30
def X1_talkOn_J46 (k2 : HS → Int32 → Option (HS)) (h : HS) (x1 : Int32) : Option (HS) :=
  (k2 h (x1 + (1 : Int32)))
def X1_talkOn_B2 (k2 : HS → Int32 → Option (HS)) (h : HS) (x1 : Int32) : Option (HS) :=
  (if (8 : Int32) ≤ x1 then (some (h)) else (chk x1 8 (if ((H_busy h) (x1).toNatClampNeg) = (1 : Int32) then (chk x1 8 (chk x1 8 (ltA (upd (H_left h) (x1).toNatClampNeg (((H_left h) (x1).toNatClampNeg) - (1 : Int32))) fun f27 => (chk x1 8 (if 0 < (f27 (x1).toNatClampNeg) then (X1_talkOn_J46 k2 (H_set_left h f27) x1) else ((f_X1_engage (H_set_left h f27) x1 (0 : Int32) (-6 : Int32) (0 : Int32)).bind fun q43 => (X1_talkOn_J46 k2 q43 x1))))))) else (X1_talkOn_J46 k2 h x1))))
def f_X1_talkOn (h : HS) : Option (HS) :=
  (it X1_talkOn_B2 (fun _ _ => none) FU h (0 : Int32))
theorem kv_X1_talkOn : KV RX1 yX1_talkOn cX1_talkOn 2 none 0 := ⟨mw_507, mw_508, mw_56, mw_509, by decide +kernel⟩
set_option maxHeartbeats 8000000 in
set_option maxRecDepth 100000 in
theorem c_X1_talkOn {l : Launch} {E : va_G} {cy : Nat → ClassId} (A : Nat → Nat) (h : HS) (q : HS) (hf : f_X1_talkOn h = some q) : Cv l yX1_talkOn cX1_talkOn 2 none 2 84 E cy [.ref (A 0)] (wH cy A h) (wH cy A q) := by
  refine Cv.of RX1 (by decide) rfl (Nat.le_of_ble_eq_true rfl) ?_
  intro K hK
  have hc := hK.cq
  have L2 : ∀ (n2 : Nat) (h : HS) (x1 : Int32), it X1_talkOn_B2 (fun _ _ => none) n2 h x1 = some q → V K (wH cy A h) 2 [(0, .ref (A 0)), (1, .int x1)] [] := by
    intro n2
    induction n2 with
    | zero => intro h x1 hf; exact (o_none hf).elim
    | succ n2 ih2 =>
      have J46 : ∀ (h : HS) (x1 : Int32), X1_talkOn_J46 (it X1_talkOn_B2 (fun _ _ => none) n2) h x1 = some q → V K (wH cy A h) 46 [(0, .ref (A 0)), (1, .int x1)] [] := by
        intro h x1 hf
        unfold X1_talkOn_J46 at hf
        refine r_iinc hc 1 [(1, .int (x1 + (1 : Int32))), (0, .ref (A 0))] (x1 + (1 : Int32)) dX1_talkOn_46 rfl rfl (by decide) rfl ?_
        refine r_goto hc 2 dX1_talkOn_49 (by decide) ?_
        exact V.sub [1, 0] rfl (ih2 h (x1 + (1 : Int32)) hf)
      intro h x1 hf
      replace hf : X1_talkOn_B2 (it X1_talkOn_B2 (fun _ _ => none) n2) h x1 = some q := hf
      unfold X1_talkOn_B2 at hf
      refine r_iload_n hc 1 dX1_talkOn_2 rfl ?_
      refine r_bipush hc (8 : Int32) dX1_talkOn_3 rfl ?_
      refine r_icmp_ge hc 52 dX1_talkOn_5 (by decide) (fun c_1 => ?_) (fun c_1 => ?_)
      · have hf := o_pos c_1 hf
        exact r_vret hK (congrArg (fun z9 => (wH cy A z9)) (Option.some.inj hf)) dX1_talkOn_52
      · have hf := o_neg c_1 hf
        refine r_aload_n hc 0 dX1_talkOn_8 rfl ?_
        refine r_get (v := .ref (A 4)) hc iw_X1 0 rfl rfl 6 (by decide) mw_103 rfl dX1_talkOn_9 ?_
        refine r_iload_n hc 1 dX1_talkOn_12 rfl ?_
        obtain ⟨i_2, hf⟩ := chk_some hf
        refine r_iald (f := (H_busy h)) hc 4 rfl i_2 dX1_talkOn_13 ?_
        refine r_iconst hc (1 : Int32) dX1_talkOn_14 rfl ?_
        refine r_icmp_ne hc 46 dX1_talkOn_15 (by decide) (fun c_3 => ?_) (fun c_3 => ?_)
        · have hf := o_neg c_3 hf
          exact V.sub [0, 1] rfl (J46 h x1 hf)
        · have hf := o_pos c_3 hf
          refine r_aload_n hc 0 dX1_talkOn_18 rfl ?_
          refine r_get (v := .ref (A 6)) hc iw_X1 0 rfl rfl 8 (by decide) mw_108 rfl dX1_talkOn_19 ?_
          refine r_iload_n hc 1 dX1_talkOn_22 rfl ?_
          refine r_dup2_11 hc dX1_talkOn_23 rfl rfl ?_
          obtain ⟨i_4, hf⟩ := chk_some hf
          refine r_iald (f := (H_left h)) hc 6 rfl i_4 dX1_talkOn_24 ?_
          refine r_iconst hc (1 : Int32) dX1_talkOn_25 rfl ?_
          refine r_isub hc dX1_talkOn_26 ?_
          obtain ⟨i_5, hf⟩ := chk_some hf
          obtain ⟨f27, ef27, hf⟩ := lt_some hf
          refine r_iast (f := (H_left h)) hc 6 rfl i_5 dX1_talkOn_27 f27 ef27 (wH cy A (H_set_left h f27)) rfl ?_
          refine r_aload_n hc 0 dX1_talkOn_28 rfl ?_
          refine r_get (v := .ref (A 6)) hc iw_X1 0 rfl rfl 8 (by decide) mw_108 rfl dX1_talkOn_29 ?_
          refine r_iload_n hc 1 dX1_talkOn_32 rfl ?_
          obtain ⟨i_6, hf⟩ := chk_some hf
          refine r_iald (f := f27) hc 6 rfl i_6 dX1_talkOn_33 ?_
          refine r_if_gt hc 46 dX1_talkOn_34 (by decide) (fun c_7 => ?_) (fun c_7 => ?_)
          · have hf := o_pos c_7 hf
            exact V.sub [0, 1] rfl (J46 (H_set_left h f27) x1 hf)
          · have hf := o_neg c_7 hf
            refine r_aload_n hc 0 dX1_talkOn_37 rfl ?_
            refine r_iload_n hc 1 dX1_talkOn_38 rfl ?_
            refine r_iconst hc (0 : Int32) dX1_talkOn_39 rfl ?_
            refine r_bipush hc (-6 : Int32) dX1_talkOn_40 rfl ?_
            refine r_iconst hc (0 : Int32) dX1_talkOn_42 rfl ?_
            obtain ⟨q43, hq43, hf⟩ := o_bind hf
            refine r_callVv (ws' := (wH cy A q43)) (As := [.int x1, .int (0 : Int32), .int (-6 : Int32), .int (0 : Int32)]) (rest := []) hc (c_X1_engage A (H_set_left h f27) x1 (0 : Int32) (-6 : Int32) (0 : Int32) q43 hq43) kv_X1_engage mw_395 0 rfl rfl _ _ _ (Sp_all _ _) rfl rfl (Nat.le_of_ble_eq_true rfl) ⟨by decide, by decide⟩ dX1_talkOn_43 ?_
            exact V.sub [0, 1] rfl (J46 q43 x1 hf)
  show V K (wH cy A h) 0 [(0, .ref (A 0))] []
  unfold f_X1_talkOn at hf
  refine r_iconst hc (0 : Int32) dX1_talkOn_0 rfl ?_
  refine r_istore_n hc [(1, .int (0 : Int32)), (0, .ref (A 0))] dX1_talkOn_1 (by decide) rfl ?_
  exact V.sub [1, 0] rfl (L2 FU h (0 : Int32) hf)
