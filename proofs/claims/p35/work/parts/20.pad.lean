def f_X2_isGuestLetter (x0 : Int32) : Option (Int32) :=
  (if x0 < (65 : Int32) then (some ((0 : Int32))) else (if (72 : Int32) < x0 then (some ((0 : Int32))) else (some ((1 : Int32)))))
theorem ks_X2_isGuestLetter : KS yX2_isGuestLetter cX2_isGuestLetter 1 (some .boolean) 1 := ⟨mw_437, mw_57, mw_438, by decide +kernel⟩
set_option maxHeartbeats 8000000 in
set_option maxRecDepth 100000 in
theorem c_X2_isGuestLetter {l : Launch} {E : va_G} {cy : Nat → ClassId} (x0 : Int32) (q : Int32) (hf : f_X2_isGuestLetter x0 = some q) : Ci l yX2_isGuestLetter cX2_isGuestLetter 1 (some .boolean) 1 60 E cy [.int x0] ([]) q ([]) := by
  refine Ci.of RX2 (by decide) rfl (Nat.le_of_ble_eq_true rfl) ?_
  intro K hK
  have hc := hK.cq
  show V K ([]) 0 [(0, .int x0)] []
  unfold f_X2_isGuestLetter at hf
  refine r_iload_n hc 0 dX2_isGuestLetter_0 rfl ?_
  refine r_bipush hc (65 : Int32) dX2_isGuestLetter_1 rfl ?_
  refine r_icmp_lt hc 16 dX2_isGuestLetter_3 (by decide) (fun c_1 => ?_) (fun c_1 => ?_)
  · have hf := o_pos c_1 hf
    refine r_iconst hc (0 : Int32) dX2_isGuestLetter_16 rfl ?_
    exact r_zret hK rfl (Option.some.inj hf) rfl dX2_isGuestLetter_17
  · have hf := o_neg c_1 hf
    refine r_iload_n hc 0 dX2_isGuestLetter_6 rfl ?_
    refine r_bipush hc (72 : Int32) dX2_isGuestLetter_7 rfl ?_
    refine r_icmp_gt hc 16 dX2_isGuestLetter_9 (by decide) (fun c_2 => ?_) (fun c_2 => ?_)
    · have hf := o_pos c_2 hf
      refine r_iconst hc (0 : Int32) dX2_isGuestLetter_16 rfl ?_
      exact r_zret hK rfl (Option.some.inj hf) rfl dX2_isGuestLetter_17
    · have hf := o_neg c_2 hf
      refine r_iconst hc (1 : Int32) dX2_isGuestLetter_12 rfl ?_
      refine r_goto hc 17 dX2_isGuestLetter_13 (by decide) ?_
      exact r_zret hK rfl (Option.some.inj hf) rfl dX2_isGuestLetter_17
def f_X2_isRoomLetter (x0 : Int32) (x1 : Int32) : Option (Int32) :=
  (if x0 < (97 : Int32) then (some ((0 : Int32))) else (if ((97 : Int32) + x1) ≤ x0 then (some ((0 : Int32))) else (some ((1 : Int32)))))
theorem ks_X2_isRoomLetter : KS yX2_isRoomLetter cX2_isRoomLetter 2 (some .boolean) 2 := ⟨mw_440, mw_57, mw_441, by decide +kernel⟩
set_option maxHeartbeats 8000000 in
set_option maxRecDepth 100000 in
theorem c_X2_isRoomLetter {l : Launch} {E : va_G} {cy : Nat → ClassId} (x0 : Int32) (x1 : Int32) (q : Int32) (hf : f_X2_isRoomLetter x0 x1 = some q) : Ci l yX2_isRoomLetter cX2_isRoomLetter 2 (some .boolean) 1 60 E cy [.int x0, .int x1] ([]) q ([]) := by
  refine Ci.of RX2 (by decide) rfl (Nat.le_of_ble_eq_true rfl) ?_
  intro K hK
  have hc := hK.cq
  show V K ([]) 0 [(0, .int x0), (1, .int x1)] []
  unfold f_X2_isRoomLetter at hf
  refine r_iload_n hc 0 dX2_isRoomLetter_0 rfl ?_
  refine r_bipush hc (97 : Int32) dX2_isRoomLetter_1 rfl ?_
  refine r_icmp_lt hc 18 dX2_isRoomLetter_3 (by decide) (fun c_1 => ?_) (fun c_1 => ?_)
  · have hf := o_pos c_1 hf
    refine r_iconst hc (0 : Int32) dX2_isRoomLetter_18 rfl ?_
    exact r_zret hK rfl (Option.some.inj hf) rfl dX2_isRoomLetter_19
  · have hf := o_neg c_1 hf
    refine r_iload_n hc 0 dX2_isRoomLetter_6 rfl ?_
    refine r_bipush hc (97 : Int32) dX2_isRoomLetter_7 rfl ?_
    refine r_iload_n hc 1 dX2_isRoomLetter_9 rfl ?_
    refine r_iadd hc dX2_isRoomLetter_10 ?_
    refine r_icmp_ge hc 18 dX2_isRoomLetter_11 (by decide) (fun c_2 => ?_) (fun c_2 => ?_)
    · have hf := o_pos c_2 hf
      refine r_iconst hc (0 : Int32) dX2_isRoomLetter_18 rfl ?_
      exact r_zret hK rfl (Option.some.inj hf) rfl dX2_isRoomLetter_19
    · have hf := o_neg c_2 hf
      refine r_iconst hc (1 : Int32) dX2_isRoomLetter_14 rfl ?_
      refine r_goto hc 19 dX2_isRoomLetter_15 (by decide) ?_
      exact r_zret hK rfl (Option.some.inj hf) rfl dX2_isRoomLetter_19
def f_X2_add (pd : PS) (x1 : Int32) : Option (Int32 × PS) :=
  (if (P_used pd) < (60 : Int32) then (chk (P_used pd) 60 (ltA (upd (P_signs pd) ((P_used pd)).toNatClampNeg x1) fun f20 => (some ((1 : Int32), (P_set_used (P_set_signs pd f20) ((P_used pd) + (1 : Int32))))))) else (some ((0 : Int32), pd)))
theorem kv_X2_add : KV RX2 yX2_add cX2_add 2 (some .boolean) 1 := ⟨mw_414, mw_415, mw_57, mw_416, by decide +kernel⟩
set_option maxHeartbeats 8000000 in
set_option maxRecDepth 100000 in
theorem c_X2_add {l : Launch} {E : va_G} {cy : Nat → ClassId} (A : Nat → Nat) (pd : PS) (x1 : Int32) (q : Int32 × PS) (hf : f_X2_add pd x1 = some q) : Ci l yX2_add cX2_add 2 (some .boolean) 1 60 E cy [.ref (A 0), .int x1] (wP cy A pd) q.1 (wP cy A q.2) := by
  refine Ci.of RX2 (by decide) rfl (Nat.le_of_ble_eq_true rfl) ?_
  intro K hK
  have hc := hK.cq
  show V K (wP cy A pd) 0 [(0, .ref (A 0)), (1, .int x1)] []
  unfold f_X2_add at hf
  refine r_aload_n hc 0 dX2_add_0 rfl ?_
  refine r_get (v := .int (P_used pd)) hc iw_X2 0 rfl rfl 0 (by decide) mw_150 rfl dX2_add_1 ?_
  refine r_bipush hc (60 : Int32) dX2_add_4 rfl ?_
  refine r_icmp_lt hc 11 dX2_add_6 (by decide) (fun c_1 => ?_) (fun c_1 => ?_)
  · have hf := o_pos c_1 hf
    refine r_aload_n hc 0 dX2_add_11 rfl ?_
    refine r_get (v := .ref (A 1)) hc iw_X2 0 rfl rfl 1 (by decide) mw_153 rfl dX2_add_12 ?_
    refine r_aload_n hc 0 dX2_add_15 rfl ?_
    refine r_get (v := .int (P_used pd)) hc iw_X2 0 rfl rfl 0 (by decide) mw_150 rfl dX2_add_16 ?_
    refine r_iload_n hc 1 dX2_add_19 rfl ?_
    obtain ⟨i_2, hf⟩ := chk_some hf
    obtain ⟨f20, ef20, hf⟩ := lt_some hf
    refine r_iast (f := (P_signs pd)) hc 1 rfl i_2 dX2_add_20 f20 ef20 (wP cy A (P_set_signs pd f20)) rfl ?_
    refine r_aload_n hc 0 dX2_add_21 rfl ?_
    refine r_dup hc dX2_add_22 rfl ?_
    refine r_get (v := .int (P_used pd)) hc iw_X2 0 rfl rfl 0 (by decide) mw_150 rfl dX2_add_23 ?_
    refine r_iconst hc (1 : Int32) dX2_add_26 rfl ?_
    refine r_iadd hc dX2_add_27 ?_
    refine r_put hc iw_X2 tyX2 tyX2_ok nmX2 0 rfl rfl 0 (by decide) mw_150 rfl rfl rfl (Nat.le_of_ble_eq_true rfl) dX2_add_28 (wP cy A (P_set_used (P_set_signs pd f20) ((P_used pd) + (1 : Int32)))) rfl ?_
    refine r_iconst hc (1 : Int32) dX2_add_31 rfl ?_
    exact r_zret hK rfl (congrArg (fun z9 => z9.1) (Option.some.inj hf)) (congrArg (fun z9 => (wP cy A z9.2)) (Option.some.inj hf)) dX2_add_32
  · have hf := o_neg c_1 hf
    refine r_iconst hc (0 : Int32) dX2_add_9 rfl ?_
    exact r_zret hK rfl (congrArg (fun z9 => z9.1) (Option.some.inj hf)) (congrArg (fun z9 => (wP cy A z9.2)) (Option.some.inj hf)) dX2_add_10
def f_X2_sign (pd : PS) (x1 : Int32) : Option (Int32) :=
  (if x1 < 0 then (some ((0 : Int32))) else (if (P_used pd) ≤ x1 then (some ((0 : Int32))) else (chk x1 60 (some (((P_signs pd) (x1).toNatClampNeg))))))
theorem kv_X2_sign : KV RX2 yX2_sign cX2_sign 2 (some .int) 1 := ⟨mw_443, mw_444, mw_57, mw_445, by decide +kernel⟩
set_option maxHeartbeats 8000000 in
set_option maxRecDepth 100000 in
theorem c_X2_sign {l : Launch} {E : va_G} {cy : Nat → ClassId} (A : Nat → Nat) (pd : PS) (x1 : Int32) (q : Int32) (hf : f_X2_sign pd x1 = some q) : Ci l yX2_sign cX2_sign 2 (some .int) 1 60 E cy [.ref (A 0), .int x1] (wP cy A pd) q (wP cy A pd) := by
  refine Ci.of RX2 (by decide) rfl (Nat.le_of_ble_eq_true rfl) ?_
  intro K hK
  have hc := hK.cq
  show V K (wP cy A pd) 0 [(0, .ref (A 0)), (1, .int x1)] []
  unfold f_X2_sign at hf
  refine r_iload_n hc 1 dX2_sign_0 rfl ?_
  refine r_if_lt hc 21 dX2_sign_1 (by decide) (fun c_1 => ?_) (fun c_1 => ?_)
  · have hf := o_pos c_1 hf
    refine r_iconst hc (0 : Int32) dX2_sign_21 rfl ?_
    exact r_iret hK (Option.some.inj hf) rfl dX2_sign_22
  · have hf := o_neg c_1 hf
    refine r_iload_n hc 1 dX2_sign_4 rfl ?_
    refine r_aload_n hc 0 dX2_sign_5 rfl ?_
    refine r_get (v := .int (P_used pd)) hc iw_X2 0 rfl rfl 0 (by decide) mw_150 rfl dX2_sign_6 ?_
    refine r_icmp_ge hc 21 dX2_sign_9 (by decide) (fun c_2 => ?_) (fun c_2 => ?_)
    · have hf := o_pos c_2 hf
      refine r_iconst hc (0 : Int32) dX2_sign_21 rfl ?_
      exact r_iret hK (Option.some.inj hf) rfl dX2_sign_22
    · have hf := o_neg c_2 hf
      refine r_aload_n hc 0 dX2_sign_12 rfl ?_
      refine r_get (v := .ref (A 1)) hc iw_X2 0 rfl rfl 1 (by decide) mw_153 rfl dX2_sign_13 ?_
      refine r_iload_n hc 1 dX2_sign_16 rfl ?_
      obtain ⟨i_3, hf⟩ := chk_some hf
      refine r_iald (f := (P_signs pd)) hc 1 rfl i_3 dX2_sign_17 ?_
      refine r_goto hc 22 dX2_sign_18 (by decide) ?_
      exact r_iret hK (Option.some.inj hf) rfl dX2_sign_22
def f_X2_followStart (x0 : Int32) (x1 : Int32) : Option (Int32) :=
  (if x0 = (46 : Int32) then (some ((0 : Int32))) else ((f_X2_isGuestLetter x0).bind fun q9 => (if q9 = 0 then ((f_X2_isRoomLetter x0 x1).bind fun q19 => (if q19 = 0 then (some ((5 : Int32))) else (some ((3 : Int32))))) else (some ((1 : Int32))))))
theorem ks_X2_followStart : KS yX2_followStart cX2_followStart 2 (some .int) 2 := ⟨mw_434, mw_57, mw_435, by decide +kernel⟩
set_option maxHeartbeats 8000000 in
set_option maxRecDepth 100000 in
theorem c_X2_followStart {l : Launch} {E : va_G} {cy : Nat → ClassId} (x0 : Int32) (x1 : Int32) (q : Int32) (hf : f_X2_followStart x0 x1 = some q) : Ci l yX2_followStart cX2_followStart 2 (some .int) 2 81 E cy [.int x0, .int x1] ([]) q ([]) := by
  refine Ci.of RX2 (by decide) rfl (Nat.le_of_ble_eq_true rfl) ?_
  intro K hK
  have hc := hK.cq
  show V K ([]) 0 [(0, .int x0), (1, .int x1)] []
  unfold f_X2_followStart at hf
  refine r_iload_n hc 0 dX2_followStart_0 rfl ?_
  refine r_bipush hc (46 : Int32) dX2_followStart_1 rfl ?_
  refine r_icmp_ne hc 8 dX2_followStart_3 (by decide) (fun c_1 => ?_) (fun c_1 => ?_)
  · have hf := o_neg c_1 hf
    refine r_iload_n hc 0 dX2_followStart_8 rfl ?_
    obtain ⟨q9, hq9, hf⟩ := o_bind hf
    refine r_callSi (ws' := ([])) (As := [.int x0]) (rest := []) hc (c_X2_isGuestLetter  x0 q9 hq9) ks_X2_isGuestLetter mw_436 _ _ _ (Sp_none _) rfl rfl (Nat.le_of_ble_eq_true rfl) ⟨by decide, by decide⟩ dX2_followStart_9 ?_
    refine r_if_eq hc 17 dX2_followStart_12 (by decide) (fun c_2 => ?_) (fun c_2 => ?_)
    · have hf := o_pos c_2 hf
      refine r_iload_n hc 0 dX2_followStart_17 rfl ?_
      refine r_iload_n hc 1 dX2_followStart_18 rfl ?_
      obtain ⟨q19, hq19, hf⟩ := o_bind hf
      refine r_callSi (ws' := ([])) (As := [.int x0, .int x1]) (rest := []) hc (c_X2_isRoomLetter  x0 x1 q19 hq19) ks_X2_isRoomLetter mw_439 _ _ _ (Sp_none _) rfl rfl (Nat.le_of_ble_eq_true rfl) ⟨by decide, by decide⟩ dX2_followStart_19 ?_
      refine r_if_eq hc 29 dX2_followStart_22 (by decide) (fun c_3 => ?_) (fun c_3 => ?_)
      · have hf := o_pos c_3 hf
        refine r_iconst hc (5 : Int32) dX2_followStart_29 rfl ?_
        exact r_iret hK (Option.some.inj hf) rfl dX2_followStart_30
      · have hf := o_neg c_3 hf
        refine r_iconst hc (3 : Int32) dX2_followStart_25 rfl ?_
        refine r_goto hc 30 dX2_followStart_26 (by decide) ?_
        exact r_iret hK (Option.some.inj hf) rfl dX2_followStart_30
    · have hf := o_neg c_2 hf
      refine r_iconst hc (1 : Int32) dX2_followStart_15 rfl ?_
      exact r_iret hK (Option.some.inj hf) rfl dX2_followStart_16
  · have hf := o_pos c_1 hf
    refine r_iconst hc (0 : Int32) dX2_followStart_6 rfl ?_
    exact r_iret hK (Option.some.inj hf) rfl dX2_followStart_7
def X2_followGuest_J38  : Option (Int32) :=
  (some ((0 : Int32)))
def f_X2_followGuest (x0 : Int32) (x1 : Int32) (x2 : Int32) : Option (Int32) :=
  ((f_X2_isGuestLetter x0).bind fun q1 => (if q1 = 0 then (if x0 = (95 : Int32) then (X2_followGuest_J38 ) else (if x0 = (94 : Int32) then (X2_followGuest_J38 ) else ((f_X2_isRoomLetter x0 x2).bind fun q32 => (if q32 = 0 then (some ((5 : Int32))) else (X2_followGuest_J38 ))))) else (if x0 ≤ x1 then (some ((5 : Int32))) else (some ((2 : Int32))))))
theorem ks_X2_followGuest : KS yX2_followGuest cX2_followGuest 3 (some .int) 3 := ⟨mw_447, mw_57, mw_448, by decide +kernel⟩
set_option maxHeartbeats 8000000 in
set_option maxRecDepth 100000 in
theorem c_X2_followGuest {l : Launch} {E : va_G} {cy : Nat → ClassId} (x0 : Int32) (x1 : Int32) (x2 : Int32) (q : Int32) (hf : f_X2_followGuest x0 x1 x2 = some q) : Ci l yX2_followGuest cX2_followGuest 3 (some .int) 2 81 E cy [.int x0, .int x1, .int x2] ([]) q ([]) := by
  refine Ci.of RX2 (by decide) rfl (Nat.le_of_ble_eq_true rfl) ?_
  intro K hK
  have hc := hK.cq
  have J38 : X2_followGuest_J38   = some q → V K ([]) 38 [] [] := by
    intro  hf
    unfold X2_followGuest_J38 at hf
    refine r_iconst hc (0 : Int32) dX2_followGuest_38 rfl ?_
    refine r_goto hc 43 dX2_followGuest_39 (by decide) ?_
    exact r_iret hK (Option.some.inj hf) rfl dX2_followGuest_43
  show V K ([]) 0 [(0, .int x0), (1, .int x1), (2, .int x2)] []
  unfold f_X2_followGuest at hf
  refine r_iload_n hc 0 dX2_followGuest_0 rfl ?_
  obtain ⟨q1, hq1, hf⟩ := o_bind hf
  refine r_callSi (ws' := ([])) (As := [.int x0]) (rest := []) hc (c_X2_isGuestLetter  x0 q1 hq1) ks_X2_isGuestLetter mw_436 _ _ _ (Sp_none _) rfl rfl (Nat.le_of_ble_eq_true rfl) ⟨by decide, by decide⟩ dX2_followGuest_1 ?_
  refine r_if_eq hc 18 dX2_followGuest_4 (by decide) (fun c_1 => ?_) (fun c_1 => ?_)
  · have hf := o_pos c_1 hf
    refine r_iload_n hc 0 dX2_followGuest_18 rfl ?_
    refine r_bipush hc (95 : Int32) dX2_followGuest_19 rfl ?_
    refine r_icmp_eq hc 38 dX2_followGuest_21 (by decide) (fun c_2 => ?_) (fun c_2 => ?_)
    · have hf := o_pos c_2 hf
      exact V.sub [] rfl (J38  hf)
    · have hf := o_neg c_2 hf
      refine r_iload_n hc 0 dX2_followGuest_24 rfl ?_
      refine r_bipush hc (94 : Int32) dX2_followGuest_25 rfl ?_
      refine r_icmp_eq hc 38 dX2_followGuest_27 (by decide) (fun c_3 => ?_) (fun c_3 => ?_)
      · have hf := o_pos c_3 hf
        exact V.sub [] rfl (J38  hf)
      · have hf := o_neg c_3 hf
        refine r_iload_n hc 0 dX2_followGuest_30 rfl ?_
        refine r_iload_n hc 2 dX2_followGuest_31 rfl ?_
        obtain ⟨q32, hq32, hf⟩ := o_bind hf
        refine r_callSi (ws' := ([])) (As := [.int x0, .int x2]) (rest := []) hc (c_X2_isRoomLetter  x0 x2 q32 hq32) ks_X2_isRoomLetter mw_439 _ _ _ (Sp_none _) rfl rfl (Nat.le_of_ble_eq_true rfl) ⟨by decide, by decide⟩ dX2_followGuest_32 ?_
        refine r_if_eq hc 42 dX2_followGuest_35 (by decide) (fun c_4 => ?_) (fun c_4 => ?_)
        · have hf := o_pos c_4 hf
          refine r_iconst hc (5 : Int32) dX2_followGuest_42 rfl ?_
          exact r_iret hK (Option.some.inj hf) rfl dX2_followGuest_43
        · have hf := o_neg c_4 hf
          exact V.sub [] rfl (J38  hf)
  · have hf := o_neg c_1 hf
    refine r_iload_n hc 0 dX2_followGuest_7 rfl ?_
    refine r_iload_n hc 1 dX2_followGuest_8 rfl ?_
    refine r_icmp_le hc 16 dX2_followGuest_9 (by decide) (fun c_5 => ?_) (fun c_5 => ?_)
    · have hf := o_pos c_5 hf
      refine r_iconst hc (5 : Int32) dX2_followGuest_16 rfl ?_
      exact r_iret hK (Option.some.inj hf) rfl dX2_followGuest_17
    · have hf := o_neg c_5 hf
      refine r_iconst hc (2 : Int32) dX2_followGuest_12 rfl ?_
      refine r_goto hc 17 dX2_followGuest_13 (by decide) ?_
      exact r_iret hK (Option.some.inj hf) rfl dX2_followGuest_17
def f_X2_follow (pd : PS) (x1 : Int32) (x2 : Int32) (x3 : Int32) : Option (Int32) :=
  (chk x2 60 (if x1 = (0 : Int32) then ((f_X2_followStart ((P_signs pd) (x2).toNatClampNeg) x3).bind fun q43 => (some (q43))) else (if x1 = (1 : Int32) then ((f_X2_sign pd (x2 - (1 : Int32))).bind fun q53 => ((f_X2_followGuest ((P_signs pd) (x2).toNatClampNeg) q53 x3).bind fun q57 => (some (q57)))) else (if x1 = (2 : Int32) then (if ((P_signs pd) (x2).toNatClampNeg) < (49 : Int32) then (some ((5 : Int32))) else (if (57 : Int32) < ((P_signs pd) (x2).toNatClampNeg) then (some ((5 : Int32))) else (some ((0 : Int32))))) else (if x1 = (3 : Int32) then ((f_X2_isRoomLetter ((P_signs pd) (x2).toNatClampNeg) x3).bind fun q84 => (if q84 = 0 then (some ((5 : Int32))) else (some ((4 : Int32))))) else (if ((P_signs pd) (x2).toNatClampNeg) < (48 : Int32) then (some ((5 : Int32))) else (if (51 : Int32) < ((P_signs pd) (x2).toNatClampNeg) then (some ((5 : Int32))) else (some ((0 : Int32))))))))))
theorem kv_X2_follow : KV RX2 yX2_follow cX2_follow 5 (some .int) 3 := ⟨mw_431, mw_1, mw_57, mw_432, by decide +kernel⟩
set_option maxHeartbeats 8000000 in
set_option maxRecDepth 100000 in
theorem c_X2_follow {l : Launch} {E : va_G} {cy : Nat → ClassId} (A : Nat → Nat) (pd : PS) (x1 : Int32) (x2 : Int32) (x3 : Int32) (q : Int32) (hf : f_X2_follow pd x1 x2 x3 = some q) : Ci l yX2_follow cX2_follow 5 (some .int) 3 103 E cy [.ref (A 0), .int x1, .int x2, .int x3] (wP cy A pd) q (wP cy A pd) := by
  refine Ci.of RX2 (by decide) rfl (Nat.le_of_ble_eq_true rfl) ?_
  intro K hK
  have hc := hK.cq
  show V K (wP cy A pd) 0 [(0, .ref (A 0)), (1, .int x1), (2, .int x2), (3, .int x3)] []
  unfold f_X2_follow at hf
  refine r_aload_n hc 0 dX2_follow_0 rfl ?_
  refine r_get (v := .ref (A 1)) hc iw_X2 0 rfl rfl 1 (by decide) mw_153 rfl dX2_follow_1 ?_
  refine r_iload_n hc 2 dX2_follow_4 rfl ?_
  obtain ⟨i_1, hf⟩ := chk_some hf
  refine r_iald (f := (P_signs pd)) hc 1 rfl i_1 dX2_follow_5 ?_
  refine r_istore hc [(4, .int ((P_signs pd) (x2).toNatClampNeg)), (0, .ref (A 0)), (1, .int x1), (2, .int x2), (3, .int x3)] dX2_follow_6 (by decide) rfl ?_
  refine r_iload_n hc 2 dX2_follow_8 rfl ?_
  by_cases c_7_0 : x1 = (0 : Int32)
  · have hf := o_pos c_7_0 hf
    refine r_tabIn (off := 31) hc 40 dX2_follow_9 (by rw [c_7_0]; decide) (by rw [c_7_0]; decide) (by rw [c_7_0]; rfl) (by decide) ?_
    refine r_iload hc 0 dX2_follow_40 rfl ?_
    refine r_iload_n hc 4 dX2_follow_42 rfl ?_
    obtain ⟨q43, hq43, hf⟩ := o_bind hf
    refine r_callSi (ws' := (wP cy A pd)) (As := [.int ((P_signs pd) (x2).toNatClampNeg), .int x3]) (rest := []) hc (c_X2_followStart  ((P_signs pd) (x2).toNatClampNeg) x3 q43 hq43) ks_X2_followStart mw_433 _ _ _ (Sp_none _) rfl rfl (Nat.le_of_ble_eq_true rfl) ⟨by decide, by decide⟩ dX2_follow_43 ?_
    exact r_iret hK (Option.some.inj hf) rfl dX2_follow_46
  · have hf := o_neg c_7_0 hf
    by_cases c_7_1 : x1 = (1 : Int32)
    · have hf := o_pos c_7_1 hf
      refine r_tabIn (off := 38) hc 47 dX2_follow_9 (by rw [c_7_1]; decide) (by rw [c_7_1]; decide) (by rw [c_7_1]; rfl) (by decide) ?_
      refine r_iload hc 0 dX2_follow_47 rfl ?_
      refine r_aload_n hc 1 dX2_follow_49 rfl ?_
      refine r_iload_n hc 3 dX2_follow_50 rfl ?_
      refine r_iconst hc (1 : Int32) dX2_follow_51 rfl ?_
      refine r_isub hc dX2_follow_52 ?_
      obtain ⟨q53, hq53, hf⟩ := o_bind hf
      refine r_callVi (ws' := (wP cy A pd)) (As := [.int (x2 - (1 : Int32))]) (rest := [.int ((P_signs pd) (x2).toNatClampNeg)]) hc (c_X2_sign A pd (x2 - (1 : Int32)) q53 hq53) kv_X2_sign mw_442 0 rfl rfl _ _ _ (Sp_all _ _) rfl rfl (Nat.le_of_ble_eq_true rfl) ⟨by decide, by decide⟩ dX2_follow_53 ?_
      refine r_iload_n hc 4 dX2_follow_56 rfl ?_
      obtain ⟨q57, hq57, hf⟩ := o_bind hf
      refine r_callSi (ws' := (wP cy A pd)) (As := [.int ((P_signs pd) (x2).toNatClampNeg), .int q53, .int x3]) (rest := []) hc (c_X2_followGuest  ((P_signs pd) (x2).toNatClampNeg) q53 x3 q57 hq57) ks_X2_followGuest mw_446 _ _ _ (Sp_none _) rfl rfl (Nat.le_of_ble_eq_true rfl) ⟨by decide, by decide⟩ dX2_follow_57 ?_
      exact r_iret hK (Option.some.inj hf) rfl dX2_follow_60
    · have hf := o_neg c_7_1 hf
      by_cases c_7_2 : x1 = (2 : Int32)
      · have hf := o_pos c_7_2 hf
        refine r_tabIn (off := 52) hc 61 dX2_follow_9 (by rw [c_7_2]; decide) (by rw [c_7_2]; decide) (by rw [c_7_2]; rfl) (by decide) ?_
        refine r_iload hc 0 dX2_follow_61 rfl ?_
        refine r_bipush hc (49 : Int32) dX2_follow_63 rfl ?_
        refine r_icmp_lt hc 79 dX2_follow_65 (by decide) (fun c_2 => ?_) (fun c_2 => ?_)
        · have hf := o_pos c_2 hf
          refine r_iconst hc (5 : Int32) dX2_follow_79 rfl ?_
          exact r_iret hK (Option.some.inj hf) rfl dX2_follow_80
        · have hf := o_neg c_2 hf
          refine r_iload hc 0 dX2_follow_68 rfl ?_
          refine r_bipush hc (57 : Int32) dX2_follow_70 rfl ?_
          refine r_icmp_gt hc 79 dX2_follow_72 (by decide) (fun c_3 => ?_) (fun c_3 => ?_)
          · have hf := o_pos c_3 hf
            refine r_iconst hc (5 : Int32) dX2_follow_79 rfl ?_
            exact r_iret hK (Option.some.inj hf) rfl dX2_follow_80
          · have hf := o_neg c_3 hf
            refine r_iconst hc (0 : Int32) dX2_follow_75 rfl ?_
            refine r_goto hc 80 dX2_follow_76 (by decide) ?_
            exact r_iret hK (Option.some.inj hf) rfl dX2_follow_80
      · have hf := o_neg c_7_2 hf
        by_cases c_7_3 : x1 = (3 : Int32)
        · have hf := o_pos c_7_3 hf
          refine r_tabIn (off := 72) hc 81 dX2_follow_9 (by rw [c_7_3]; decide) (by rw [c_7_3]; decide) (by rw [c_7_3]; rfl) (by decide) ?_
          refine r_iload hc 0 dX2_follow_81 rfl ?_
          refine r_iload_n hc 4 dX2_follow_83 rfl ?_
          obtain ⟨q84, hq84, hf⟩ := o_bind hf
          refine r_callSi (ws' := (wP cy A pd)) (As := [.int ((P_signs pd) (x2).toNatClampNeg), .int x3]) (rest := []) hc (c_X2_isRoomLetter  ((P_signs pd) (x2).toNatClampNeg) x3 q84 hq84) ks_X2_isRoomLetter mw_439 _ _ _ (Sp_none _) rfl rfl (Nat.le_of_ble_eq_true rfl) ⟨by decide, by decide⟩ dX2_follow_84 ?_
          refine r_if_eq hc 94 dX2_follow_87 (by decide) (fun c_4 => ?_) (fun c_4 => ?_)
          · have hf := o_pos c_4 hf
            refine r_iconst hc (5 : Int32) dX2_follow_94 rfl ?_
            exact r_iret hK (Option.some.inj hf) rfl dX2_follow_95
          · have hf := o_neg c_4 hf
            refine r_iconst hc (4 : Int32) dX2_follow_90 rfl ?_
            refine r_goto hc 95 dX2_follow_91 (by decide) ?_
            exact r_iret hK (Option.some.inj hf) rfl dX2_follow_95
        · have hf := o_neg c_7_3 hf
          have ho9 : (x1).toInt < 0 ∨ 3 < (x1).toInt := by
            refine tab_out (fun cc9 h1 h2 => ?_)
            rcases (show cc9 = 0 ∨ cc9 = 1 ∨ cc9 = 2 ∨ cc9 = 3 by omega) with rfl | rfl | rfl | rfl
            · exact c_7_0
            · exact c_7_1
            · exact c_7_2
            · exact c_7_3
          refine r_tabOut hc 96 dX2_follow_9 ho9 (by decide) ?_
          refine r_iload hc 0 dX2_follow_96 rfl ?_
          refine r_bipush hc (48 : Int32) dX2_follow_98 rfl ?_
          refine r_icmp_lt hc 114 dX2_follow_100 (by decide) (fun c_5 => ?_) (fun c_5 => ?_)
          · have hf := o_pos c_5 hf
            refine r_iconst hc (5 : Int32) dX2_follow_114 rfl ?_
            exact r_iret hK (Option.some.inj hf) rfl dX2_follow_115
          · have hf := o_neg c_5 hf
            refine r_iload hc 0 dX2_follow_103 rfl ?_
            refine r_bipush hc (51 : Int32) dX2_follow_105 rfl ?_
            refine r_icmp_gt hc 114 dX2_follow_107 (by decide) (fun c_6 => ?_) (fun c_6 => ?_)
            · have hf := o_pos c_6 hf
              refine r_iconst hc (5 : Int32) dX2_follow_114 rfl ?_
              exact r_iret hK (Option.some.inj hf) rfl dX2_follow_115
            · have hf := o_neg c_6 hf
              refine r_iconst hc (0 : Int32) dX2_follow_110 rfl ?_
              refine r_goto hc 115 dX2_follow_111 (by decide) ?_
              exact r_iret hK (Option.some.inj hf) rfl dX2_follow_115
def X2_flaw_B4 (k4 : PS → Int32 → Int32 → Int32 → Option (Int32)) (pd : PS) (x1 : Int32) (x2 : Int32) (x3 : Int32) : Option (Int32) :=
  (if (P_used pd) ≤ x3 then (if x2 = 0 then (some ((-6 : Int32))) else (some ((P_used pd)))) else ((f_X2_follow pd x2 x3 x1).bind fun q16 => (if q16 = (5 : Int32) then (some (x3)) else (k4 pd x1 q16 (x3 + (1 : Int32))))))
def f_X2_flaw (pd : PS) (x1 : Int32) : Option (Int32) :=
  (it X2_flaw_B4 (fun _ _ _ _ => none) FU pd x1 (0 : Int32) (0 : Int32))
theorem kv_X2_flaw : KV RX2 yX2_flaw cX2_flaw 4 (some .int) 1 := ⟨mw_426, mw_427, mw_57, mw_428, by decide +kernel⟩
set_option maxHeartbeats 8000000 in
set_option maxRecDepth 100000 in
theorem c_X2_flaw {l : Launch} {E : va_G} {cy : Nat → ClassId} (A : Nat → Nat) (pd : PS) (x1 : Int32) (q : Int32) (hf : f_X2_flaw pd x1 = some q) : Ci l yX2_flaw cX2_flaw 4 (some .int) 4 127 E cy [.ref (A 0), .int x1] (wP cy A pd) q (wP cy A pd) := by
  refine Ci.of RX2 (by decide) rfl (Nat.le_of_ble_eq_true rfl) ?_
  intro K hK
  have hc := hK.cq
  have L4 : ∀ (n4 : Nat) (x1 : Int32) (x2 : Int32) (x3 : Int32), it X2_flaw_B4 (fun _ _ _ _ => none) n4 pd x1 x2 x3 = some q → V K (wP cy A pd) 4 [(0, .ref (A 0)), (1, .int x1), (2, .int x2), (3, .int x3)] [] := by
    intro n4
    induction n4 with
    | zero => intro x1 x2 x3 hf; exact (o_none hf).elim
    | succ n4 ih4 =>
      intro x1 x2 x3 hf
      replace hf : X2_flaw_B4 (it X2_flaw_B4 (fun _ _ _ _ => none) n4) pd x1 x2 x3 = some q := hf
      unfold X2_flaw_B4 at hf
      refine r_iload_n hc 3 dX2_flaw_4 rfl ?_
      refine r_aload_n hc 0 dX2_flaw_5 rfl ?_
      refine r_get (v := .int (P_used pd)) hc iw_X2 0 rfl rfl 0 (by decide) mw_150 rfl dX2_flaw_6 ?_
      refine r_icmp_ge hc 33 dX2_flaw_9 (by decide) (fun c_1 => ?_) (fun c_1 => ?_)
      · have hf := o_pos c_1 hf
        refine r_iload_n hc 2 dX2_flaw_33 rfl ?_
        refine r_if_ne hc 42 dX2_flaw_34 (by decide) (fun c_2 => ?_) (fun c_2 => ?_)
        · have hf := o_neg c_2 hf
          refine r_aload_n hc 0 dX2_flaw_42 rfl ?_
          refine r_get (v := .int (P_used pd)) hc iw_X2 0 rfl rfl 0 (by decide) mw_150 rfl dX2_flaw_43 ?_
          exact r_iret hK (Option.some.inj hf) rfl dX2_flaw_46
        · have hf := o_pos c_2 hf
          refine r_bipush hc (-6 : Int32) dX2_flaw_37 rfl ?_
          refine r_goto hc 46 dX2_flaw_39 (by decide) ?_
          exact r_iret hK (Option.some.inj hf) rfl dX2_flaw_46
      · have hf := o_neg c_1 hf
        refine r_aload_n hc 0 dX2_flaw_12 rfl ?_
        refine r_iload_n hc 2 dX2_flaw_13 rfl ?_
        refine r_iload_n hc 3 dX2_flaw_14 rfl ?_
        refine r_iload_n hc 1 dX2_flaw_15 rfl ?_
        obtain ⟨q16, hq16, hf⟩ := o_bind hf
        refine r_callVi (ws' := (wP cy A pd)) (As := [.int x2, .int x3, .int x1]) (rest := []) hc (c_X2_follow A pd x2 x3 x1 q16 hq16) kv_X2_follow mw_429 0 rfl rfl _ _ _ (Sp_all _ _) rfl rfl (Nat.le_of_ble_eq_true rfl) ⟨by decide, by decide⟩ dX2_flaw_16 ?_
        refine r_istore_n hc [(2, .int q16), (0, .ref (A 0)), (1, .int x1), (3, .int x3)] dX2_flaw_19 (by decide) rfl ?_
        refine r_iload_n hc 0 dX2_flaw_20 rfl ?_
        refine r_iconst hc (5 : Int32) dX2_flaw_21 rfl ?_
        refine r_icmp_ne hc 27 dX2_flaw_22 (by decide) (fun c_3 => ?_) (fun c_3 => ?_)
        · have hf := o_neg c_3 hf
          refine r_iinc hc 3 [(3, .int (x3 + (1 : Int32))), (2, .int q16), (0, .ref (A 0)), (1, .int x1)] (x3 + (1 : Int32)) dX2_flaw_27 rfl rfl (by decide) rfl ?_
          refine r_goto hc 4 dX2_flaw_30 (by decide) ?_
          exact V.sub [2, 3, 1, 0] rfl (ih4 x1 q16 (x3 + (1 : Int32)) hf)
        · have hf := o_pos c_3 hf
          refine r_iload_n hc 3 dX2_flaw_25 rfl ?_
          exact r_iret hK (Option.some.inj hf) rfl dX2_flaw_26
  show V K (wP cy A pd) 0 [(0, .ref (A 0)), (1, .int x1)] []
  unfold f_X2_flaw at hf
  refine r_iconst hc (0 : Int32) dX2_flaw_0 rfl ?_
  refine r_istore_n hc [(2, .int (0 : Int32)), (0, .ref (A 0)), (1, .int x1)] dX2_flaw_1 (by decide) rfl ?_
  refine r_iconst hc (0 : Int32) dX2_flaw_2 rfl ?_
  refine r_istore_n hc [(3, .int (0 : Int32)), (2, .int (0 : Int32)), (0, .ref (A 0)), (1, .int x1)] dX2_flaw_3 (by decide) rfl ?_
  exact V.sub [2, 3, 1, 0] rfl (L4 FU x1 (0 : Int32) (0 : Int32) hf)
