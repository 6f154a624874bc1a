def X3_spanOf_J41 (pd : PS) (s0 : Int32) : Option (Int32) :=
  (if s0 = 0 then (some ((3 : Int32))) else (some ((2 : Int32))))
def X3_spanOf_J40 (pd : PS) : Option (Int32) :=
  (X3_spanOf_J41 pd (0 : Int32))
def f_X3_spanOf (pd : PS) (x1 : Int32) : Option (Int32) :=
  ((f_X2_sign pd x1).bind fun q2 => (if q2 = (46 : Int32) then (some ((1 : Int32))) else ((f_X2_sign pd x1).bind fun q14 => ((f_X2_isGuestLetter q14).bind fun q17 => (if q17 = 0 then (X3_spanOf_J40 pd) else ((f_X2_sign pd (x1 + (1 : Int32))).bind fun q27 => ((f_X2_isGuestLetter q27).bind fun q30 => (if q30 = 0 then (X3_spanOf_J41 pd (1 : Int32)) else (X3_spanOf_J40 pd)))))))))
theorem ks_X3_spanOf : KS yX3_spanOf cX3_spanOf 3 (some .int) 2 := ⟨mw_489, mw_59, mw_490, by decide +kernel⟩
set_option maxHeartbeats 8000000 in
set_option maxRecDepth 100000 in
theorem c_X3_spanOf {l : Launch} {E : va_G} {cy : Nat → ClassId} (B0 : Nat → Nat) (pd : PS) (x1 : Int32) (q : Int32) (hf : f_X3_spanOf pd x1 = some q) : Ci l yX3_spanOf cX3_spanOf 3 (some .int) 2 81 E cy [.ref (B0 0), .int x1] (wP cy B0 pd) q (wP cy B0 pd) := by
  refine Ci.of RX3 (by decide) rfl (Nat.le_of_ble_eq_true rfl) ?_
  intro K hK
  have hc := hK.cq
  have J41 : ∀ (s0 : Int32), X3_spanOf_J41  pd s0 = some q → V K (wP cy B0 pd) 41 [] [.int s0] := by
    intro s0 hf
    unfold X3_spanOf_J41 at hf
    refine r_istore_n hc [(2, .int s0)] dX3_spanOf_41 (by decide) rfl ?_
    refine r_iload_n hc 0 dX3_spanOf_42 rfl ?_
    refine r_if_eq hc 50 dX3_spanOf_43 (by decide) (fun c_4 => ?_) (fun c_4 => ?_)
    · have hf := o_pos c_4 hf
      refine r_iconst hc (3 : Int32) dX3_spanOf_50 rfl ?_
      exact r_iret hK (Option.some.inj hf) rfl dX3_spanOf_51
    · have hf := o_neg c_4 hf
      refine r_iconst hc (2 : Int32) dX3_spanOf_46 rfl ?_
      refine r_goto hc 51 dX3_spanOf_47 (by decide) ?_
      exact r_iret hK (Option.some.inj hf) rfl dX3_spanOf_51
  have J40 : X3_spanOf_J40  pd = some q → V K (wP cy B0 pd) 40 [] [] := by
    intro  hf
    unfold X3_spanOf_J40 at hf
    refine r_iconst hc (0 : Int32) dX3_spanOf_40 rfl ?_
    exact V.sub [] rfl (J41 (0 : Int32) hf)
  show V K (wP cy B0 pd) 0 [(0, .ref (B0 0)), (1, .int x1)] []
  unfold f_X3_spanOf at hf
  refine r_aload_n hc 0 dX3_spanOf_0 rfl ?_
  refine r_iload_n hc 1 dX3_spanOf_1 rfl ?_
  obtain ⟨q2, hq2, hf⟩ := o_bind hf
  refine r_callVi (ws' := (wP cy B0 pd)) (As := [.int x1]) (rest := []) hc (c_X2_sign B0 pd x1 q2 hq2) kv_X2_sign mw_491 0 rfl rfl _ _ _ (Sp_all _ _) rfl rfl (Nat.le_of_ble_eq_true rfl) ⟨by decide, by decide⟩ dX3_spanOf_2 ?_
  refine r_bipush hc (46 : Int32) dX3_spanOf_5 rfl ?_
  refine r_icmp_ne hc 12 dX3_spanOf_7 (by decide) (fun c_1 => ?_) (fun c_1 => ?_)
  · have hf := o_neg c_1 hf
    refine r_aload_n hc 0 dX3_spanOf_12 rfl ?_
    refine r_iload_n hc 1 dX3_spanOf_13 rfl ?_
    obtain ⟨q14, hq14, hf⟩ := o_bind hf
    refine r_callVi (ws' := (wP cy B0 pd)) (As := [.int x1]) (rest := []) hc (c_X2_sign B0 pd x1 q14 hq14) kv_X2_sign mw_491 0 rfl rfl _ _ _ (Sp_all _ _) rfl rfl (Nat.le_of_ble_eq_true rfl) ⟨by decide, by decide⟩ dX3_spanOf_14 ?_
    obtain ⟨q17, hq17, hf⟩ := o_bind hf
    refine r_callSi (ws' := (wP cy B0 pd)) (As := [.int q14]) (rest := []) hc (c_X2_isGuestLetter  q14 q17 hq17) ks_X2_isGuestLetter mw_492 _ _ _ (Sp_none _) rfl rfl (Nat.le_of_ble_eq_true rfl) ⟨by decide, by decide⟩ dX3_spanOf_17 ?_
    refine r_if_eq hc 40 dX3_spanOf_20 (by decide) (fun c_2 => ?_) (fun c_2 => ?_)
    · have hf := o_pos c_2 hf
      exact V.sub [] rfl (J40  hf)
    · have hf := o_neg c_2 hf
      refine r_aload_n hc 0 dX3_spanOf_23 rfl ?_
      refine r_iload_n hc 1 dX3_spanOf_24 rfl ?_
      refine r_iconst hc (1 : Int32) dX3_spanOf_25 rfl ?_
      refine r_iadd hc dX3_spanOf_26 ?_
      obtain ⟨q27, hq27, hf⟩ := o_bind hf
      refine r_callVi (ws' := (wP cy B0 pd)) (As := [.int (x1 + (1 : Int32))]) (rest := []) hc (c_X2_sign B0 pd (x1 + (1 : Int32)) q27 hq27) kv_X2_sign mw_491 0 rfl rfl _ _ _ (Sp_all _ _) rfl rfl (Nat.le_of_ble_eq_true rfl) ⟨by decide, by decide⟩ dX3_spanOf_27 ?_
      obtain ⟨q30, hq30, hf⟩ := o_bind hf
      refine r_callSi (ws' := (wP cy B0 pd)) (As := [.int q27]) (rest := []) hc (c_X2_isGuestLetter  q27 q30 hq30) ks_X2_isGuestLetter mw_492 _ _ _ (Sp_none _) rfl rfl (Nat.le_of_ble_eq_true rfl) ⟨by decide, by decide⟩ dX3_spanOf_30 ?_
      refine r_if_ne hc 40 dX3_spanOf_33 (by decide) (fun c_3 => ?_) (fun c_3 => ?_)
      · have hf := o_neg c_3 hf
        exact V.sub [] rfl (J40  hf)
      · have hf := o_pos c_3 hf
        refine r_iconst hc (1 : Int32) dX3_spanOf_36 rfl ?_
        refine r_goto hc 41 dX3_spanOf_37 (by decide) ?_
        exact V.sub [] rfl (J41 (1 : Int32) hf)
  · have hf := o_pos c_1 hf
    refine r_iconst hc (1 : Int32) dX3_spanOf_10 rfl ?_
    exact r_iret hK (Option.some.inj hf) rfl dX3_spanOf_11
def f_X3_chat (h : HS) (x1 : Int32) (x2 : Int32) (x3 : Int32) : Option (Int32 × HS) :=
  ((f_X1_whyNotTalk h x1 x2).bind fun q3 => (if q3 = 0 then ((f_X1_talk h x1 x2 x3).bind fun q17 => (some (q3, q17))) else (some (q3, h))))
theorem ks_X3_chat : KS yX3_chat cX3_chat 5 (some .int) 4 := ⟨mw_540, mw_59, mw_541, by decide +kernel⟩
set_option maxHeartbeats 8000000 in
set_option maxRecDepth 100000 in
theorem c_X3_chat {l : Launch} {E : va_G} {cy : Nat → ClassId} (B0 : Nat → Nat) (h : HS) (x1 : Int32) (x2 : Int32) (x3 : Int32) (q : Int32 × HS) (hf : f_X3_chat h x1 x2 x3 = some q) : Ci l yX3_chat cX3_chat 5 (some .int) 3 107 E cy [.ref (B0 0), .int x1, .int x2, .int x3] (wH cy B0 h) q.1 (wH cy B0 q.2) := by
  refine Ci.of RX3 (by decide) rfl (Nat.le_of_ble_eq_true rfl) ?_
  intro K hK
  have hc := hK.cq
  show V K (wH cy B0 h) 0 [(0, .ref (B0 0)), (1, .int x1), (2, .int x2), (3, .int x3)] []
  unfold f_X3_chat at hf
  refine r_aload_n hc 0 dX3_chat_0 rfl ?_
  refine r_iload_n hc 1 dX3_chat_1 rfl ?_
  refine r_iload_n hc 2 dX3_chat_2 rfl ?_
  obtain ⟨q3, hq3, hf⟩ := o_bind hf
  refine r_callVi (ws' := (wH cy B0 h)) (As := [.int x1, .int x2]) (rest := []) hc (c_X1_whyNotTalk B0 h x1 x2 q3 hq3) kv_X1_whyNotTalk mw_542 0 rfl rfl _ _ _ (Sp_all _ _) rfl rfl (Nat.le_of_ble_eq_true rfl) ⟨by decide, by decide⟩ dX3_chat_3 ?_
  refine r_istore hc [(4, .int q3), (0, .ref (B0 0)), (1, .int x1), (2, .int x2), (3, .int x3)] dX3_chat_6 (by decide) rfl ?_
  refine r_iload hc 0 dX3_chat_8 rfl ?_
  refine r_if_ne hc 20 dX3_chat_10 (by decide) (fun c_1 => ?_) (fun c_1 => ?_)
  · have hf := o_neg c_1 hf
    refine r_iload hc 0 dX3_chat_20 rfl ?_
    exact r_iret hK (congrArg (fun z9 => z9.1) (Option.some.inj hf)) (congrArg (fun z9 => (wH cy B0 z9.2)) (Option.some.inj hf)) dX3_chat_22
  · have hf := o_pos c_1 hf
    refine r_aload_n hc 1 dX3_chat_13 rfl ?_
    refine r_iload_n hc 2 dX3_chat_14 rfl ?_
    refine r_iload_n hc 3 dX3_chat_15 rfl ?_
    refine r_iload_n hc 4 dX3_chat_16 rfl ?_
    obtain ⟨q17, hq17, hf⟩ := o_bind hf
    refine r_callVv (ws' := (wH cy B0 q17)) (As := [.int x1, .int x2, .int x3]) (rest := []) hc (c_X1_talk B0 h x1 x2 x3 q17 hq17) kv_X1_talk mw_546 0 rfl rfl _ _ _ (Sp_all _ _) rfl rfl (Nat.le_of_ble_eq_true rfl) ⟨by decide, by decide⟩ dX3_chat_17 ?_
    refine r_iload hc 0 dX3_chat_20 rfl ?_
    exact r_iret hK (congrArg (fun z9 => z9.1) (Option.some.inj hf)) (congrArg (fun z9 => (wH cy B0 z9.2)) (Option.some.inj hf)) dX3_chat_22
def f_X3_fetch (h : HS) (x1 : Int32) (x2 : Int32) (x3 : Int32) : Option (Int32 × HS) :=
  ((f_X1_whyNotCarry h x1 x2 x3).bind fun q4 => (if q4 = 0 then ((f_X1_carry h x1 x2 x3).bind fun q18 => (some (q4, q18))) else (some (q4, h))))
theorem ks_X3_fetch : KS yX3_fetch cX3_fetch 5 (some .int) 4 := ⟨mw_551, mw_59, mw_552, by decide +kernel⟩
set_option maxHeartbeats 8000000 in
set_option maxRecDepth 100000 in
theorem c_X3_fetch {l : Launch} {E : va_G} {cy : Nat → ClassId} (B0 : Nat → Nat) (h : HS) (x1 : Int32) (x2 : Int32) (x3 : Int32) (q : Int32 × HS) (hf : f_X3_fetch h x1 x2 x3 = some q) : Ci l yX3_fetch cX3_fetch 5 (some .int) 2 85 E cy [.ref (B0 0), .int x1, .int x2, .int x3] (wH cy B0 h) q.1 (wH cy B0 q.2) := by
  refine Ci.of RX3 (by decide) rfl (Nat.le_of_ble_eq_true rfl) ?_
  intro K hK
  have hc := hK.cq
  show V K (wH cy B0 h) 0 [(0, .ref (B0 0)), (1, .int x1), (2, .int x2), (3, .int x3)] []
  unfold f_X3_fetch at hf
  refine r_aload_n hc 0 dX3_fetch_0 rfl ?_
  refine r_iload_n hc 1 dX3_fetch_1 rfl ?_
  refine r_iload_n hc 2 dX3_fetch_2 rfl ?_
  refine r_iload_n hc 3 dX3_fetch_3 rfl ?_
  obtain ⟨q4, hq4, hf⟩ := o_bind hf
  refine r_callVi (ws' := (wH cy B0 h)) (As := [.int x1, .int x2, .int x3]) (rest := []) hc (c_X1_whyNotCarry B0 h x1 x2 x3 q4 hq4) kv_X1_whyNotCarry mw_553 0 rfl rfl _ _ _ (Sp_all _ _) rfl rfl (Nat.le_of_ble_eq_true rfl) ⟨by decide, by decide⟩ dX3_fetch_4 ?_
  refine r_istore hc [(4, .int q4), (0, .ref (B0 0)), (1, .int x1), (2, .int x2), (3, .int x3)] dX3_fetch_7 (by decide) rfl ?_
  refine r_iload hc 0 dX3_fetch_9 rfl ?_
  refine r_if_ne hc 21 dX3_fetch_11 (by decide) (fun c_1 => ?_) (fun c_1 => ?_)
  · have hf := o_neg c_1 hf
    refine r_iload hc 0 dX3_fetch_21 rfl ?_
    exact r_iret hK (congrArg (fun z9 => z9.1) (Option.some.inj hf)) (congrArg (fun z9 => (wH cy B0 z9.2)) (Option.some.inj hf)) dX3_fetch_23
  · have hf := o_pos c_1 hf
    refine r_aload_n hc 1 dX3_fetch_14 rfl ?_
    refine r_iload_n hc 2 dX3_fetch_15 rfl ?_
    refine r_iload_n hc 3 dX3_fetch_16 rfl ?_
    refine r_iload_n hc 4 dX3_fetch_17 rfl ?_
    obtain ⟨q18, hq18, hf⟩ := o_bind hf
    refine r_callVv (ws' := (wH cy B0 q18)) (As := [.int x1, .int x2, .int x3]) (rest := []) hc (c_X1_carry B0 h x1 x2 x3 q18 hq18) kv_X1_carry mw_557 0 rfl rfl _ _ _ (Sp_all _ _) rfl rfl (Nat.le_of_ble_eq_true rfl) ⟨by decide, by decide⟩ dX3_fetch_18 ?_
    refine r_iload hc 0 dX3_fetch_21 rfl ?_
    exact r_iret hK (congrArg (fun z9 => z9.1) (Option.some.inj hf)) (congrArg (fun z9 => (wH cy B0 z9.2)) (Option.some.inj hf)) dX3_fetch_23
def f_X3_settle (h : HS) (x1 : Int32) (x2 : Int32) : Option (Int32 × HS) :=
  (if x2 = (95 : Int32) then ((f_X1_whyNotSit h x1).bind fun q8 => (if q8 = 0 then ((f_X1_sit h x1).bind fun q18 => (some (q8, q18))) else (some (q8, h)))) else (if x2 = (94 : Int32) then ((f_X1_whyNotRise h x1).bind fun q32 => (if q32 = 0 then ((f_X1_rise h x1).bind fun q42 => (some (q32, q42))) else (some (q32, h)))) else ((f_X1_whyNotBlock h x1 (x2 - (97 : Int32))).bind fun q54 => (if q54 = 0 then ((f_X1_block h x1 (x2 - (97 : Int32))).bind fun q68 => (some (q54, q68))) else (some (q54, h))))))
theorem ks_X3_settle : KS yX3_settle cX3_settle 4 (some .int) 3 := ⟨mw_514, mw_59, mw_515, by decide +kernel⟩
set_option maxHeartbeats 8000000 in
set_option maxRecDepth 100000 in
theorem c_X3_settle {l : Launch} {E : va_G} {cy : Nat → ClassId} (B0 : Nat → Nat) (h : HS) (x1 : Int32) (x2 : Int32) (q : Int32 × HS) (hf : f_X3_settle h x1 x2 = some q) : Ci l yX3_settle cX3_settle 4 (some .int) 3 106 E cy [.ref (B0 0), .int x1, .int x2] (wH cy B0 h) q.1 (wH cy B0 q.2) := by
  refine Ci.of RX3 (by decide) rfl (Nat.le_of_ble_eq_true rfl) ?_
  intro K hK
  have hc := hK.cq
  show V K (wH cy B0 h) 0 [(0, .ref (B0 0)), (1, .int x1), (2, .int x2)] []
  unfold f_X3_settle at hf
  refine r_iload_n hc 2 dX3_settle_0 rfl ?_
  refine r_bipush hc (95 : Int32) dX3_settle_1 rfl ?_
  refine r_icmp_ne hc 24 dX3_settle_3 (by decide) (fun c_1 => ?_) (fun c_1 => ?_)
  · have hf := o_neg c_1 hf
    refine r_iload_n hc 2 dX3_settle_24 rfl ?_
    refine r_bipush hc (94 : Int32) dX3_settle_25 rfl ?_
    refine r_icmp_ne hc 48 dX3_settle_27 (by decide) (fun c_2 => ?_) (fun c_2 => ?_)
    · have hf := o_neg c_2 hf
      refine r_aload_n hc 0 dX3_settle_48 rfl ?_
      refine r_iload_n hc 1 dX3_settle_49 rfl ?_
      refine r_iload_n hc 2 dX3_settle_50 rfl ?_
      refine r_bipush hc (97 : Int32) dX3_settle_51 rfl ?_
      refine r_isub hc dX3_settle_53 ?_
      obtain ⟨q54, hq54, hf⟩ := o_bind hf
      refine r_callVi (ws' := (wH cy B0 h)) (As := [.int x1, .int (x2 - (97 : Int32))]) (rest := []) hc (c_X1_whyNotBlock B0 h x1 (x2 - (97 : Int32)) q54 hq54) kv_X1_whyNotBlock mw_530 0 rfl rfl _ _ _ (Sp_all _ _) rfl rfl (Nat.le_of_ble_eq_true rfl) ⟨by decide, by decide⟩ dX3_settle_54 ?_
      refine r_istore_n hc [(3, .int q54), (0, .ref (B0 0)), (1, .int x1), (2, .int x2)] dX3_settle_57 (by decide) rfl ?_
      refine r_iload_n hc 0 dX3_settle_58 rfl ?_
      refine r_if_ne hc 71 dX3_settle_59 (by decide) (fun c_3 => ?_) (fun c_3 => ?_)
      · have hf := o_neg c_3 hf
        refine r_iload_n hc 0 dX3_settle_71 rfl ?_
        exact r_iret hK (congrArg (fun z9 => z9.1) (Option.some.inj hf)) (congrArg (fun z9 => (wH cy B0 z9.2)) (Option.some.inj hf)) dX3_settle_72
      · have hf := o_pos c_3 hf
        refine r_aload_n hc 1 dX3_settle_62 rfl ?_
        refine r_iload_n hc 2 dX3_settle_63 rfl ?_
        refine r_iload_n hc 3 dX3_settle_64 rfl ?_
        refine r_bipush hc (97 : Int32) dX3_settle_65 rfl ?_
        refine r_isub hc dX3_settle_67 ?_
        obtain ⟨q68, hq68, hf⟩ := o_bind hf
        refine r_callVv (ws' := (wH cy B0 q68)) (As := [.int x1, .int (x2 - (97 : Int32))]) (rest := []) hc (c_X1_block B0 h x1 (x2 - (97 : Int32)) q68 hq68) kv_X1_block mw_535 0 rfl rfl _ _ _ (Sp_all _ _) rfl rfl (Nat.le_of_ble_eq_true rfl) ⟨by decide, by decide⟩ dX3_settle_68 ?_
        refine r_iload_n hc 0 dX3_settle_71 rfl ?_
        exact r_iret hK (congrArg (fun z9 => z9.1) (Option.some.inj hf)) (congrArg (fun z9 => (wH cy B0 z9.2)) (Option.some.inj hf)) dX3_settle_72
    · have hf := o_pos c_2 hf
      refine r_aload_n hc 0 dX3_settle_30 rfl ?_
      refine r_iload_n hc 1 dX3_settle_31 rfl ?_
      obtain ⟨q32, hq32, hf⟩ := o_bind hf
      refine r_callVi (ws' := (wH cy B0 h)) (As := [.int x1]) (rest := []) hc (c_X1_whyNotRise B0 h x1 q32 hq32) kv_X1_whyNotRise mw_525 0 rfl rfl _ _ _ (Sp_all _ _) rfl rfl (Nat.le_of_ble_eq_true rfl) ⟨by decide, by decide⟩ dX3_settle_32 ?_
      refine r_istore_n hc [(3, .int q32), (0, .ref (B0 0)), (1, .int x1), (2, .int x2)] dX3_settle_35 (by decide) rfl ?_
      refine r_iload_n hc 0 dX3_settle_36 rfl ?_
      refine r_if_ne hc 71 dX3_settle_37 (by decide) (fun c_4 => ?_) (fun c_4 => ?_)
      · have hf := o_neg c_4 hf
        refine r_iload_n hc 0 dX3_settle_71 rfl ?_
        exact r_iret hK (congrArg (fun z9 => z9.1) (Option.some.inj hf)) (congrArg (fun z9 => (wH cy B0 z9.2)) (Option.some.inj hf)) dX3_settle_72
      · have hf := o_pos c_4 hf
        refine r_aload_n hc 1 dX3_settle_40 rfl ?_
        refine r_iload_n hc 2 dX3_settle_41 rfl ?_
        obtain ⟨q42, hq42, hf⟩ := o_bind hf
        refine r_callVv (ws' := (wH cy B0 q42)) (As := [.int x1]) (rest := []) hc (c_X1_rise B0 h x1 q42 hq42) kv_X1_rise mw_529 0 rfl rfl _ _ _ (Sp_all _ _) rfl rfl (Nat.le_of_ble_eq_true rfl) ⟨by decide, by decide⟩ dX3_settle_42 ?_
        refine r_goto hc 71 dX3_settle_45 (by decide) ?_
        refine r_iload_n hc 0 dX3_settle_71 rfl ?_
        exact r_iret hK (congrArg (fun z9 => z9.1) (Option.some.inj hf)) (congrArg (fun z9 => (wH cy B0 z9.2)) (Option.some.inj hf)) dX3_settle_72
  · have hf := o_pos c_1 hf
    refine r_aload_n hc 0 dX3_settle_6 rfl ?_
    refine r_iload_n hc 1 dX3_settle_7 rfl ?_
    obtain ⟨q8, hq8, hf⟩ := o_bind hf
    refine r_callVi (ws' := (wH cy B0 h)) (As := [.int x1]) (rest := []) hc (c_X1_whyNotSit B0 h x1 q8 hq8) kv_X1_whyNotSit mw_516 0 rfl rfl _ _ _ (Sp_all _ _) rfl rfl (Nat.le_of_ble_eq_true rfl) ⟨by decide, by decide⟩ dX3_settle_8 ?_
    refine r_istore_n hc [(3, .int q8), (0, .ref (B0 0)), (1, .int x1), (2, .int x2)] dX3_settle_11 (by decide) rfl ?_
    refine r_iload_n hc 0 dX3_settle_12 rfl ?_
    refine r_if_ne hc 71 dX3_settle_13 (by decide) (fun c_5 => ?_) (fun c_5 => ?_)
    · have hf := o_neg c_5 hf
      refine r_iload_n hc 0 dX3_settle_71 rfl ?_
      exact r_iret hK (congrArg (fun z9 => z9.1) (Option.some.inj hf)) (congrArg (fun z9 => (wH cy B0 z9.2)) (Option.some.inj hf)) dX3_settle_72
    · have hf := o_pos c_5 hf
      refine r_aload_n hc 1 dX3_settle_16 rfl ?_
      refine r_iload_n hc 2 dX3_settle_17 rfl ?_
      obtain ⟨q18, hq18, hf⟩ := o_bind hf
      refine r_callVv (ws' := (wH cy B0 q18)) (As := [.int x1]) (rest := []) hc (c_X1_sit B0 h x1 q18 hq18) kv_X1_sit mw_521 0 rfl rfl _ _ _ (Sp_all _ _) rfl rfl (Nat.le_of_ble_eq_true rfl) ⟨by decide, by decide⟩ dX3_settle_18 ?_
      refine r_goto hc 71 dX3_settle_21 (by decide) ?_
      refine r_iload_n hc 0 dX3_settle_71 rfl ?_
      exact r_iret hK (congrArg (fun z9 => z9.1) (Option.some.inj hf)) (congrArg (fun z9 => (wH cy B0 z9.2)) (Option.some.inj hf)) dX3_settle_72
def f_X3_attempt (pd : PS) (h : HS) (x1 : Int32) (x2 : Int32) : Option (Int32 × HS) :=
  ((f_X2_sign pd x1).bind fun q2 => ((f_X2_sign pd (x1 + (1 : Int32))).bind fun q11 => (if x2 = (2 : Int32) then ((f_X3_settle h (q2 - (65 : Int32)) q11).bind fun q29 => (some (q29.1, q29.2))) else ((f_X2_sign pd (x1 + (2 : Int32))).bind fun q37 => ((f_X2_isGuestLetter q2).bind fun q47 => (if q47 = 0 then ((f_X3_fetch h (q2 - (97 : Int32)) (q11 - (97 : Int32)) (q37 - (48 : Int32))).bind fun q83 => (some (q83.1, q83.2))) else ((f_X3_chat h (q2 - (65 : Int32)) (q11 - (65 : Int32)) (q37 - (48 : Int32))).bind fun q66 => (some (q66.1, q66.2)))))))))
theorem ks_X3_attempt : KS yX3_attempt cX3_attempt 7 (some .int) 4 := ⟨mw_511, mw_59, mw_512, by decide +kernel⟩
set_option maxHeartbeats 8000000 in
set_option maxRecDepth 100000 in
theorem c_X3_attempt {l : Launch} {E : va_G} {cy : Nat → ClassId} (B0 : Nat → Nat) (B3 : Nat → Nat) (pd : PS) (h : HS) (x1 : Int32) (x2 : Int32) (q : Int32 × HS) (hf : f_X3_attempt pd h x1 x2 = some q) : Ci l yX3_attempt cX3_attempt 7 (some .int) 4 131 E cy [.ref (B0 0), .int x1, .int x2, .ref (B3 0)] (wP cy B0 pd ++ wH cy B3 h) q.1 (wP cy B0 pd ++ wH cy B3 q.2) := by
  refine Ci.of RX3 (by decide) rfl (Nat.le_of_ble_eq_true rfl) ?_
  intro K hK
  have hc := hK.cq
  show V K (wP cy B0 pd ++ wH cy B3 h) 0 [(0, .ref (B0 0)), (1, .int x1), (2, .int x2), (3, .ref (B3 0))] []
  unfold f_X3_attempt at hf
  refine r_aload_n hc 0 dX3_attempt_0 rfl ?_
  refine r_iload_n hc 1 dX3_attempt_1 rfl ?_
  obtain ⟨q2, hq2, hf⟩ := o_bind hf
  refine r_callVi (ws' := (wP cy B0 pd ++ wH cy B3 h)) (As := [.int x1]) (rest := []) hc (c_X2_sign B0 pd x1 q2 hq2) kv_X2_sign mw_491 0 rfl rfl [0, 1] [2, 3, 4, 5, 6, 7, 8, 9, 10, 11] [10, 11, 0, 1, 2, 3, 4, 5, 6, 7, 8, 9] ⟨rfl, rfl, rfl, rfl, rfl, rfl, rfl⟩ rfl rfl (Nat.le_of_ble_eq_true rfl) ⟨by decide, by decide⟩ dX3_attempt_2 ?_
  refine r_istore hc [(4, .int q2), (0, .ref (B0 0)), (1, .int x1), (2, .int x2), (3, .ref (B3 0))] dX3_attempt_5 (by decide) rfl ?_
  refine r_aload_n hc 1 dX3_attempt_7 rfl ?_
  refine r_iload_n hc 2 dX3_attempt_8 rfl ?_
  refine r_iconst hc (1 : Int32) dX3_attempt_9 rfl ?_
  refine r_iadd hc dX3_attempt_10 ?_
  obtain ⟨q11, hq11, hf⟩ := o_bind hf
  refine r_callVi (ws' := (wP cy B0 pd ++ wH cy B3 h)) (As := [.int (x1 + (1 : Int32))]) (rest := []) hc (c_X2_sign B0 pd (x1 + (1 : Int32)) q11 hq11) kv_X2_sign mw_491 0 rfl rfl [0, 1] [2, 3, 4, 5, 6, 7, 8, 9, 10, 11] [10, 11, 0, 1, 2, 3, 4, 5, 6, 7, 8, 9] ⟨rfl, rfl, rfl, rfl, rfl, rfl, rfl⟩ rfl rfl (Nat.le_of_ble_eq_true rfl) ⟨by decide, by decide⟩ dX3_attempt_11 ?_
  refine r_istore hc [(5, .int q11), (4, .int q2), (0, .ref (B0 0)), (1, .int x1), (2, .int x2), (3, .ref (B3 0))] dX3_attempt_14 (by decide) rfl ?_
  refine r_iload_n hc 4 dX3_attempt_16 rfl ?_
  refine r_iconst hc (2 : Int32) dX3_attempt_17 rfl ?_
  refine r_icmp_ne hc 33 dX3_attempt_18 (by decide) (fun c_1 => ?_) (fun c_1 => ?_)
  · have hf := o_neg c_1 hf
    refine r_aload_n hc 2 dX3_attempt_33 rfl ?_
    refine r_iload_n hc 3 dX3_attempt_34 rfl ?_
    refine r_iconst hc (2 : Int32) dX3_attempt_35 rfl ?_
    refine r_iadd hc dX3_attempt_36 ?_
    obtain ⟨q37, hq37, hf⟩ := o_bind hf
    refine r_callVi (ws' := (wP cy B0 pd ++ wH cy B3 h)) (As := [.int (x1 + (2 : Int32))]) (rest := []) hc (c_X2_sign B0 pd (x1 + (2 : Int32)) q37 hq37) kv_X2_sign mw_491 0 rfl rfl [0, 1] [2, 3, 4, 5, 6, 7, 8, 9, 10, 11] [10, 11, 0, 1, 2, 3, 4, 5, 6, 7, 8, 9] ⟨rfl, rfl, rfl, rfl, rfl, rfl, rfl⟩ rfl rfl (Nat.le_of_ble_eq_true rfl) ⟨by decide, by decide⟩ dX3_attempt_37 ?_
    refine r_bipush hc (48 : Int32) dX3_attempt_40 rfl ?_
    refine r_isub hc dX3_attempt_42 ?_
    refine r_istore hc [(6, .int (q37 - (48 : Int32))), (5, .int q11), (4, .int q2), (0, .ref (B0 0)), (1, .int x1), (2, .int x2), (3, .ref (B3 0))] dX3_attempt_43 (by decide) rfl ?_
    refine r_iload hc 2 dX3_attempt_45 rfl ?_
    obtain ⟨q47, hq47, hf⟩ := o_bind hf
    refine r_callSi (ws' := (wP cy B0 pd ++ wH cy B3 h)) (As := [.int q2]) (rest := []) hc (c_X2_isGuestLetter  q2 q47 hq47) ks_X2_isGuestLetter mw_492 _ _ _ (Sp_none _) rfl rfl (Nat.le_of_ble_eq_true rfl) ⟨by decide, by decide⟩ dX3_attempt_47 ?_
    refine r_if_eq hc 70 dX3_attempt_50 (by decide) (fun c_2 => ?_) (fun c_2 => ?_)
    · have hf := o_pos c_2 hf
      refine r_aload_n hc 6 dX3_attempt_70 rfl ?_
      refine r_iload hc 2 dX3_attempt_71 rfl ?_
      refine r_bipush hc (97 : Int32) dX3_attempt_73 rfl ?_
      refine r_isub hc dX3_attempt_75 ?_
      refine r_iload hc 1 dX3_attempt_76 rfl ?_
      refine r_bipush hc (97 : Int32) dX3_attempt_78 rfl ?_
      refine r_isub hc dX3_attempt_80 ?_
      refine r_iload hc 0 dX3_attempt_81 rfl ?_
      obtain ⟨q83, hq83, hf⟩ := o_bind hf
      refine r_callSi (ws' := (wP cy B0 pd ++ wH cy B3 q83.2)) (As := [.ref (B3 0), .int (q2 - (97 : Int32)), .int (q11 - (97 : Int32)), .int (q37 - (48 : Int32))]) (rest := []) hc (c_X3_fetch B3 h (q2 - (97 : Int32)) (q11 - (97 : Int32)) (q37 - (48 : Int32)) q83 hq83) ks_X3_fetch mw_550 [2, 3, 4, 5, 6, 7, 8, 9, 10, 11] [0, 1] [0, 1, 2, 3, 4, 5, 6, 7, 8, 9, 10, 11] ⟨rfl, rfl, rfl, rfl, rfl, rfl, rfl⟩ rfl rfl (Nat.le_of_ble_eq_true rfl) ⟨by decide, by decide⟩ dX3_attempt_83 ?_
      exact r_iret hK (congrArg (fun z9 => z9.1) (Option.some.inj hf)) (congrArg (fun z9 => (wP cy B0 pd ++ wH cy B3 z9.2)) (Option.some.inj hf)) dX3_attempt_86
    · have hf := o_neg c_2 hf
      refine r_aload_n hc 6 dX3_attempt_53 rfl ?_
      refine r_iload hc 2 dX3_attempt_54 rfl ?_
      refine r_bipush hc (65 : Int32) dX3_attempt_56 rfl ?_
      refine r_isub hc dX3_attempt_58 ?_
      refine r_iload hc 1 dX3_attempt_59 rfl ?_
      refine r_bipush hc (65 : Int32) dX3_attempt_61 rfl ?_
      refine r_isub hc dX3_attempt_63 ?_
      refine r_iload hc 0 dX3_attempt_64 rfl ?_
      obtain ⟨q66, hq66, hf⟩ := o_bind hf
      refine r_callSi (ws' := (wP cy B0 pd ++ wH cy B3 q66.2)) (As := [.ref (B3 0), .int (q2 - (65 : Int32)), .int (q11 - (65 : Int32)), .int (q37 - (48 : Int32))]) (rest := []) hc (c_X3_chat B3 h (q2 - (65 : Int32)) (q11 - (65 : Int32)) (q37 - (48 : Int32)) q66 hq66) ks_X3_chat mw_539 [2, 3, 4, 5, 6, 7, 8, 9, 10, 11] [0, 1] [0, 1, 2, 3, 4, 5, 6, 7, 8, 9, 10, 11] ⟨rfl, rfl, rfl, rfl, rfl, rfl, rfl⟩ rfl rfl (Nat.le_of_ble_eq_true rfl) ⟨by decide, by decide⟩ dX3_attempt_66 ?_
      exact r_iret hK (congrArg (fun z9 => z9.1) (Option.some.inj hf)) (congrArg (fun z9 => (wP cy B0 pd ++ wH cy B3 z9.2)) (Option.some.inj hf)) dX3_attempt_69
  · have hf := o_pos c_1 hf
    refine r_aload_n hc 5 dX3_attempt_21 rfl ?_
    refine r_iload hc 1 dX3_attempt_22 rfl ?_
    refine r_bipush hc (65 : Int32) dX3_attempt_24 rfl ?_
    refine r_isub hc dX3_attempt_26 ?_
    refine r_iload hc 0 dX3_attempt_27 rfl ?_
    obtain ⟨q29, hq29, hf⟩ := o_bind hf
    refine r_callSi (ws' := (wP cy B0 pd ++ wH cy B3 q29.2)) (As := [.ref (B3 0), .int (q2 - (65 : Int32)), .int q11]) (rest := []) hc (c_X3_settle B3 h (q2 - (65 : Int32)) q11 q29 hq29) ks_X3_settle mw_513 [2, 3, 4, 5, 6, 7, 8, 9, 10, 11] [0, 1] [0, 1, 2, 3, 4, 5, 6, 7, 8, 9, 10, 11] ⟨rfl, rfl, rfl, rfl, rfl, rfl, rfl⟩ rfl rfl (Nat.le_of_ble_eq_true rfl) ⟨by decide, by decide⟩ dX3_attempt_29 ?_
    exact r_iret hK (congrArg (fun z9 => z9.1) (Option.some.inj hf)) (congrArg (fun z9 => (wP cy B0 pd ++ wH cy B3 z9.2)) (Option.some.inj hf)) dX3_attempt_32
def X3_perform_J79 (k21 : YS → PS → HS → DS → Int32 → Int32 → Option (YS × DS)) (pl : YS) (pd : PS) (h : HS) (d : DS) (x4 : Int32) (x5 : Int32) (x6 : Int32) : Option (YS × DS) :=
  (if (Y_why pl) = 0 then (k21 (Y_set_events pl ((Y_events pl) + (1 : Int32))) pd h d (x4 + x6) (x5 + (1 : Int32))) else (some (pl, d)))
def X3_perform_B21 (k21 : YS → PS → HS → DS → Int32 → Int32 → Option (YS × DS)) (pl : YS) (pd : PS) (h : HS) (d : DS) (x4 : Int32) (x5 : Int32) : Option (YS × DS) :=
  (if (60 : Int32) ≤ x5 then (some (pl, d)) else (if (P_used pd) ≤ x4 then (some (pl, d)) else ((f_X3_spanOf pd x4).bind fun q40 => (if q40 = (1 : Int32) then ((f_X0_ready d).bind fun q52 => ((f_X0_minute q52).bind fun q56 => (X3_perform_J79 k21 pl pd h q56.2 x4 x5 q40))) else ((f_X3_attempt pd (D_house d) x4 q40).bind fun q73 => (X3_perform_J79 k21 (Y_set_why pl q73.1) pd h (D_set_house d q73.2) x4 x5 q40))))))
def f_X3_perform (pl : YS) (pd : PS) (h : HS) (d : DS) : Option (YS × DS) :=
  ((f_X0_begin d h).bind fun q2 => (it X3_perform_B21 (fun _ _ _ _ _ _ => none) FU (Y_set_why (Y_set_events pl (0 : Int32)) (0 : Int32)) pd h q2 (0 : Int32) (0 : Int32)))
theorem kv_X3_perform : KV RX3 yX3_perform cX3_perform 7 none 3 := ⟨mw_454, mw_455, mw_59, mw_456, by decide +kernel⟩
set_option maxHeartbeats 8000000 in
set_option maxRecDepth 100000 in
theorem c_X3_perform {l : Launch} {E : va_G} {cy : Nat → ClassId} (A : Nat → Nat) (B1 : Nat → Nat) (B2 : Nat → Nat) (B3 : Nat → Nat) (pl : YS) (pd : PS) (h : HS) (d : DS) (q : YS × DS) (hf : f_X3_perform pl pd h d = some q) : Cv l yX3_perform cX3_perform 7 none 5 157 E cy [.ref (A 0), .ref (B1 0), .ref (B2 0), .ref (B3 0)] (wY cy A pl ++ wP cy B1 pd ++ wH cy B2 h ++ wD cy B3 d) (wY cy A q.1 ++ wP cy B1 pd ++ wH cy B2 h ++ wD cy B3 q.2) := by
  refine Cv.of RX3 (by decide) rfl (Nat.le_of_ble_eq_true rfl) ?_
  intro K hK
  have hc := hK.cq
  have L21 : ∀ (n21 : Nat) (pl : YS) (d : DS) (x4 : Int32) (x5 : Int32), it X3_perform_B21 (fun _ _ _ _ _ _ => none) n21 pl pd h d x4 x5 = some q → V K (wY cy A pl ++ wP cy B1 pd ++ wH cy B2 h ++ wD cy B3 d) 21 [(0, .ref (A 0)), (1, .ref (B1 0)), (3, .ref (B3 0)), (4, .int x4), (5, .int x5)] [] := by
    intro n21
    induction n21 with
    | zero => intro pl d x4 x5 hf; exact (o_none hf).elim
    | succ n21 ih21 =>
      have J79 : ∀ (pl : YS) (d : DS) (x4 : Int32) (x5 : Int32) (x6 : Int32), X3_perform_J79 (it X3_perform_B21 (fun _ _ _ _ _ _ => none) n21) pl pd h d x4 x5 x6 = some q → V K (wY cy A pl ++ wP cy B1 pd ++ wH cy B2 h ++ wD cy B3 d) 79 [(0, .ref (A 0)), (1, .ref (B1 0)), (3, .ref (B3 0)), (4, .int x4), (5, .int x5), (6, .int x6)] [] := by
        intro pl d x4 x5 x6 hf
        unfold X3_perform_J79 at hf
        refine r_aload_n hc 0 dX3_perform_79 rfl ?_
        refine r_get (v := .int (Y_why pl)) hc iw_X3 0 rfl rfl 1 (by decide) mw_195 rfl dX3_perform_80 ?_
        refine r_if_eq hc 87 dX3_perform_83 (by decide) (fun c_4 => ?_) (fun c_4 => ?_)
        · have hf := o_pos c_4 hf
          refine r_aload_n hc 0 dX3_perform_87 rfl ?_
          refine r_dup hc dX3_perform_88 rfl ?_
          refine r_get (v := .int (Y_events pl)) hc iw_X3 0 rfl rfl 0 (by decide) mw_193 rfl dX3_perform_89 ?_
          refine r_iconst hc (1 : Int32) dX3_perform_92 rfl ?_
          refine r_iadd hc dX3_perform_93 ?_
          refine r_put hc iw_X3 tyX3 tyX3_ok nmX3 0 rfl rfl 0 (by decide) mw_193 rfl rfl rfl (Nat.le_of_ble_eq_true rfl) dX3_perform_94 (wY cy A (Y_set_events pl ((Y_events pl) + (1 : Int32))) ++ wP cy B1 pd ++ wH cy B2 h ++ wD cy B3 d) rfl ?_
          refine r_iload hc 3 dX3_perform_97 rfl ?_
          refine r_iload hc 5 dX3_perform_99 rfl ?_
          refine r_iadd hc dX3_perform_101 ?_
          refine r_istore hc [(4, .int (x4 + x6)), (0, .ref (A 0)), (1, .ref (B1 0)), (3, .ref (B3 0)), (5, .int x5), (6, .int x6)] dX3_perform_102 (by decide) rfl ?_
          refine r_iinc hc 4 [(5, .int (x5 + (1 : Int32))), (4, .int (x4 + x6)), (0, .ref (A 0)), (1, .ref (B1 0)), (3, .ref (B3 0)), (6, .int x6)] (x5 + (1 : Int32)) dX3_perform_104 rfl rfl (by decide) rfl ?_
          refine r_goto hc 21 dX3_perform_107 (by decide) ?_
          exact V.sub [2, 3, 4, 1, 0] rfl (ih21 (Y_set_events pl ((Y_events pl) + (1 : Int32))) d (x4 + x6) (x5 + (1 : Int32)) hf)
        · have hf := o_neg c_4 hf
          exact r_vret hK (congrArg (fun z9 => (wY cy A z9.1 ++ wP cy B1 pd ++ wH cy B2 h ++ wD cy B3 z9.2)) (Option.some.inj hf)) dX3_perform_86
      intro pl d x4 x5 hf
      replace hf : X3_perform_B21 (it X3_perform_B21 (fun _ _ _ _ _ _ => none) n21) pl pd h d x4 x5 = some q := hf
      unfold X3_perform_B21 at hf
      refine r_iload hc 4 dX3_perform_21 rfl ?_
      refine r_bipush hc (60 : Int32) dX3_perform_23 rfl ?_
      refine r_icmp_ge hc 110 dX3_perform_25 (by decide) (fun c_1 => ?_) (fun c_1 => ?_)
      · have hf := o_pos c_1 hf
        exact r_vret hK (congrArg (fun z9 => (wY cy A z9.1 ++ wP cy B1 pd ++ wH cy B2 h ++ wD cy B3 z9.2)) (Option.some.inj hf)) dX3_perform_110
      · have hf := o_neg c_1 hf
        refine r_iload hc 3 dX3_perform_28 rfl ?_
        refine r_aload_n hc 1 dX3_perform_30 rfl ?_
        refine r_get (v := .int (P_used pd)) hc iw_X2 1 rfl rfl 0 (by decide) mw_151 rfl dX3_perform_31 ?_
        refine r_icmp_ge hc 110 dX3_perform_34 (by decide) (fun c_2 => ?_) (fun c_2 => ?_)
        · have hf := o_pos c_2 hf
          exact r_vret hK (congrArg (fun z9 => (wY cy A z9.1 ++ wP cy B1 pd ++ wH cy B2 h ++ wD cy B3 z9.2)) (Option.some.inj hf)) dX3_perform_110
        · have hf := o_neg c_2 hf
          refine r_aload_n hc 1 dX3_perform_37 rfl ?_
          refine r_iload hc 3 dX3_perform_38 rfl ?_
          obtain ⟨q40, hq40, hf⟩ := o_bind hf
          refine r_callSi (ws' := (wY cy A pl ++ wP cy B1 pd ++ wH cy B2 h ++ wD cy B3 d)) (As := [.ref (B1 0), .int x4]) (rest := []) hc (c_X3_spanOf B1 pd x4 q40 hq40) ks_X3_spanOf mw_488 [1, 2] [0, 3, 4, 5, 6, 7, 8, 9, 10, 11, 12, 13, 14, 15, 16, 17, 18, 19, 20, 21, 22, 23, 24, 25, 26, 27] [0, 26, 27, 1, 2, 3, 4, 5, 6, 7, 8, 9, 10, 11, 12, 13, 14, 15, 16, 17, 18, 19, 20, 21, 22, 23, 24, 25] ⟨rfl, rfl, rfl, rfl, rfl, rfl, rfl⟩ rfl rfl (Nat.le_of_ble_eq_true rfl) ⟨by decide, by decide⟩ dX3_perform_40 ?_
          refine r_istore hc [(6, .int q40), (0, .ref (A 0)), (1, .ref (B1 0)), (3, .ref (B3 0)), (4, .int x4), (5, .int x5)] dX3_perform_43 (by decide) rfl ?_
          refine r_iload hc 0 dX3_perform_45 rfl ?_
          refine r_iconst hc (1 : Int32) dX3_perform_47 rfl ?_
          refine r_icmp_ne hc 63 dX3_perform_48 (by decide) (fun c_3 => ?_) (fun c_3 => ?_)
          · have hf := o_neg c_3 hf
            refine r_aload_n hc 1 dX3_perform_63 rfl ?_
            refine r_aload_n hc 2 dX3_perform_64 rfl ?_
            refine r_iload hc 4 dX3_perform_65 rfl ?_
            refine r_iload hc 0 dX3_perform_67 rfl ?_
            refine r_aload_n hc 3 dX3_perform_69 rfl ?_
            refine r_get (v := .ref ((sh B3 5) 0)) hc iw_X0 13 rfl rfl 0 (by decide) mw_170 rfl dX3_perform_70 ?_
            obtain ⟨q73, hq73, hf⟩ := o_bind hf
            refine r_callSi (ws' := (wY cy A pl ++ wP cy B1 pd ++ wH cy B2 h ++ wD cy B3 (D_set_house d q73.2))) (As := [.ref (B1 0), .int x4, .int q40, .ref ((sh B3 5) 0)]) (rest := [.ref (A 0)]) hc (c_X3_attempt B1 (sh B3 5) pd (D_house d) x4 q40 q73 hq73) ks_X3_attempt mw_510 [1, 2, 18, 19, 20, 21, 22, 23, 24, 25, 26, 27] [0, 3, 4, 5, 6, 7, 8, 9, 10, 11, 12, 13, 14, 15, 16, 17] [0, 16, 17, 1, 2, 3, 4, 5, 6, 7, 8, 9, 10, 11, 12, 13, 14, 15, 18, 19, 20, 21, 22, 23, 24, 25, 26, 27] ⟨rfl, rfl, rfl, rfl, rfl, rfl, rfl⟩ rfl rfl (Nat.le_of_ble_eq_true rfl) ⟨by decide, by decide⟩ dX3_perform_73 ?_
            refine r_put hc iw_X3 tyX3 tyX3_ok nmX3 0 rfl rfl 1 (by decide) mw_195 rfl rfl rfl (Nat.le_of_ble_eq_true rfl) dX3_perform_76 (wY cy A (Y_set_why pl q73.1) ++ wP cy B1 pd ++ wH cy B2 h ++ wD cy B3 (D_set_house d q73.2)) rfl ?_
            exact V.sub [1, 2, 3, 4, 5, 0] rfl (J79 (Y_set_why pl q73.1) (D_set_house d q73.2) x4 x5 q40 hf)
          · have hf := o_pos c_3 hf
            refine r_aload_n hc 3 dX3_perform_51 rfl ?_
            obtain ⟨q52, hq52, hf⟩ := o_bind hf
            refine r_callVBv (ws' := (wY cy A pl ++ wP cy B1 pd ++ wH cy B2 h ++ wD cy B3 q52)) (As := []) (rest := []) hc (c_X0_ready B3 d q52 hq52) kv_X0_ready mw_493 0 rfl rfl [wY cy A pl, wP cy B1 pd, wH cy B2 h, wDo cy B3 d, wH cy (sh B3 5) (D_house d)] [wY cy A pl, wP cy B1 pd, wH cy B2 h] [wDo cy B3 d, wH cy (sh B3 5) (D_house d)] [wDo cy B3 q52, wH cy (sh B3 5) (D_house q52)] [wY cy A pl, wP cy B1 pd, wH cy B2 h, wDo cy B3 q52, wH cy (sh B3 5) (D_house q52)] [0, 1, 2, 3, 4] [0, 1, 2, 3, 4] ⟨(by simp only [wD_eq, List.flatten_cons, List.flatten_nil, List.append_nil, List.append_assoc, List.cons_append, List.nil_append]), (by simp only [wD_eq, List.flatten_cons, List.flatten_nil, List.append_nil, List.append_assoc, List.cons_append, List.nil_append]), (by simp only [wD_eq, List.flatten_cons, List.flatten_nil, List.append_nil, List.append_assoc, List.cons_append, List.nil_append]), (by simp only [wD_eq, List.flatten_cons, List.flatten_nil, List.append_nil, List.append_assoc, List.cons_append, List.nil_append]), rfl, (show List.Perm [0, 1, 2, 3, 4] (List.range 5) from by decide), rfl, (show List.Perm [0, 1, 2, 3, 4] (List.range 5) from by decide)⟩ rfl rfl (Nat.le_of_ble_eq_true rfl) ⟨by decide, by decide⟩ dX3_perform_52 ?_
            refine r_aload_n hc 3 dX3_perform_55 rfl ?_
            obtain ⟨q56, hq56, hf⟩ := o_bind hf
            refine r_callVBi (ws' := (wY cy A pl ++ wP cy B1 pd ++ wH cy B2 h ++ wD cy B3 q56.2)) (As := []) (rest := []) hc (c_X0_minute B3 q52 q56 hq56) kv_X0_minute mw_494 0 rfl rfl [wY cy A pl, wP cy B1 pd, wH cy B2 h, wDo cy B3 q52, wH cy (sh B3 5) (D_house q52)] [wY cy A pl, wP cy B1 pd, wH cy B2 h] [wDo cy B3 q52, wH cy (sh B3 5) (D_house q52)] [wDo cy B3 q56.2, wH cy (sh B3 5) (D_house q56.2)] [wY cy A pl, wP cy B1 pd, wH cy B2 h, wDo cy B3 q56.2, wH cy (sh B3 5) (D_house q56.2)] [0, 1, 2, 3, 4] [0, 1, 2, 3, 4] ⟨(by simp only [wD_eq, List.flatten_cons, List.flatten_nil, List.append_nil, List.append_assoc, List.cons_append, List.nil_append]), (by simp only [wD_eq, List.flatten_cons, List.flatten_nil, List.append_nil, List.append_assoc, List.cons_append, List.nil_append]), (by simp only [wD_eq, List.flatten_cons, List.flatten_nil, List.append_nil, List.append_assoc, List.cons_append, List.nil_append]), (by simp only [wD_eq, List.flatten_cons, List.flatten_nil, List.append_nil, List.append_assoc, List.cons_append, List.nil_append]), rfl, (show List.Perm [0, 1, 2, 3, 4] (List.range 5) from by decide), rfl, (show List.Perm [0, 1, 2, 3, 4] (List.range 5) from by decide)⟩ rfl rfl (Nat.le_of_ble_eq_true rfl) ⟨by decide, by decide⟩ dX3_perform_56 ?_
            refine r_pop hc dX3_perform_59 rfl ?_
            refine r_goto hc 79 dX3_perform_60 (by decide) ?_
            exact V.sub [1, 2, 3, 4, 5, 0] rfl (J79 pl q56.2 x4 x5 q40 hf)
  show V K (wY cy A pl ++ wP cy B1 pd ++ wH cy B2 h ++ wD cy B3 d) 0 [(0, .ref (A 0)), (1, .ref (B1 0)), (2, .ref (B2 0)), (3, .ref (B3 0))] []
  unfold f_X3_perform at hf
  refine r_aload_n hc 3 dX3_perform_0 rfl ?_
  refine r_aload_n hc 2 dX3_perform_1 rfl ?_
  obtain ⟨q2, hq2, hf⟩ := o_bind hf
  refine r_callVBv (ws' := (wY cy A pl ++ wP cy B1 pd ++ wH cy B2 h ++ wD cy B3 q2)) (As := [.ref (B2 0)]) (rest := []) hc (c_X0_begin B3 B2 d h q2 hq2) kv_X0_begin mw_457 0 rfl rfl [wY cy A pl, wP cy B1 pd, wH cy B2 h, wDo cy B3 d, wH cy (sh B3 5) (D_house d)] [wY cy A pl, wP cy B1 pd] [wDo cy B3 d, wH cy (sh B3 5) (D_house d), wH cy B2 h] [wDo cy B3 q2, wH cy (sh B3 5) (D_house q2), wH cy B2 h] [wY cy A pl, wP cy B1 pd, wH cy B2 h, wDo cy B3 q2, wH cy (sh B3 5) (D_house q2)] [0, 1, 3, 4, 2] [0, 1, 4, 2, 3] ⟨(by simp only [wD_eq, List.flatten_cons, List.flatten_nil, List.append_nil, List.append_assoc, List.cons_append, List.nil_append]), (by simp only [wD_eq, List.flatten_cons, List.flatten_nil, List.append_nil, List.append_assoc, List.cons_append, List.nil_append]), (by simp only [wD_eq, List.flatten_cons, List.flatten_nil, List.append_nil, List.append_assoc, List.cons_append, List.nil_append]), (by simp only [wD_eq, List.flatten_cons, List.flatten_nil, List.append_nil, List.append_assoc, List.cons_append, List.nil_append]), rfl, (show List.Perm [0, 1, 3, 4, 2] (List.range 5) from by decide), rfl, (show List.Perm [0, 1, 4, 2, 3] (List.range 5) from by decide)⟩ rfl rfl (Nat.le_of_ble_eq_true rfl) ⟨by decide, by decide⟩ dX3_perform_2 ?_
  refine r_aload_n hc 0 dX3_perform_5 rfl ?_
  refine r_iconst hc (0 : Int32) dX3_perform_6 rfl ?_
  refine r_put hc iw_X3 tyX3 tyX3_ok nmX3 0 rfl rfl 0 (by decide) mw_193 rfl rfl rfl (Nat.le_of_ble_eq_true rfl) dX3_perform_7 (wY cy A (Y_set_events pl (0 : Int32)) ++ wP cy B1 pd ++ wH cy B2 h ++ wD cy B3 q2) rfl ?_
  refine r_aload_n hc 0 dX3_perform_10 rfl ?_
  refine r_iconst hc (0 : Int32) dX3_perform_11 rfl ?_
  refine r_put hc iw_X3 tyX3 tyX3_ok nmX3 0 rfl rfl 1 (by decide) mw_195 rfl rfl rfl (Nat.le_of_ble_eq_true rfl) dX3_perform_12 (wY cy A (Y_set_why (Y_set_events pl (0 : Int32)) (0 : Int32)) ++ wP cy B1 pd ++ wH cy B2 h ++ wD cy B3 q2) rfl ?_
  refine r_iconst hc (0 : Int32) dX3_perform_15 rfl ?_
  refine r_istore hc [(4, .int (0 : Int32)), (0, .ref (A 0)), (1, .ref (B1 0)), (2, .ref (B2 0)), (3, .ref (B3 0))] dX3_perform_16 (by decide) rfl ?_
  refine r_iconst hc (0 : Int32) dX3_perform_18 rfl ?_
  refine r_istore hc [(5, .int (0 : Int32)), (4, .int (0 : Int32)), (0, .ref (A 0)), (1, .ref (B1 0)), (2, .ref (B2 0)), (3, .ref (B3 0))] dX3_perform_19 (by decide) rfl ?_
  exact V.sub [2, 3, 5, 1, 0] rfl (L21 FU (Y_set_why (Y_set_events pl (0 : Int32)) (0 : Int32)) q2 (0 : Int32) (0 : Int32) hf)
