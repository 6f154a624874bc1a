def f_J6_bitCount_0f7a4 (x0 : Int32) : Option (Int32) :=
  (some (((((((((x0 - ((((x0).toUInt32 >>> (((1 : Int32)).toUInt32 &&& Int32.toUInt32 31)).toInt32) &&& (1431655765 : Int32))) &&& (858993459 : Int32)) + (((((x0 - ((((x0).toUInt32 >>> (((1 : Int32)).toUInt32 &&& Int32.toUInt32 31)).toInt32) &&& (1431655765 : Int32)))).toUInt32 >>> (((2 : Int32)).toUInt32 &&& Int32.toUInt32 31)).toInt32) &&& (858993459 : Int32))) + ((((((x0 - ((((x0).toUInt32 >>> (((1 : Int32)).toUInt32 &&& Int32.toUInt32 31)).toInt32) &&& (1431655765 : Int32))) &&& (858993459 : Int32)) + (((((x0 - ((((x0).toUInt32 >>> (((1 : Int32)).toUInt32 &&& Int32.toUInt32 31)).toInt32) &&& (1431655765 : Int32)))).toUInt32 >>> (((2 : Int32)).toUInt32 &&& Int32.toUInt32 31)).toInt32) &&& (858993459 : Int32)))).toUInt32 >>> (((4 : Int32)).toUInt32 &&& Int32.toUInt32 31)).toInt32)) &&& (252645135 : Int32)) + ((((((((x0 - ((((x0).toUInt32 >>> (((1 : Int32)).toUInt32 &&& Int32.toUInt32 31)).toInt32) &&& (1431655765 : Int32))) &&& (858993459 : Int32)) + (((((x0 - ((((x0).toUInt32 >>> (((1 : Int32)).toUInt32 &&& Int32.toUInt32 31)).toInt32) &&& (1431655765 : Int32)))).toUInt32 >>> (((2 : Int32)).toUInt32 &&& Int32.toUInt32 31)).toInt32) &&& (858993459 : Int32))) + ((((((x0 - ((((x0).toUInt32 >>> (((1 : Int32)).toUInt32 &&& Int32.toUInt32 31)).toInt32) &&& (1431655765 : Int32))) &&& (858993459 : Int32)) + (((((x0 - ((((x0).toUInt32 >>> (((1 : Int32)).toUInt32 &&& Int32.toUInt32 31)).toInt32) &&& (1431655765 : Int32)))).toUInt32 >>> (((2 : Int32)).toUInt32 &&& Int32.toUInt32 31)).toInt32) &&& (858993459 : Int32)))).toUInt32 >>> (((4 : Int32)).toUInt32 &&& Int32.toUInt32 31)).toInt32)) &&& (252645135 : Int32))).toUInt32 >>> (((8 : Int32)).toUInt32 &&& Int32.toUInt32 31)).toInt32)) + (((((((((x0 - ((((x0).toUInt32 >>> (((1 : Int32)).toUInt32 &&& Int32.toUInt32 31)).toInt32) &&& (1431655765 : Int32))) &&& (858993459 : Int32)) + (((((x0 - ((((x0).toUInt32 >>> (((1 : Int32)).toUInt32 &&& Int32.toUInt32 31)).toInt32) &&& (1431655765 : Int32)))).toUInt32 >>> (((2 : Int32)).toUInt32 &&& Int32.toUInt32 31)).toInt32) &&& (858993459 : Int32))) + ((((((x0 - ((((x0).toUInt32 >>> (((1 : Int32)).toUInt32 &&& Int32.toUInt32 31)).toInt32) &&& (1431655765 : Int32))) &&& (858993459 : Int32)) + (((((x0 - ((((x0).toUInt32 >>> (((1 : Int32)).toUInt32 &&& Int32.toUInt32 31)).toInt32) &&& (1431655765 : Int32)))).toUInt32 >>> (((2 : Int32)).toUInt32 &&& Int32.toUInt32 31)).toInt32) &&& (858993459 : Int32)))).toUInt32 >>> (((4 : Int32)).toUInt32 &&& Int32.toUInt32 31)).toInt32)) &&& (252645135 : Int32)) + ((((((((x0 - ((((x0).toUInt32 >>> (((1 : Int32)).toUInt32 &&& Int32.toUInt32 31)).toInt32) &&& (1431655765 : Int32))) &&& (858993459 : Int32)) + (((((x0 - ((((x0).toUInt32 >>> (((1 : Int32)).toUInt32 &&& Int32.toUInt32 31)).toInt32) &&& (1431655765 : Int32)))).toUInt32 >>> (((2 : Int32)).toUInt32 &&& Int32.toUInt32 31)).toInt32) &&& (858993459 : Int32))) + ((((((x0 - ((((x0).toUInt32 >>> (((1 : Int32)).toUInt32 &&& Int32.toUInt32 31)).toInt32) &&& (1431655765 : Int32))) &&& (858993459 : Int32)) + (((((x0 - ((((x0).toUInt32 >>> (((1 : Int32)).toUInt32 &&& Int32.toUInt32 31)).toInt32) &&& (1431655765 : Int32)))).toUInt32 >>> (((2 : Int32)).toUInt32 &&& Int32.toUInt32 31)).toInt32) &&& (858993459 : Int32)))).toUInt32 >>> (((4 : Int32)).toUInt32 &&& Int32.toUInt32 31)).toInt32)) &&& (252645135 : Int32))).toUInt32 >>> (((8 : Int32)).toUInt32 &&& Int32.toUInt32 31)).toInt32))).toUInt32 >>> (((16 : Int32)).toUInt32 &&& Int32.toUInt32 31)).toInt32)) &&& (63 : Int32))))
theorem ks_J6_bitCount_0f7a4 : KS yJ6_bitCount_0f7a4 cJ6_bitCount_0f7a4 1 (some .int) 1 := ⟨mw_354, mw_66, mw_355, by decide +kernel⟩
set_option maxHeartbeats 8000000 in
set_option maxRecDepth 100000 in
theorem c_J6_bitCount_0f7a4 {l : Launch} {E : va_G} {cy : Nat → ClassId} (x0 : Int32) (q : Int32) (hf : f_J6_bitCount_0f7a4 x0 = some q) : Ci l yJ6_bitCount_0f7a4 cJ6_bitCount_0f7a4 1 (some .int) 1 60 E cy [.int x0] ([]) q ([]) := by
  refine Ci.of RJ6 (by decide) rfl (Nat.le_of_ble_eq_true rfl) ?_
  intro K hK
  have hc := hK.cq
  show V K ([]) 0 [(0, .int x0)] []
  unfold f_J6_bitCount_0f7a4 at hf
  refine r_iload_n hc 0 dJ6_bitCount_0f7a4_0 rfl ?_
  refine r_iload_n hc 0 dJ6_bitCount_0f7a4_1 rfl ?_
  refine r_iconst hc (1 : Int32) dJ6_bitCount_0f7a4_2 rfl ?_
  refine r_iushr hc dJ6_bitCount_0f7a4_3 ?_
  refine r_ldcw (v := (1431655765 : Int32)) hc mw_356 dJ6_bitCount_0f7a4_4 ?_
  refine r_iand hc dJ6_bitCount_0f7a4_7 ?_
  refine r_isub hc dJ6_bitCount_0f7a4_8 ?_
  refine r_istore_n hc [(0, .int (x0 - ((((x0).toUInt32 >>> (((1 : Int32)).toUInt32 &&& Int32.toUInt32 31)).toInt32) &&& (1431655765 : Int32))))] dJ6_bitCount_0f7a4_9 (by decide) rfl ?_
  refine r_iload_n hc 0 dJ6_bitCount_0f7a4_10 rfl ?_
  refine r_ldcw (v := (858993459 : Int32)) hc mw_357 dJ6_bitCount_0f7a4_11 ?_
  refine r_iand hc dJ6_bitCount_0f7a4_14 ?_
  refine r_iload_n hc 0 dJ6_bitCount_0f7a4_15 rfl ?_
  refine r_iconst hc (2 : Int32) dJ6_bitCount_0f7a4_16 rfl ?_
  refine r_iushr hc dJ6_bitCount_0f7a4_17 ?_
  refine r_ldcw (v := (858993459 : Int32)) hc mw_357 dJ6_bitCount_0f7a4_18 ?_
  refine r_iand hc dJ6_bitCount_0f7a4_21 ?_
  refine r_iadd hc dJ6_bitCount_0f7a4_22 ?_
  refine r_istore_n hc [(0, .int (((x0 - ((((x0).toUInt32 >>> (((1 : Int32)).toUInt32 &&& Int32.toUInt32 31)).toInt32) &&& (1431655765 : Int32))) &&& (858993459 : Int32)) + (((((x0 - ((((x0).toUInt32 >>> (((1 : Int32)).toUInt32 &&& Int32.toUInt32 31)).toInt32) &&& (1431655765 : Int32)))).toUInt32 >>> (((2 : Int32)).toUInt32 &&& Int32.toUInt32 31)).toInt32) &&& (858993459 : Int32))))] dJ6_bitCount_0f7a4_23 (by decide) rfl ?_
  refine r_iload_n hc 0 dJ6_bitCount_0f7a4_24 rfl ?_
  refine r_iload_n hc 0 dJ6_bitCount_0f7a4_25 rfl ?_
  refine r_iconst hc (4 : Int32) dJ6_bitCount_0f7a4_26 rfl ?_
  refine r_iushr hc dJ6_bitCount_0f7a4_27 ?_
  refine r_iadd hc dJ6_bitCount_0f7a4_28 ?_
  refine r_ldcw (v := (252645135 : Int32)) hc mw_358 dJ6_bitCount_0f7a4_29 ?_
  refine r_iand hc dJ6_bitCount_0f7a4_32 ?_
  refine r_istore_n hc [(0, .int (((((x0 - ((((x0).toUInt32 >>> (((1 : Int32)).toUInt32 &&& Int32.toUInt32 31)).toInt32) &&& (1431655765 : Int32))) &&& (858993459 : Int32)) + (((((x0 - ((((x0).toUInt32 >>> (((1 : Int32)).toUInt32 &&& Int32.toUInt32 31)).toInt32) &&& (1431655765 : Int32)))).toUInt32 >>> (((2 : Int32)).toUInt32 &&& Int32.toUInt32 31)).toInt32) &&& (858993459 : Int32))) + ((((((x0 - ((((x0).toUInt32 >>> (((1 : Int32)).toUInt32 &&& Int32.toUInt32 31)).toInt32) &&& (1431655765 : Int32))) &&& (858993459 : Int32)) + (((((x0 - ((((x0).toUInt32 >>> (((1 : Int32)).toUInt32 &&& Int32.toUInt32 31)).toInt32) &&& (1431655765 : Int32)))).toUInt32 >>> (((2 : Int32)).toUInt32 &&& Int32.toUInt32 31)).toInt32) &&& (858993459 : Int32)))).toUInt32 >>> (((4 : Int32)).toUInt32 &&& Int32.toUInt32 31)).toInt32)) &&& (252645135 : Int32)))] dJ6_bitCount_0f7a4_33 (by decide) rfl ?_
  refine r_iload_n hc 0 dJ6_bitCount_0f7a4_34 rfl ?_
  refine r_iload_n hc 0 dJ6_bitCount_0f7a4_35 rfl ?_
  refine r_bipush hc (8 : Int32) dJ6_bitCount_0f7a4_36 rfl ?_
  refine r_iushr hc dJ6_bitCount_0f7a4_38 ?_
  refine r_iadd hc dJ6_bitCount_0f7a4_39 ?_
  refine r_istore_n hc [(0, .int ((((((x0 - ((((x0).toUInt32 >>> (((1 : Int32)).toUInt32 &&& Int32.toUInt32 31)).toInt32) &&& (1431655765 : Int32))) &&& (858993459 : Int32)) + (((((x0 - ((((x0).toUInt32 >>> (((1 : Int32)).toUInt32 &&& Int32.toUInt32 31)).toInt32) &&& (1431655765 : Int32)))).toUInt32 >>> (((2 : Int32)).toUInt32 &&& Int32.toUInt32 31)).toInt32) &&& (858993459 : Int32))) + ((((((x0 - ((((x0).toUInt32 >>> (((1 : Int32)).toUInt32 &&& Int32.toUInt32 31)).toInt32) &&& (1431655765 : Int32))) &&& (858993459 : Int32)) + (((((x0 - ((((x0).toUInt32 >>> (((1 : Int32)).toUInt32 &&& Int32.toUInt32 31)).toInt32) &&& (1431655765 : Int32)))).toUInt32 >>> (((2 : Int32)).toUInt32 &&& Int32.toUInt32 31)).toInt32) &&& (858993459 : Int32)))).toUInt32 >>> (((4 : Int32)).toUInt32 &&& Int32.toUInt32 31)).toInt32)) &&& (252645135 : Int32)) + ((((((((x0 - ((((x0).toUInt32 >>> (((1 : Int32)).toUInt32 &&& Int32.toUInt32 31)).toInt32) &&& (1431655765 : Int32))) &&& (858993459 : Int32)) + (((((x0 - ((((x0).toUInt32 >>> (((1 : Int32)).toUInt32 &&& Int32.toUInt32 31)).toInt32) &&& (1431655765 : Int32)))).toUInt32 >>> (((2 : Int32)).toUInt32 &&& Int32.toUInt32 31)).toInt32) &&& (858993459 : Int32))) + ((((((x0 - ((((x0).toUInt32 >>> (((1 : Int32)).toUInt32 &&& Int32.toUInt32 31)).toInt32) &&& (1431655765 : Int32))) &&& (858993459 : Int32)) + (((((x0 - ((((x0).toUInt32 >>> (((1 : Int32)).toUInt32 &&& Int32.toUInt32 31)).toInt32) &&& (1431655765 : Int32)))).toUInt32 >>> (((2 : Int32)).toUInt32 &&& Int32.toUInt32 31)).toInt32) &&& (858993459 : Int32)))).toUInt32 >>> (((4 : Int32)).toUInt32 &&& Int32.toUInt32 31)).toInt32)) &&& (252645135 : Int32))).toUInt32 >>> (((8 : Int32)).toUInt32 &&& Int32.toUInt32 31)).toInt32)))] dJ6_bitCount_0f7a4_40 (by decide) rfl ?_
  refine r_iload_n hc 0 dJ6_bitCount_0f7a4_41 rfl ?_
  refine r_iload_n hc 0 dJ6_bitCount_0f7a4_42 rfl ?_
  refine r_bipush hc (16 : Int32) dJ6_bitCount_0f7a4_43 rfl ?_
  refine r_iushr hc dJ6_bitCount_0f7a4_45 ?_
  refine r_iadd hc dJ6_bitCount_0f7a4_46 ?_
  refine r_istore_n hc [(0, .int (((((((x0 - ((((x0).toUInt32 >>> (((1 : Int32)).toUInt32 &&& Int32.toUInt32 31)).toInt32) &&& (1431655765 : Int32))) &&& (858993459 : Int32)) + (((((x0 - ((((x0).toUInt32 >>> (((1 : Int32)).toUInt32 &&& Int32.toUInt32 31)).toInt32) &&& (1431655765 : Int32)))).toUInt32 >>> (((2 : Int32)).toUInt32 &&& Int32.toUInt32 31)).toInt32) &&& (858993459 : Int32))) + ((((((x0 - ((((x0).toUInt32 >>> (((1 : Int32)).toUInt32 &&& Int32.toUInt32 31)).toInt32) &&& (1431655765 : Int32))) &&& (858993459 : Int32)) + (((((x0 - ((((x0).toUInt32 >>> (((1 : Int32)).toUInt32 &&& Int32.toUInt32 31)).toInt32) &&& (1431655765 : Int32)))).toUInt32 >>> (((2 : Int32)).toUInt32 &&& Int32.toUInt32 31)).toInt32) &&& (858993459 : Int32)))).toUInt32 >>> (((4 : Int32)).toUInt32 &&& Int32.toUInt32 31)).toInt32)) &&& (252645135 : Int32)) + ((((((((x0 - ((((x0).toUInt32 >>> (((1 : Int32)).toUInt32 &&& Int32.toUInt32 31)).toInt32) &&& (1431655765 : Int32))) &&& (858993459 : Int32)) + (((((x0 - ((((x0).toUInt32 >>> (((1 : Int32)).toUInt32 &&& Int32.toUInt32 31)).toInt32) &&& (1431655765 : Int32)))).toUInt32 >>> (((2 : Int32)).toUInt32 &&& Int32.toUInt32 31)).toInt32) &&& (858993459 : Int32))) + ((((((x0 - ((((x0).toUInt32 >>> (((1 : Int32)).toUInt32 &&& Int32.toUInt32 31)).toInt32) &&& (1431655765 : Int32))) &&& (858993459 : Int32)) + (((((x0 - ((((x0).toUInt32 >>> (((1 : Int32)).toUInt32 &&& Int32.toUInt32 31)).toInt32) &&& (1431655765 : Int32)))).toUInt32 >>> (((2 : Int32)).toUInt32 &&& Int32.toUInt32 31)).toInt32) &&& (858993459 : Int32)))).toUInt32 >>> (((4 : Int32)).toUInt32 &&& Int32.toUInt32 31)).toInt32)) &&& (252645135 : Int32))).toUInt32 >>> (((8 : Int32)).toUInt32 &&& Int32.toUInt32 31)).toInt32)) + (((((((((x0 - ((((x0).toUInt32 >>> (((1 : Int32)).toUInt32 &&& Int32.toUInt32 31)).toInt32) &&& (1431655765 : Int32))) &&& (858993459 : Int32)) + (((((x0 - ((((x0).toUInt32 >>> (((1 : Int32)).toUInt32 &&& Int32.toUInt32 31)).toInt32) &&& (1431655765 : Int32)))).toUInt32 >>> (((2 : Int32)).toUInt32 &&& Int32.toUInt32 31)).toInt32) &&& (858993459 : Int32))) + ((((((x0 - ((((x0).toUInt32 >>> (((1 : Int32)).toUInt32 &&& Int32.toUInt32 31)).toInt32) &&& (1431655765 : Int32))) &&& (858993459 : Int32)) + (((((x0 - ((((x0).toUInt32 >>> (((1 : Int32)).toUInt32 &&& Int32.toUInt32 31)).toInt32) &&& (1431655765 : Int32)))).toUInt32 >>> (((2 : Int32)).toUInt32 &&& Int32.toUInt32 31)).toInt32) &&& (858993459 : Int32)))).toUInt32 >>> (((4 : Int32)).toUInt32 &&& Int32.toUInt32 31)).toInt32)) &&& (252645135 : Int32)) + ((((((((x0 - ((((x0).toUInt32 >>> (((1 : Int32)).toUInt32 &&& Int32.toUInt32 31)).toInt32) &&& (1431655765 : Int32))) &&& (858993459 : Int32)) + (((((x0 - ((((x0).toUInt32 >>> (((1 : Int32)).toUInt32 &&& Int32.toUInt32 31)).toInt32) &&& (1431655765 : Int32)))).toUInt32 >>> (((2 : Int32)).toUInt32 &&& Int32.toUInt32 31)).toInt32) &&& (858993459 : Int32))) + ((((((x0 - ((((x0).toUInt32 >>> (((1 : Int32)).toUInt32 &&& Int32.toUInt32 31)).toInt32) &&& (1431655765 : Int32))) &&& (858993459 : Int32)) + (((((x0 - ((((x0).toUInt32 >>> (((1 : Int32)).toUInt32 &&& Int32.toUInt32 31)).toInt32) &&& (1431655765 : Int32)))).toUInt32 >>> (((2 : Int32)).toUInt32 &&& Int32.toUInt32 31)).toInt32) &&& (858993459 : Int32)))).toUInt32 >>> (((4 : Int32)).toUInt32 &&& Int32.toUInt32 31)).toInt32)) &&& (252645135 : Int32))).toUInt32 >>> (((8 : Int32)).toUInt32 &&& Int32.toUInt32 31)).toInt32))).toUInt32 >>> (((16 : Int32)).toUInt32 &&& Int32.toUInt32 31)).toInt32)))] dJ6_bitCount_0f7a4_47 (by decide) rfl ?_
  refine r_iload_n hc 0 dJ6_bitCount_0f7a4_48 rfl ?_
  refine r_bipush hc (63 : Int32) dJ6_bitCount_0f7a4_49 rfl ?_
  refine r_iand hc dJ6_bitCount_0f7a4_51 ?_
  exact r_iret hK (Option.some.inj hf) rfl dJ6_bitCount_0f7a4_52
def f_X1_isRoom (h : HS) (x1 : Int32) : Option (Int32) :=
  (if x1 < 0 then (some ((0 : Int32))) else (if (H_rooms h) ≤ x1 then (some ((0 : Int32))) else (some ((1 : Int32)))))
theorem kv_X1_isRoom : KV RX1 yX1_isRoom cX1_isRoom 2 (some .boolean) 1 := ⟨mw_338, mw_339, mw_56, mw_340, by decide +kernel⟩
set_option maxHeartbeats 8000000 in
set_option maxRecDepth 100000 in
theorem c_X1_isRoom {l : Launch} {E : va_G} {cy : Nat → ClassId} (A : Nat → Nat) (h : HS) (x1 : Int32) (q : Int32) (hf : f_X1_isRoom h x1 = some q) : Ci l yX1_isRoom cX1_isRoom 2 (some .boolean) 1 60 E cy [.ref (A 0), .int x1] (wH cy A h) q (wH cy A h) := by
  refine Ci.of RX1 (by decide) rfl (Nat.le_of_ble_eq_true rfl) ?_
  intro K hK
  have hc := hK.cq
  show V K (wH cy A h) 0 [(0, .ref (A 0)), (1, .int x1)] []
  unfold f_X1_isRoom at hf
  refine r_iload_n hc 1 dX1_isRoom_0 rfl ?_
  refine r_if_lt hc 16 dX1_isRoom_1 (by decide) (fun c_1 => ?_) (fun c_1 => ?_)
  · have hf := o_pos c_1 hf
    refine r_iconst hc (0 : Int32) dX1_isRoom_16 rfl ?_
    exact r_zret hK rfl (Option.some.inj hf) rfl dX1_isRoom_17
  · have hf := o_neg c_1 hf
    refine r_iload_n hc 1 dX1_isRoom_4 rfl ?_
    refine r_aload_n hc 0 dX1_isRoom_5 rfl ?_
    refine r_get (v := .int (H_rooms h)) hc iw_X1 0 rfl rfl 0 (by decide) mw_83 rfl dX1_isRoom_6 ?_
    refine r_icmp_ge hc 16 dX1_isRoom_9 (by decide) (fun c_2 => ?_) (fun c_2 => ?_)
    · have hf := o_pos c_2 hf
      refine r_iconst hc (0 : Int32) dX1_isRoom_16 rfl ?_
      exact r_zret hK rfl (Option.some.inj hf) rfl dX1_isRoom_17
    · have hf := o_neg c_2 hf
      refine r_iconst hc (1 : Int32) dX1_isRoom_12 rfl ?_
      refine r_goto hc 17 dX1_isRoom_13 (by decide) ?_
      exact r_zret hK rfl (Option.some.inj hf) rfl dX1_isRoom_17
def f_X1_isThere (h : HS) (x1 : Int32) : Option (Int32) :=
  (if x1 < 0 then (some ((0 : Int32))) else (if (8 : Int32) ≤ x1 then (some ((0 : Int32))) else (if (((H_there h) >>> (x1 &&& 31)) &&& (1 : Int32)) = (1 : Int32) then (some ((1 : Int32))) else (some ((0 : Int32))))))
theorem kv_X1_isThere : KV RX1 yX1_isThere cX1_isThere 2 (some .boolean) 1 := ⟨mw_350, mw_351, mw_56, mw_352, by decide +kernel⟩
set_option maxHeartbeats 8000000 in
set_option maxRecDepth 100000 in
theorem c_X1_isThere {l : Launch} {E : va_G} {cy : Nat → ClassId} (A : Nat → Nat) (h : HS) (x1 : Int32) (q : Int32) (hf : f_X1_isThere h x1 = some q) : Ci l yX1_isThere cX1_isThere 2 (some .boolean) 1 60 E cy [.ref (A 0), .int x1] (wH cy A h) q (wH cy A h) := by
  refine Ci.of RX1 (by decide) rfl (Nat.le_of_ble_eq_true rfl) ?_
  intro K hK
  have hc := hK.cq
  show V K (wH cy A h) 0 [(0, .ref (A 0)), (1, .int x1)] []
  unfold f_X1_isThere at hf
  refine r_iload_n hc 1 dX1_isThere_0 rfl ?_
  refine r_if_lt hc 26 dX1_isThere_1 (by decide) (fun c_1 => ?_) (fun c_1 => ?_)
  · have hf := o_pos c_1 hf
    refine r_iconst hc (0 : Int32) dX1_isThere_26 rfl ?_
    exact r_zret hK rfl (Option.some.inj hf) rfl dX1_isThere_27
  · have hf := o_neg c_1 hf
    refine r_iload_n hc 1 dX1_isThere_4 rfl ?_
    refine r_bipush hc (8 : Int32) dX1_isThere_5 rfl ?_
    refine r_icmp_ge hc 26 dX1_isThere_7 (by decide) (fun c_2 => ?_) (fun c_2 => ?_)
    · have hf := o_pos c_2 hf
      refine r_iconst hc (0 : Int32) dX1_isThere_26 rfl ?_
      exact r_zret hK rfl (Option.some.inj hf) rfl dX1_isThere_27
    · have hf := o_neg c_2 hf
      refine r_aload_n hc 0 dX1_isThere_10 rfl ?_
      refine r_get (v := .int (H_there h)) hc iw_X1 0 rfl rfl 1 (by decide) mw_89 rfl dX1_isThere_11 ?_
      refine r_iload_n hc 1 dX1_isThere_14 rfl ?_
      refine r_ishr hc dX1_isThere_15 ?_
      refine r_iconst hc (1 : Int32) dX1_isThere_16 rfl ?_
      refine r_iand hc dX1_isThere_17 ?_
      refine r_iconst hc (1 : Int32) dX1_isThere_18 rfl ?_
      refine r_icmp_ne hc 26 dX1_isThere_19 (by decide) (fun c_3 => ?_) (fun c_3 => ?_)
      · have hf := o_neg c_3 hf
        refine r_iconst hc (0 : Int32) dX1_isThere_26 rfl ?_
        exact r_zret hK rfl (Option.some.inj hf) rfl dX1_isThere_27
      · have hf := o_pos c_3 hf
        refine r_iconst hc (1 : Int32) dX1_isThere_22 rfl ?_
        refine r_goto hc 27 dX1_isThere_23 (by decide) ?_
        exact r_zret hK rfl (Option.some.inj hf) rfl dX1_isThere_27
def f_X1_sizeOf (h : HS) (x1 : Int32) : Option (Int32) :=
  (chk ((x1 * (6 : Int32)) + (4 : Int32)) 36 (some (((H_measure h) (((x1 * (6 : Int32)) + (4 : Int32))).toNatClampNeg))))
theorem kv_X1_sizeOf : KV RX1 yX1_sizeOf cX1_sizeOf 2 (some .int) 1 := ⟨mw_384, mw_385, mw_56, mw_386, by decide +kernel⟩
set_option maxHeartbeats 8000000 in
set_option maxRecDepth 100000 in
theorem c_X1_sizeOf {l : Launch} {E : va_G} {cy : Nat → ClassId} (A : Nat → Nat) (h : HS) (x1 : Int32) (q : Int32) (hf : f_X1_sizeOf h x1 = some q) : Ci l yX1_sizeOf cX1_sizeOf 2 (some .int) 1 60 E cy [.ref (A 0), .int x1] (wH cy A h) q (wH cy A h) := by
  refine Ci.of RX1 (by decide) rfl (Nat.le_of_ble_eq_true rfl) ?_
  intro K hK
  have hc := hK.cq
  show V K (wH cy A h) 0 [(0, .ref (A 0)), (1, .int x1)] []
  unfold f_X1_sizeOf at hf
  refine r_aload_n hc 0 dX1_sizeOf_0 rfl ?_
  refine r_get (v := .ref (A 1)) hc iw_X1 0 rfl rfl 3 (by decide) mw_93 rfl dX1_sizeOf_1 ?_
  refine r_iload_n hc 1 dX1_sizeOf_4 rfl ?_
  refine r_bipush hc (6 : Int32) dX1_sizeOf_5 rfl ?_
  refine r_imul hc dX1_sizeOf_7 ?_
  refine r_iconst hc (4 : Int32) dX1_sizeOf_8 rfl ?_
  refine r_iadd hc dX1_sizeOf_9 ?_
  obtain ⟨i_1, hf⟩ := chk_some hf
  refine r_iald (f := (H_measure h)) hc 1 rfl i_1 dX1_sizeOf_10 ?_
  exact r_iret hK (Option.some.inj hf) rfl dX1_sizeOf_11
def f_X1_widthOf (h : HS) (x1 : Int32) (x2 : Int32) : Option (Int32) :=
  (chk ((x1 * (6 : Int32)) + x2) 36 (some (((H_width h) (((x1 * (6 : Int32)) + x2)).toNatClampNeg))))
theorem kv_X1_widthOf : KV RX1 yX1_widthOf cX1_widthOf 3 (some .int) 2 := ⟨mw_372, mw_373, mw_56, mw_374, by decide +kernel⟩
set_option maxHeartbeats 8000000 in
set_option maxRecDepth 100000 in
theorem c_X1_widthOf {l : Launch} {E : va_G} {cy : Nat → ClassId} (A : Nat → Nat) (h : HS) (x1 : Int32) (x2 : Int32) (q : Int32) (hf : f_X1_widthOf h x1 x2 = some q) : Ci l yX1_widthOf cX1_widthOf 3 (some .int) 1 60 E cy [.ref (A 0), .int x1, .int x2] (wH cy A h) q (wH cy A h) := by
  refine Ci.of RX1 (by decide) rfl (Nat.le_of_ble_eq_true rfl) ?_
  intro K hK
  have hc := hK.cq
  show V K (wH cy A h) 0 [(0, .ref (A 0)), (1, .int x1), (2, .int x2)] []
  unfold f_X1_widthOf at hf
  refine r_aload_n hc 0 dX1_widthOf_0 rfl ?_
  refine r_get (v := .ref (A 2)) hc iw_X1 0 rfl rfl 4 (by decide) mw_96 rfl dX1_widthOf_1 ?_
  refine r_iload_n hc 1 dX1_widthOf_4 rfl ?_
  refine r_bipush hc (6 : Int32) dX1_widthOf_5 rfl ?_
  refine r_imul hc dX1_widthOf_7 ?_
  refine r_iload_n hc 2 dX1_widthOf_8 rfl ?_
  refine r_iadd hc dX1_widthOf_9 ?_
  obtain ⟨i_1, hf⟩ := chk_some hf
  refine r_iald (f := (H_width h)) hc 2 rfl i_1 dX1_widthOf_10 ?_
  exact r_iret hK (Option.some.inj hf) rfl dX1_widthOf_11
def X1_bitsIn_J34 (k4 : HS → Int32 → Int32 → Int32 → Option (Int32)) (h : HS) (x1 : Int32) (x2 : Int32) (x3 : Int32) : Option (Int32) :=
  (k4 h x1 x2 (x3 + (1 : Int32)))
def X1_bitsIn_B4 (k4 : HS → Int32 → Int32 → Int32 → Option (Int32)) (h : HS) (x1 : Int32) (x2 : Int32) (x3 : Int32) : Option (Int32) :=
  (if (8 : Int32) ≤ x3 then (some (x2)) else ((f_X1_isThere h x3).bind fun q12 => (if q12 = 0 then (X1_bitsIn_J34 k4 h x1 x2 x3) else (chk x3 8 (if ((H_place h) (x3).toNatClampNeg) = x1 then (X1_bitsIn_J34 k4 h x1 (x2 ||| ((1 : Int32) <<< (x3 &&& 31))) x3) else (X1_bitsIn_J34 k4 h x1 x2 x3))))))
def f_X1_bitsIn (h : HS) (x1 : Int32) : Option (Int32) :=
  (it X1_bitsIn_B4 (fun _ _ _ _ => none) FU h x1 (0 : Int32) (0 : Int32))
theorem kv_X1_bitsIn : KV RX1 yX1_bitsIn cX1_bitsIn 4 (some .int) 1 := ⟨mw_346, mw_347, mw_56, mw_348, by decide +kernel⟩
set_option maxHeartbeats 8000000 in
set_option maxRecDepth 100000 in
theorem c_X1_bitsIn {l : Launch} {E : va_G} {cy : Nat → ClassId} (A : Nat → Nat) (h : HS) (x1 : Int32) (q : Int32) (hf : f_X1_bitsIn h x1 = some q) : Ci l yX1_bitsIn cX1_bitsIn 4 (some .int) 2 81 E cy [.ref (A 0), .int x1] (wH cy A h) q (wH cy A h) := by
  refine Ci.of RX1 (by decide) rfl (Nat.le_of_ble_eq_true rfl) ?_
  intro K hK
  have hc := hK.cq
  have L4 : ∀ (n4 : Nat) (x1 : Int32) (x2 : Int32) (x3 : Int32), it X1_bitsIn_B4 (fun _ _ _ _ => none) n4 h x1 x2 x3 = some q → V K (wH cy A h) 4 [(0, .ref (A 0)), (1, .int x1), (2, .int x2), (3, .int x3)] [] := by
    intro n4
    induction n4 with
    | zero => intro x1 x2 x3 hf; exact (o_none hf).elim
    | succ n4 ih4 =>
      have J34 : ∀ (x1 : Int32) (x2 : Int32) (x3 : Int32), X1_bitsIn_J34 (it X1_bitsIn_B4 (fun _ _ _ _ => none) n4) h x1 x2 x3 = some q → V K (wH cy A h) 34 [(0, .ref (A 0)), (1, .int x1), (2, .int x2), (3, .int x3)] [] := by
        intro x1 x2 x3 hf
        unfold X1_bitsIn_J34 at hf
        refine r_iinc hc 3 [(3, .int (x3 + (1 : Int32))), (0, .ref (A 0)), (1, .int x1), (2, .int x2)] (x3 + (1 : Int32)) dX1_bitsIn_34 rfl rfl (by decide) rfl ?_
        refine r_goto hc 4 dX1_bitsIn_37 (by decide) ?_
        exact V.sub [1, 2, 3, 0] rfl (ih4 x1 x2 (x3 + (1 : Int32)) hf)
      intro x1 x2 x3 hf
      replace hf : X1_bitsIn_B4 (it X1_bitsIn_B4 (fun _ _ _ _ => none) n4) h x1 x2 x3 = some q := hf
      unfold X1_bitsIn_B4 at hf
      refine r_iload_n hc 3 dX1_bitsIn_4 rfl ?_
      refine r_bipush hc (8 : Int32) dX1_bitsIn_5 rfl ?_
      refine r_icmp_ge hc 40 dX1_bitsIn_7 (by decide) (fun c_1 => ?_) (fun c_1 => ?_)
      · have hf := o_pos c_1 hf
        refine r_iload_n hc 2 dX1_bitsIn_40 rfl ?_
        exact r_iret hK (Option.some.inj hf) rfl dX1_bitsIn_41
      · have hf := o_neg c_1 hf
        refine r_aload_n hc 0 dX1_bitsIn_10 rfl ?_
        refine r_iload_n hc 3 dX1_bitsIn_11 rfl ?_
        obtain ⟨q12, hq12, hf⟩ := o_bind hf
        refine r_callVi (ws' := (wH cy A h)) (As := [.int x3]) (rest := []) hc (c_X1_isThere A h x3 q12 hq12) kv_X1_isThere mw_349 0 rfl rfl _ _ _ (Sp_all _ _) rfl rfl (Nat.le_of_ble_eq_true rfl) ⟨by decide, by decide⟩ dX1_bitsIn_12 ?_
        refine r_if_eq hc 34 dX1_bitsIn_15 (by decide) (fun c_2 => ?_) (fun c_2 => ?_)
        · have hf := o_pos c_2 hf
          exact V.sub [0, 1, 2, 3] rfl (J34 x1 x2 x3 hf)
        · have hf := o_neg c_2 hf
          refine r_aload_n hc 0 dX1_bitsIn_18 rfl ?_
          refine r_get (v := .ref (A 3)) hc iw_X1 0 rfl rfl 5 (by decide) mw_99 rfl dX1_bitsIn_19 ?_
          refine r_iload_n hc 3 dX1_bitsIn_22 rfl ?_
          obtain ⟨i_3, hf⟩ := chk_some hf
          refine r_iald (f := (H_place h)) hc 3 rfl i_3 dX1_bitsIn_23 ?_
          refine r_iload_n hc 1 dX1_bitsIn_24 rfl ?_
          refine r_icmp_ne hc 34 dX1_bitsIn_25 (by decide) (fun c_4 => ?_) (fun c_4 => ?_)
          · have hf := o_neg c_4 hf
            exact V.sub [0, 1, 2, 3] rfl (J34 x1 x2 x3 hf)
          · have hf := o_pos c_4 hf
            refine r_iload_n hc 2 dX1_bitsIn_28 rfl ?_
            refine r_iconst hc (1 : Int32) dX1_bitsIn_29 rfl ?_
            refine r_iload_n hc 3 dX1_bitsIn_30 rfl ?_
            refine r_ishl hc dX1_bitsIn_31 ?_
            refine r_ior hc dX1_bitsIn_32 ?_
            refine r_istore_n hc [(2, .int (x2 ||| ((1 : Int32) <<< (x3 &&& 31)))), (0, .ref (A 0)), (1, .int x1), (3, .int x3)] dX1_bitsIn_33 (by decide) rfl ?_
            exact V.sub [1, 2, 0, 3] rfl (J34 x1 (x2 ||| ((1 : Int32) <<< (x3 &&& 31))) x3 hf)
  show V K (wH cy A h) 0 [(0, .ref (A 0)), (1, .int x1)] []
  unfold f_X1_bitsIn at hf
  refine r_iconst hc (0 : Int32) dX1_bitsIn_0 rfl ?_
  refine r_istore_n hc [(2, .int (0 : Int32)), (0, .ref (A 0)), (1, .int x1)] dX1_bitsIn_1 (by decide) rfl ?_
  refine r_iconst hc (0 : Int32) dX1_bitsIn_2 rfl ?_
  refine r_istore_n hc [(3, .int (0 : Int32)), (2, .int (0 : Int32)), (0, .ref (A 0)), (1, .int x1)] dX1_bitsIn_3 (by decide) rfl ?_
  exact V.sub [2, 3, 1, 0] rfl (L4 FU x1 (0 : Int32) (0 : Int32) hf)
def f_X1_count (h : HS) (x1 : Int32) : Option (Int32) :=
  ((f_X1_bitsIn h x1).bind fun q2 => ((f_J6_bitCount_0f7a4 q2).bind fun q5 => (some (q5))))
theorem kv_X1_count : KV RX1 yX1_count cX1_count 2 (some .int) 1 := ⟨mw_342, mw_343, mw_56, mw_344, by decide +kernel⟩
set_option maxHeartbeats 8000000 in
set_option maxRecDepth 100000 in
theorem c_X1_count {l : Launch} {E : va_G} {cy : Nat → ClassId} (A : Nat → Nat) (h : HS) (x1 : Int32) (q : Int32) (hf : f_X1_count h x1 = some q) : Ci l yX1_count cX1_count 2 (some .int) 3 104 E cy [.ref (A 0), .int x1] (wH cy A h) q (wH cy A h) := by
  refine Ci.of RX1 (by decide) rfl (Nat.le_of_ble_eq_true rfl) ?_
  intro K hK
  have hc := hK.cq
  show V K (wH cy A h) 0 [(0, .ref (A 0)), (1, .int x1)] []
  unfold f_X1_count at hf
  refine r_aload_n hc 0 dX1_count_0 rfl ?_
  refine r_iload_n hc 1 dX1_count_1 rfl ?_
  obtain ⟨q2, hq2, hf⟩ := o_bind hf
  refine r_callVi (ws' := (wH cy A h)) (As := [.int x1]) (rest := []) hc (c_X1_bitsIn A h x1 q2 hq2) kv_X1_bitsIn mw_345 0 rfl rfl _ _ _ (Sp_all _ _) rfl rfl (Nat.le_of_ble_eq_true rfl) ⟨by decide, by decide⟩ dX1_count_2 ?_
  obtain ⟨q5, hq5, hf⟩ := o_bind hf
  refine r_callSi (ws' := (wH cy A h)) (As := [.int q2]) (rest := []) hc (c_J6_bitCount_0f7a4  q2 q5 hq5) ks_J6_bitCount_0f7a4 mw_353 _ _ _ (Sp_none _) rfl rfl (Nat.le_of_ble_eq_true rfl) ⟨by decide, by decide⟩ dX1_count_5 ?_
  exact r_iret hK (Option.some.inj hf) rfl dX1_count_8
def f_X1_others (h : HS) (x1 : Int32) (x2 : Int32) : Option (Int32) :=
  ((f_X1_bitsIn h x2).bind fun q2 => ((f_J6_bitCount_0f7a4 (q2 &&& (((1 : Int32) <<< (x1 &&& 31)) ^^^ (-1 : Int32)))).bind fun q11 => (some (q11))))
theorem kv_X1_others : KV RX1 yX1_others cX1_others 3 (some .int) 2 := ⟨mw_380, mw_381, mw_56, mw_382, by decide +kernel⟩
set_option maxHeartbeats 8000000 in
set_option maxRecDepth 100000 in
theorem c_X1_others {l : Launch} {E : va_G} {cy : Nat → ClassId} (A : Nat → Nat) (h : HS) (x1 : Int32) (x2 : Int32) (q : Int32) (hf : f_X1_others h x1 x2 = some q) : Ci l yX1_others cX1_others 3 (some .int) 3 104 E cy [.ref (A 0), .int x1, .int x2] (wH cy A h) q (wH cy A h) := by
  refine Ci.of RX1 (by decide) rfl (Nat.le_of_ble_eq_true rfl) ?_
  intro K hK
  have hc := hK.cq
  show V K (wH cy A h) 0 [(0, .ref (A 0)), (1, .int x1), (2, .int x2)] []
  unfold f_X1_others at hf
  refine r_aload_n hc 0 dX1_others_0 rfl ?_
  refine r_iload_n hc 2 dX1_others_1 rfl ?_
  obtain ⟨q2, hq2, hf⟩ := o_bind hf
  refine r_callVi (ws' := (wH cy A h)) (As := [.int x2]) (rest := []) hc (c_X1_bitsIn A h x2 q2 hq2) kv_X1_bitsIn mw_345 0 rfl rfl _ _ _ (Sp_all _ _) rfl rfl (Nat.le_of_ble_eq_true rfl) ⟨by decide, by decide⟩ dX1_others_2 ?_
  refine r_iconst hc (1 : Int32) dX1_others_5 rfl ?_
  refine r_iload_n hc 1 dX1_others_6 rfl ?_
  refine r_ishl hc dX1_others_7 ?_
  refine r_iconst hc (-1 : Int32) dX1_others_8 rfl ?_
  refine r_ixor hc dX1_others_9 ?_
  refine r_iand hc dX1_others_10 ?_
  obtain ⟨q11, hq11, hf⟩ := o_bind hf
  refine r_callSi (ws' := (wH cy A h)) (As := [.int (q2 &&& (((1 : Int32) <<< (x1 &&& 31)) ^^^ (-1 : Int32)))]) (rest := []) hc (c_J6_bitCount_0f7a4  (q2 &&& (((1 : Int32) <<< (x1 &&& 31)) ^^^ (-1 : Int32))) q11 hq11) ks_J6_bitCount_0f7a4 mw_353 _ _ _ (Sp_none _) rfl rfl (Nat.le_of_ble_eq_true rfl) ⟨by decide, by decide⟩ dX1_others_11 ?_
  exact r_iret hK (Option.some.inj hf) rfl dX1_others_14
def X1_sitters_J33 (k4 : HS → Int32 → Int32 → Int32 → Option (Int32)) (h : HS) (x1 : Int32) (x2 : Int32) (x3 : Int32) : Option (Int32) :=
  (k4 h x1 x2 (x3 + (1 : Int32)))
def X1_sitters_B4 (k4 : HS → Int32 → Int32 → Int32 → Option (Int32)) (h : HS) (x1 : Int32) (x2 : Int32) (x3 : Int32) : Option (Int32) :=
  (if (8 : Int32) ≤ x3 then (some (x2)) else (chk x3 8 (if ((H_busy h) (x3).toNatClampNeg) = (2 : Int32) then (chk x3 8 (if ((H_place h) (x3).toNatClampNeg) = x1 then (X1_sitters_J33 k4 h x1 (x2 + (1 : Int32)) x3) else (X1_sitters_J33 k4 h x1 x2 x3))) else (X1_sitters_J33 k4 h x1 x2 x3))))
def f_X1_sitters (h : HS) (x1 : Int32) : Option (Int32) :=
  (it X1_sitters_B4 (fun _ _ _ _ => none) FU h x1 (0 : Int32) (0 : Int32))
theorem kv_X1_sitters : KV RX1 yX1_sitters cX1_sitters 4 (some .int) 1 := ⟨mw_360, mw_361, mw_56, mw_362, by decide +kernel⟩
set_option maxHeartbeats 8000000 in
set_option maxRecDepth 100000 in
theorem c_X1_sitters {l : Launch} {E : va_G} {cy : Nat → ClassId} (A : Nat → Nat) (h : HS) (x1 : Int32) (q : Int32) (hf : f_X1_sitters h x1 = some q) : Ci l yX1_sitters cX1_sitters 4 (some .int) 1 60 E cy [.ref (A 0), .int x1] (wH cy A h) q (wH cy A h) := by
  refine Ci.of RX1 (by decide) rfl (Nat.le_of_ble_eq_true rfl) ?_
  intro K hK
  have hc := hK.cq
  have L4 : ∀ (n4 : Nat) (x1 : Int32) (x2 : Int32) (x3 : Int32), it X1_sitters_B4 (fun _ _ _ _ => none) n4 h x1 x2 x3 = some q → V K (wH cy A h) 4 [(0, .ref (A 0)), (1, .int x1), (2, .int x2), (3, .int x3)] [] := by
    intro n4
    induction n4 with
    | zero => intro x1 x2 x3 hf; exact (o_none hf).elim
    | succ n4 ih4 =>
      have J33 : ∀ (x1 : Int32) (x2 : Int32) (x3 : Int32), X1_sitters_J33 (it X1_sitters_B4 (fun _ _ _ _ => none) n4) h x1 x2 x3 = some q → V K (wH cy A h) 33 [(0, .ref (A 0)), (1, .int x1), (2, .int x2), (3, .int x3)] [] := by
        intro x1 x2 x3 hf
        unfold X1_sitters_J33 at hf
        refine r_iinc hc 3 [(3, .int (x3 + (1 : Int32))), (0, .ref (A 0)), (1, .int x1), (2, .int x2)] (x3 + (1 : Int32)) dX1_sitters_33 rfl rfl (by decide) rfl ?_
        refine r_goto hc 4 dX1_sitters_36 (by decide) ?_
        exact V.sub [1, 2, 3, 0] rfl (ih4 x1 x2 (x3 + (1 : Int32)) hf)
      intro x1 x2 x3 hf
      replace hf : X1_sitters_B4 (it X1_sitters_B4 (fun _ _ _ _ => none) n4) h x1 x2 x3 = some q := hf
      unfold X1_sitters_B4 at hf
      refine r_iload_n hc 3 dX1_sitters_4 rfl ?_
      refine r_bipush hc (8 : Int32) dX1_sitters_5 rfl ?_
      refine r_icmp_ge hc 39 dX1_sitters_7 (by decide) (fun c_1 => ?_) (fun c_1 => ?_)
      · have hf := o_pos c_1 hf
        refine r_iload_n hc 2 dX1_sitters_39 rfl ?_
        exact r_iret hK (Option.some.inj hf) rfl dX1_sitters_40
      · have hf := o_neg c_1 hf
        refine r_aload_n hc 0 dX1_sitters_10 rfl ?_
        refine r_get (v := .ref (A 4)) hc iw_X1 0 rfl rfl 6 (by decide) mw_103 rfl dX1_sitters_11 ?_
        refine r_iload_n hc 3 dX1_sitters_14 rfl ?_
        obtain ⟨i_2, hf⟩ := chk_some hf
        refine r_iald (f := (H_busy h)) hc 4 rfl i_2 dX1_sitters_15 ?_
        refine r_iconst hc (2 : Int32) dX1_sitters_16 rfl ?_
        refine r_icmp_ne hc 33 dX1_sitters_17 (by decide) (fun c_3 => ?_) (fun c_3 => ?_)
        · have hf := o_neg c_3 hf
          exact V.sub [0, 1, 2, 3] rfl (J33 x1 x2 x3 hf)
        · have hf := o_pos c_3 hf
          refine r_aload_n hc 0 dX1_sitters_20 rfl ?_
          refine r_get (v := .ref (A 3)) hc iw_X1 0 rfl rfl 5 (by decide) mw_99 rfl dX1_sitters_21 ?_
          refine r_iload_n hc 3 dX1_sitters_24 rfl ?_
          obtain ⟨i_4, hf⟩ := chk_some hf
          refine r_iald (f := (H_place h)) hc 3 rfl i_4 dX1_sitters_25 ?_
          refine r_iload_n hc 1 dX1_sitters_26 rfl ?_
          refine r_icmp_ne hc 33 dX1_sitters_27 (by decide) (fun c_5 => ?_) (fun c_5 => ?_)
          · have hf := o_neg c_5 hf
            exact V.sub [0, 1, 2, 3] rfl (J33 x1 x2 x3 hf)
          · have hf := o_pos c_5 hf
            refine r_iinc hc 2 [(2, .int (x2 + (1 : Int32))), (0, .ref (A 0)), (1, .int x1), (3, .int x3)] (x2 + (1 : Int32)) dX1_sitters_30 rfl rfl (by decide) rfl ?_
            exact V.sub [1, 2, 0, 3] rfl (J33 x1 (x2 + (1 : Int32)) x3 hf)
  show V K (wH cy A h) 0 [(0, .ref (A 0)), (1, .int x1)] []
  unfold f_X1_sitters at hf
  refine r_iconst hc (0 : Int32) dX1_sitters_0 rfl ?_
  refine r_istore_n hc [(2, .int (0 : Int32)), (0, .ref (A 0)), (1, .int x1)] dX1_sitters_1 (by decide) rfl ?_
  refine r_iconst hc (0 : Int32) dX1_sitters_2 rfl ?_
  refine r_istore_n hc [(3, .int (0 : Int32)), (2, .int (0 : Int32)), (0, .ref (A 0)), (1, .int x1)] dX1_sitters_3 (by decide) rfl ?_
  exact V.sub [2, 3, 1, 0] rfl (L4 FU x1 (0 : Int32) (0 : Int32) hf)
def X1_jam_J82 (k5 : HS → Int32 → Int32 → Int32 → Int32 → Option (Int32)) (h : HS) (x1 : Int32) (x2 : Int32) (x3 : Int32) (x4 : Int32) : Option (Int32) :=
  (k5 h x1 x2 x3 (x4 + (1 : Int32)))
def X1_jam_J61 (k5 : HS → Int32 → Int32 → Int32 → Int32 → Option (Int32)) (h : HS) (x1 : Int32) (x2 : Int32) (x3 : Int32) (x4 : Int32) (s0 : Int32) : Option (Int32) :=
  (chk x4 8 (if ((H_busy h) (x4).toNatClampNeg) = (3 : Int32) then (if s0 = 0 then (X1_jam_J82 k5 h x1 x2 x3 x4) else (X1_jam_J82 k5 h x1 x2 (x3 + (1 : Int32)) x4)) else (X1_jam_J82 k5 h x1 x2 x3 x4)))
def X1_jam_J60 (k5 : HS → Int32 → Int32 → Int32 → Int32 → Option (Int32)) (h : HS) (x1 : Int32) (x2 : Int32) (x3 : Int32) (x4 : Int32) : Option (Int32) :=
  (X1_jam_J61 k5 h x1 x2 x3 x4 (0 : Int32))
def X1_jam_J56 (k5 : HS → Int32 → Int32 → Int32 → Int32 → Option (Int32)) (h : HS) (x1 : Int32) (x2 : Int32) (x3 : Int32) (x4 : Int32) : Option (Int32) :=
  (X1_jam_J61 k5 h x1 x2 x3 x4 (1 : Int32))
def X1_jam_J34 (k5 : HS → Int32 → Int32 → Int32 → Int32 → Option (Int32)) (h : HS) (x1 : Int32) (x2 : Int32) (x3 : Int32) (x4 : Int32) : Option (Int32) :=
  (chk x4 8 (if ((H_place h) (x4).toNatClampNeg) = x2 then (chk x4 8 (if ((H_mate h) (x4).toNatClampNeg) = x1 then (X1_jam_J56 k5 h x1 x2 x3 x4) else (X1_jam_J60 k5 h x1 x2 x3 x4))) else (X1_jam_J60 k5 h x1 x2 x3 x4)))
def X1_jam_B5 (k5 : HS → Int32 → Int32 → Int32 → Int32 → Option (Int32)) (h : HS) (x1 : Int32) (x2 : Int32) (x3 : Int32) (x4 : Int32) : Option (Int32) :=
  (if (8 : Int32) ≤ x4 then (some (x3)) else (chk x4 8 (if ((H_place h) (x4).toNatClampNeg) = x1 then (chk x4 8 (if ((H_mate h) (x4).toNatClampNeg) = x2 then (X1_jam_J56 k5 h x1 x2 x3 x4) else (X1_jam_J34 k5 h x1 x2 x3 x4))) else (X1_jam_J34 k5 h x1 x2 x3 x4))))
def f_X1_jam (h : HS) (x1 : Int32) (x2 : Int32) : Option (Int32) :=
  (it X1_jam_B5 (fun _ _ _ _ _ => none) FU h x1 x2 (0 : Int32) (0 : Int32))
theorem kv_X1_jam : KV RX1 yX1_jam cX1_jam 6 (some .int) 2 := ⟨mw_368, mw_369, mw_56, mw_370, by decide +kernel⟩
set_option maxHeartbeats 8000000 in
set_option maxRecDepth 100000 in
theorem c_X1_jam {l : Launch} {E : va_G} {cy : Nat → ClassId} (A : Nat → Nat) (h : HS) (x1 : Int32) (x2 : Int32) (q : Int32) (hf : f_X1_jam h x1 x2 = some q) : Ci l yX1_jam cX1_jam 6 (some .int) 1 60 E cy [.ref (A 0), .int x1, .int x2] (wH cy A h) q (wH cy A h) := by
  refine Ci.of RX1 (by decide) rfl (Nat.le_of_ble_eq_true rfl) ?_
  intro K hK
  have hc := hK.cq
  have L5 : ∀ (n5 : Nat) (x1 : Int32) (x2 : Int32) (x3 : Int32) (x4 : Int32), it X1_jam_B5 (fun _ _ _ _ _ => none) n5 h x1 x2 x3 x4 = some q → V K (wH cy A h) 5 [(0, .ref (A 0)), (1, .int x1), (2, .int x2), (3, .int x3), (4, .int x4)] [] := by
    intro n5
    induction n5 with
    | zero => intro x1 x2 x3 x4 hf; exact (o_none hf).elim
    | succ n5 ih5 =>
      have J82 : ∀ (x1 : Int32) (x2 : Int32) (x3 : Int32) (x4 : Int32), X1_jam_J82 (it X1_jam_B5 (fun _ _ _ _ _ => none) n5) h x1 x2 x3 x4 = some q → V K (wH cy A h) 82 [(0, .ref (A 0)), (1, .int x1), (2, .int x2), (3, .int x3), (4, .int x4)] [] := by
        intro x1 x2 x3 x4 hf
        unfold X1_jam_J82 at hf
        refine r_iinc hc 4 [(4, .int (x4 + (1 : Int32))), (0, .ref (A 0)), (1, .int x1), (2, .int x2), (3, .int x3)] (x4 + (1 : Int32)) dX1_jam_82 rfl rfl (by decide) rfl ?_
        refine r_goto hc 5 dX1_jam_85 (by decide) ?_
        exact V.sub [1, 2, 3, 4, 0] rfl (ih5 x1 x2 x3 (x4 + (1 : Int32)) hf)
      have J61 : ∀ (x1 : Int32) (x2 : Int32) (x3 : Int32) (x4 : Int32) (s0 : Int32), X1_jam_J61 (it X1_jam_B5 (fun _ _ _ _ _ => none) n5) h x1 x2 x3 x4 s0 = some q → V K (wH cy A h) 61 [(0, .ref (A 0)), (1, .int x1), (2, .int x2), (3, .int x3), (4, .int x4)] [.int s0] := by
        intro x1 x2 x3 x4 s0 hf
        unfold X1_jam_J61 at hf
        refine r_istore hc [(5, .int s0), (0, .ref (A 0)), (1, .int x1), (2, .int x2), (3, .int x3), (4, .int x4)] dX1_jam_61 (by decide) rfl ?_
        refine r_aload_n hc 1 dX1_jam_63 rfl ?_
        refine r_get (v := .ref (A 4)) hc iw_X1 0 rfl rfl 6 (by decide) mw_103 rfl dX1_jam_64 ?_
        refine r_iload hc 5 dX1_jam_67 rfl ?_
        obtain ⟨i_6, hf⟩ := chk_some hf
        refine r_iald (f := (H_busy h)) hc 4 rfl i_6 dX1_jam_69 ?_
        refine r_iconst hc (3 : Int32) dX1_jam_70 rfl ?_
        refine r_icmp_ne hc 82 dX1_jam_71 (by decide) (fun c_7 => ?_) (fun c_7 => ?_)
        · have hf := o_neg c_7 hf
          exact V.sub [1, 2, 3, 4, 5] rfl (J82 x1 x2 x3 x4 hf)
        · have hf := o_pos c_7 hf
          refine r_iload hc 0 dX1_jam_74 rfl ?_
          refine r_if_eq hc 82 dX1_jam_76 (by decide) (fun c_8 => ?_) (fun c_8 => ?_)
          · have hf := o_pos c_8 hf
            exact V.sub [1, 2, 3, 4, 5] rfl (J82 x1 x2 x3 x4 hf)
          · have hf := o_neg c_8 hf
            refine r_iinc hc 4 [(3, .int (x3 + (1 : Int32))), (5, .int s0), (0, .ref (A 0)), (1, .int x1), (2, .int x2), (4, .int x4)] (x3 + (1 : Int32)) dX1_jam_79 rfl rfl (by decide) rfl ?_
            exact V.sub [2, 3, 4, 0, 5] rfl (J82 x1 x2 (x3 + (1 : Int32)) x4 hf)
      have J60 : ∀ (x1 : Int32) (x2 : Int32) (x3 : Int32) (x4 : Int32), X1_jam_J60 (it X1_jam_B5 (fun _ _ _ _ _ => none) n5) h x1 x2 x3 x4 = some q → V K (wH cy A h) 60 [(0, .ref (A 0)), (1, .int x1), (2, .int x2), (3, .int x3), (4, .int x4)] [] := by
        intro x1 x2 x3 x4 hf
        unfold X1_jam_J60 at hf
        refine r_iconst hc (0 : Int32) dX1_jam_60 rfl ?_
        exact V.sub [0, 1, 2, 3, 4] rfl (J61 x1 x2 x3 x4 (0 : Int32) hf)
      have J56 : ∀ (x1 : Int32) (x2 : Int32) (x3 : Int32) (x4 : Int32), X1_jam_J56 (it X1_jam_B5 (fun _ _ _ _ _ => none) n5) h x1 x2 x3 x4 = some q → V K (wH cy A h) 56 [(0, .ref (A 0)), (1, .int x1), (2, .int x2), (3, .int x3), (4, .int x4)] [] := by
        intro x1 x2 x3 x4 hf
        unfold X1_jam_J56 at hf
        refine r_iconst hc (1 : Int32) dX1_jam_56 rfl ?_
        refine r_goto hc 61 dX1_jam_57 (by decide) ?_
        exact V.sub [0, 1, 2, 3, 4] rfl (J61 x1 x2 x3 x4 (1 : Int32) hf)
      have J34 : ∀ (x1 : Int32) (x2 : Int32) (x3 : Int32) (x4 : Int32), X1_jam_J34 (it X1_jam_B5 (fun _ _ _ _ _ => none) n5) h x1 x2 x3 x4 = some q → V K (wH cy A h) 34 [(0, .ref (A 0)), (1, .int x1), (2, .int x2), (3, .int x3), (4, .int x4)] [] := by
        intro x1 x2 x3 x4 hf
        unfold X1_jam_J34 at hf
        refine r_aload_n hc 0 dX1_jam_34 rfl ?_
        refine r_get (v := .ref (A 3)) hc iw_X1 0 rfl rfl 5 (by decide) mw_99 rfl dX1_jam_35 ?_
        refine r_iload hc 4 dX1_jam_38 rfl ?_
        obtain ⟨i_9, hf⟩ := chk_some hf
        refine r_iald (f := (H_place h)) hc 3 rfl i_9 dX1_jam_40 ?_
        refine r_iload_n hc 2 dX1_jam_41 rfl ?_
        refine r_icmp_ne hc 60 dX1_jam_42 (by decide) (fun c_10 => ?_) (fun c_10 => ?_)
        · have hf := o_neg c_10 hf
          exact V.sub [0, 1, 2, 3, 4] rfl (J60 x1 x2 x3 x4 hf)
        · have hf := o_pos c_10 hf
          refine r_aload_n hc 0 dX1_jam_45 rfl ?_
          refine r_get (v := .ref (A 5)) hc iw_X1 0 rfl rfl 7 (by decide) mw_106 rfl dX1_jam_46 ?_
          refine r_iload hc 4 dX1_jam_49 rfl ?_
          obtain ⟨i_11, hf⟩ := chk_some hf
          refine r_iald (f := (H_mate h)) hc 5 rfl i_11 dX1_jam_51 ?_
          refine r_iload_n hc 1 dX1_jam_52 rfl ?_
          refine r_icmp_ne hc 60 dX1_jam_53 (by decide) (fun c_12 => ?_) (fun c_12 => ?_)
          · have hf := o_neg c_12 hf
            exact V.sub [0, 1, 2, 3, 4] rfl (J60 x1 x2 x3 x4 hf)
          · have hf := o_pos c_12 hf
            exact V.sub [0, 1, 2, 3, 4] rfl (J56 x1 x2 x3 x4 hf)
      intro x1 x2 x3 x4 hf
      replace hf : X1_jam_B5 (it X1_jam_B5 (fun _ _ _ _ _ => none) n5) h x1 x2 x3 x4 = some q := hf
      unfold X1_jam_B5 at hf
      refine r_iload hc 4 dX1_jam_5 rfl ?_
      refine r_bipush hc (8 : Int32) dX1_jam_7 rfl ?_
      refine r_icmp_ge hc 88 dX1_jam_9 (by decide) (fun c_1 => ?_) (fun c_1 => ?_)
      · have hf := o_pos c_1 hf
        refine r_iload_n hc 3 dX1_jam_88 rfl ?_
        exact r_iret hK (Option.some.inj hf) rfl dX1_jam_89
      · have hf := o_neg c_1 hf
        refine r_aload_n hc 0 dX1_jam_12 rfl ?_
        refine r_get (v := .ref (A 3)) hc iw_X1 0 rfl rfl 5 (by decide) mw_99 rfl dX1_jam_13 ?_
        refine r_iload hc 4 dX1_jam_16 rfl ?_
        obtain ⟨i_2, hf⟩ := chk_some hf
        refine r_iald (f := (H_place h)) hc 3 rfl i_2 dX1_jam_18 ?_
        refine r_iload_n hc 1 dX1_jam_19 rfl ?_
        refine r_icmp_ne hc 34 dX1_jam_20 (by decide) (fun c_3 => ?_) (fun c_3 => ?_)
        · have hf := o_neg c_3 hf
          exact V.sub [0, 1, 2, 3, 4] rfl (J34 x1 x2 x3 x4 hf)
        · have hf := o_pos c_3 hf
          refine r_aload_n hc 0 dX1_jam_23 rfl ?_
          refine r_get (v := .ref (A 5)) hc iw_X1 0 rfl rfl 7 (by decide) mw_106 rfl dX1_jam_24 ?_
          refine r_iload hc 4 dX1_jam_27 rfl ?_
          obtain ⟨i_4, hf⟩ := chk_some hf
          refine r_iald (f := (H_mate h)) hc 5 rfl i_4 dX1_jam_29 ?_
          refine r_iload_n hc 2 dX1_jam_30 rfl ?_
          refine r_icmp_eq hc 56 dX1_jam_31 (by decide) (fun c_5 => ?_) (fun c_5 => ?_)
          · have hf := o_pos c_5 hf
            exact V.sub [0, 1, 2, 3, 4] rfl (J56 x1 x2 x3 x4 hf)
          · have hf := o_neg c_5 hf
            exact V.sub [0, 1, 2, 3, 4] rfl (J34 x1 x2 x3 x4 hf)
  show V K (wH cy A h) 0 [(0, .ref (A 0)), (1, .int x1), (2, .int x2)] []
  unfold f_X1_jam at hf
  refine r_iconst hc (0 : Int32) dX1_jam_0 rfl ?_
  refine r_istore_n hc [(3, .int (0 : Int32)), (0, .ref (A 0)), (1, .int x1), (2, .int x2)] dX1_jam_1 (by decide) rfl ?_
  refine r_iconst hc (0 : Int32) dX1_jam_2 rfl ?_
  refine r_istore hc [(4, .int (0 : Int32)), (3, .int (0 : Int32)), (0, .ref (A 0)), (1, .int x1), (2, .int x2)] dX1_jam_3 (by decide) rfl ?_
  exact V.sub [2, 3, 4, 1, 0] rfl (L5 FU x1 x2 (0 : Int32) (0 : Int32) hf)
def X1_idle_J33 (k4 : HS → Int32 → Int32 → Option (Int32)) (h : HS) (x1 : Int32) (x2 : Int32) : Option (Int32) :=
  (k4 h x1 (x2 + (1 : Int32)))
def X1_idle_B4 (k4 : HS → Int32 → Int32 → Option (Int32)) (h : HS) (x1 : Int32) (x2 : Int32) : Option (Int32) :=
  (if (8 : Int32) ≤ x2 then (some (x1)) else ((f_X1_isThere h x2).bind fun q12 => (if q12 = 0 then (X1_idle_J33 k4 h x1 x2) else (chk x2 8 (if ((H_busy h) (x2).toNatClampNeg) = 0 then (X1_idle_J33 k4 h (x1 ||| ((1 : Int32) <<< (x2 &&& 31))) x2) else (X1_idle_J33 k4 h x1 x2))))))
def f_X1_idle (h : HS) : Option (Int32) :=
  (it X1_idle_B4 (fun _ _ _ => none) FU h (0 : Int32) (0 : Int32))
theorem kv_X1_idle : KV RX1 yX1_idle cX1_idle 3 (some .int) 0 := ⟨mw_733, mw_734, mw_56, mw_735, by decide +kernel⟩
set_option maxHeartbeats 8000000 in
set_option maxRecDepth 100000 in
theorem c_X1_idle {l : Launch} {E : va_G} {cy : Nat → ClassId} (A : Nat → Nat) (h : HS) (q : Int32) (hf : f_X1_idle h = some q) : Ci l yX1_idle cX1_idle 3 (some .int) 2 81 E cy [.ref (A 0)] (wH cy A h) q (wH cy A h) := by
  refine Ci.of RX1 (by decide) rfl (Nat.le_of_ble_eq_true rfl) ?_
  intro K hK
  have hc := hK.cq
  have L4 : ∀ (n4 : Nat) (x1 : Int32) (x2 : Int32), it X1_idle_B4 (fun _ _ _ => none) n4 h x1 x2 = some q → V K (wH cy A h) 4 [(0, .ref (A 0)), (1, .int x1), (2, .int x2)] [] := by
    intro n4
    induction n4 with
    | zero => intro x1 x2 hf; exact (o_none hf).elim
    | succ n4 ih4 =>
      have J33 : ∀ (x1 : Int32) (x2 : Int32), X1_idle_J33 (it X1_idle_B4 (fun _ _ _ => none) n4) h x1 x2 = some q → V K (wH cy A h) 33 [(0, .ref (A 0)), (1, .int x1), (2, .int x2)] [] := by
        intro x1 x2 hf
        unfold X1_idle_J33 at hf
        refine r_iinc hc 2 [(2, .int (x2 + (1 : Int32))), (0, .ref (A 0)), (1, .int x1)] (x2 + (1 : Int32)) dX1_idle_33 rfl rfl (by decide) rfl ?_
        refine r_goto hc 4 dX1_idle_36 (by decide) ?_
        exact V.sub [1, 2, 0] rfl (ih4 x1 (x2 + (1 : Int32)) hf)
      intro x1 x2 hf
      replace hf : X1_idle_B4 (it X1_idle_B4 (fun _ _ _ => none) n4) h x1 x2 = some q := hf
      unfold X1_idle_B4 at hf
      refine r_iload_n hc 2 dX1_idle_4 rfl ?_
      refine r_bipush hc (8 : Int32) dX1_idle_5 rfl ?_
      refine r_icmp_ge hc 39 dX1_idle_7 (by decide) (fun c_1 => ?_) (fun c_1 => ?_)
      · have hf := o_pos c_1 hf
        refine r_iload_n hc 1 dX1_idle_39 rfl ?_
        exact r_iret hK (Option.some.inj hf) rfl dX1_idle_40
      · have hf := o_neg c_1 hf
        refine r_aload_n hc 0 dX1_idle_10 rfl ?_
        refine r_iload_n hc 2 dX1_idle_11 rfl ?_
        obtain ⟨q12, hq12, hf⟩ := o_bind hf
        refine r_callVi (ws' := (wH cy A h)) (As := [.int x2]) (rest := []) hc (c_X1_isThere A h x2 q12 hq12) kv_X1_isThere mw_349 0 rfl rfl _ _ _ (Sp_all _ _) rfl rfl (Nat.le_of_ble_eq_true rfl) ⟨by decide, by decide⟩ dX1_idle_12 ?_
        refine r_if_eq hc 33 dX1_idle_15 (by decide) (fun c_2 => ?_) (fun c_2 => ?_)
        · have hf := o_pos c_2 hf
          exact V.sub [0, 1, 2] rfl (J33 x1 x2 hf)
        · have hf := o_neg c_2 hf
          refine r_aload_n hc 0 dX1_idle_18 rfl ?_
          refine r_get (v := .ref (A 4)) hc iw_X1 0 rfl rfl 6 (by decide) mw_103 rfl dX1_idle_19 ?_
          refine r_iload_n hc 2 dX1_idle_22 rfl ?_
          obtain ⟨i_3, hf⟩ := chk_some hf
          refine r_iald (f := (H_busy h)) hc 4 rfl i_3 dX1_idle_23 ?_
          refine r_if_ne hc 33 dX1_idle_24 (by decide) (fun c_4 => ?_) (fun c_4 => ?_)
          · have hf := o_neg c_4 hf
            exact V.sub [0, 1, 2] rfl (J33 x1 x2 hf)
          · have hf := o_pos c_4 hf
            refine r_iload_n hc 1 dX1_idle_27 rfl ?_
            refine r_iconst hc (1 : Int32) dX1_idle_28 rfl ?_
            refine r_iload_n hc 2 dX1_idle_29 rfl ?_
            refine r_ishl hc dX1_idle_30 ?_
            refine r_ior hc dX1_idle_31 ?_
            refine r_istore_n hc [(1, .int (x1 ||| ((1 : Int32) <<< (x2 &&& 31)))), (0, .ref (A 0)), (2, .int x2)] dX1_idle_32 (by decide) rfl ?_
            exact V.sub [1, 0, 2] rfl (J33 (x1 ||| ((1 : Int32) <<< (x2 &&& 31))) x2 hf)
  show V K (wH cy A h) 0 [(0, .ref (A 0))] []
  unfold f_X1_idle at hf
  refine r_iconst hc (0 : Int32) dX1_idle_0 rfl ?_
  refine r_istore_n hc [(1, .int (0 : Int32)), (0, .ref (A 0))] dX1_idle_1 (by decide) rfl ?_
  refine r_iconst hc (0 : Int32) dX1_idle_2 rfl ?_
  refine r_istore_n hc [(2, .int (0 : Int32)), (1, .int (0 : Int32)), (0, .ref (A 0))] dX1_idle_3 (by decide) rfl ?_
  exact V.sub [2, 1, 0] rfl (L4 FU (0 : Int32) (0 : Int32) hf)
def X1_anyTalks_B2 (k2 : HS → Int32 → Option (Int32)) (h : HS) (x1 : Int32) : Option (Int32) :=
  (if (8 : Int32) ≤ x1 then (some ((0 : Int32))) else (chk x1 8 (if ((H_busy h) (x1).toNatClampNeg) = (1 : Int32) then (some ((1 : Int32))) else (k2 h (x1 + (1 : Int32))))))
def f_X1_anyTalks (h : HS) : Option (Int32) :=
  (it X1_anyTalks_B2 (fun _ _ => none) FU h (0 : Int32))
theorem kv_X1_anyTalks : KV RX1 yX1_anyTalks cX1_anyTalks 2 (some .boolean) 0 := ⟨mw_611, mw_612, mw_56, mw_613, by decide +kernel⟩
set_option maxHeartbeats 8000000 in
set_option maxRecDepth 100000 in
theorem c_X1_anyTalks {l : Launch} {E : va_G} {cy : Nat → ClassId} (A : Nat → Nat) (h : HS) (q : Int32) (hf : f_X1_anyTalks h = some q) : Ci l yX1_anyTalks cX1_anyTalks 2 (some .boolean) 1 60 E cy [.ref (A 0)] (wH cy A h) q (wH cy A h) := by
  refine Ci.of RX1 (by decide) rfl (Nat.le_of_ble_eq_true rfl) ?_
  intro K hK
  have hc := hK.cq
  have L2 : ∀ (n2 : Nat) (x1 : Int32), it X1_anyTalks_B2 (fun _ _ => none) n2 h x1 = some q → V K (wH cy A h) 2 [(0, .ref (A 0)), (1, .int x1)] [] := by
    intro n2
    induction n2 with
    | zero => intro x1 hf; exact (o_none hf).elim
    | succ n2 ih2 =>
      intro x1 hf
      replace hf : X1_anyTalks_B2 (it X1_anyTalks_B2 (fun _ _ => none) n2) h x1 = some q := hf
      unfold X1_anyTalks_B2 at hf
      refine r_iload_n hc 1 dX1_anyTalks_2 rfl ?_
      refine r_bipush hc (8 : Int32) dX1_anyTalks_3 rfl ?_
      refine r_icmp_ge hc 26 dX1_anyTalks_5 (by decide) (fun c_1 => ?_) (fun c_1 => ?_)
      · have hf := o_pos c_1 hf
        refine r_iconst hc (0 : Int32) dX1_anyTalks_26 rfl ?_
        exact r_zret hK rfl (Option.some.inj hf) rfl dX1_anyTalks_27
      · have hf := o_neg c_1 hf
        refine r_aload_n hc 0 dX1_anyTalks_8 rfl ?_
        refine r_get (v := .ref (A 4)) hc iw_X1 0 rfl rfl 6 (by decide) mw_103 rfl dX1_anyTalks_9 ?_
        refine r_iload_n hc 1 dX1_anyTalks_12 rfl ?_
        obtain ⟨i_2, hf⟩ := chk_some hf
        refine r_iald (f := (H_busy h)) hc 4 rfl i_2 dX1_anyTalks_13 ?_
        refine r_iconst hc (1 : Int32) dX1_anyTalks_14 rfl ?_
        refine r_icmp_ne hc 20 dX1_anyTalks_15 (by decide) (fun c_3 => ?_) (fun c_3 => ?_)
        · have hf := o_neg c_3 hf
          refine r_iinc hc 1 [(1, .int (x1 + (1 : Int32))), (0, .ref (A 0))] (x1 + (1 : Int32)) dX1_anyTalks_20 rfl rfl (by decide) rfl ?_
          refine r_goto hc 2 dX1_anyTalks_23 (by decide) ?_
          exact V.sub [1, 0] rfl (ih2 (x1 + (1 : Int32)) hf)
        · have hf := o_pos c_3 hf
          refine r_iconst hc (1 : Int32) dX1_anyTalks_18 rfl ?_
          exact r_zret hK rfl (Option.some.inj hf) rfl dX1_anyTalks_19
  show V K (wH cy A h) 0 [(0, .ref (A 0))] []
  unfold f_X1_anyTalks at hf
  refine r_iconst hc (0 : Int32) dX1_anyTalks_0 rfl ?_
  refine r_istore_n hc [(1, .int (0 : Int32)), (0, .ref (A 0))] dX1_anyTalks_1 (by decide) rfl ?_
  exact V.sub [1, 0] rfl (L2 FU (0 : Int32) hf)
def X1_pullOfThings_B5 (k5 : HS → Int32 → Int32 → Int32 → Int32 → Option (Int32)) (h : HS) (x1 : Int32) (x2 : Int32) (x3 : Int32) (x4 : Int32) : Option (Int32) :=
  (if (4 : Int32) ≤ x4 then (some (x3)) else (chk ((x1 * (5 : Int32)) + x4) 40 (chk ((x2 * (6 : Int32)) + x4) 36 (k5 h x1 x2 (x3 + (((H_likes h) (((x1 * (5 : Int32)) + x4)).toNatClampNeg) * ((H_measure h) (((x2 * (6 : Int32)) + x4)).toNatClampNeg))) (x4 + (1 : Int32))))))
def f_X1_pullOfThings (h : HS) (x1 : Int32) (x2 : Int32) : Option (Int32) :=
  (it X1_pullOfThings_B5 (fun _ _ _ _ _ => none) FU h x1 x2 (0 : Int32) (0 : Int32))
theorem kv_X1_pullOfThings : KV RX1 yX1_pullOfThings cX1_pullOfThings 5 (some .int) 2 := ⟨mw_480, mw_481, mw_56, mw_482, by decide +kernel⟩
set_option maxHeartbeats 8000000 in
set_option maxRecDepth 100000 in
theorem c_X1_pullOfThings {l : Launch} {E : va_G} {cy : Nat → ClassId} (A : Nat → Nat) (h : HS) (x1 : Int32) (x2 : Int32) (q : Int32) (hf : f_X1_pullOfThings h x1 x2 = some q) : Ci l yX1_pullOfThings cX1_pullOfThings 5 (some .int) 1 60 E cy [.ref (A 0), .int x1, .int x2] (wH cy A h) q (wH cy A h) := by
  refine Ci.of RX1 (by decide) rfl (Nat.le_of_ble_eq_true rfl) ?_
  intro K hK
  have hc := hK.cq
  have L5 : ∀ (n5 : Nat) (x1 : Int32) (x2 : Int32) (x3 : Int32) (x4 : Int32), it X1_pullOfThings_B5 (fun _ _ _ _ _ => none) n5 h x1 x2 x3 x4 = some q → V K (wH cy A h) 5 [(0, .ref (A 0)), (1, .int x1), (2, .int x2), (3, .int x3), (4, .int x4)] [] := by
    intro n5
    induction n5 with
    | zero => intro x1 x2 x3 x4 hf; exact (o_none hf).elim
    | succ n5 ih5 =>
      intro x1 x2 x3 x4 hf
      replace hf : X1_pullOfThings_B5 (it X1_pullOfThings_B5 (fun _ _ _ _ _ => none) n5) h x1 x2 x3 x4 = some q := hf
      unfold X1_pullOfThings_B5 at hf
      refine r_iload hc 4 dX1_pullOfThings_5 rfl ?_
      refine r_iconst hc (4 : Int32) dX1_pullOfThings_7 rfl ?_
      refine r_icmp_ge hc 44 dX1_pullOfThings_8 (by decide) (fun c_1 => ?_) (fun c_1 => ?_)
      · have hf := o_pos c_1 hf
        refine r_iload_n hc 3 dX1_pullOfThings_44 rfl ?_
        exact r_iret hK (Option.some.inj hf) rfl dX1_pullOfThings_45
      · have hf := o_neg c_1 hf
        refine r_iload_n hc 3 dX1_pullOfThings_11 rfl ?_
        refine r_aload_n hc 0 dX1_pullOfThings_12 rfl ?_
        refine r_get (v := .ref (A 7)) hc iw_X1 0 rfl rfl 9 (by decide) mw_109 rfl dX1_pullOfThings_13 ?_
        refine r_iload_n hc 1 dX1_pullOfThings_16 rfl ?_
        refine r_iconst hc (5 : Int32) dX1_pullOfThings_17 rfl ?_
        refine r_imul hc dX1_pullOfThings_18 ?_
        refine r_iload hc 4 dX1_pullOfThings_19 rfl ?_
        refine r_iadd hc dX1_pullOfThings_21 ?_
        obtain ⟨i_2, hf⟩ := chk_some hf
        refine r_iald (f := (H_likes h)) hc 7 rfl i_2 dX1_pullOfThings_22 ?_
        refine r_aload_n hc 0 dX1_pullOfThings_23 rfl ?_
        refine r_get (v := .ref (A 1)) hc iw_X1 0 rfl rfl 3 (by decide) mw_93 rfl dX1_pullOfThings_24 ?_
        refine r_iload_n hc 2 dX1_pullOfThings_27 rfl ?_
        refine r_bipush hc (6 : Int32) dX1_pullOfThings_28 rfl ?_
        refine r_imul hc dX1_pullOfThings_30 ?_
        refine r_iload hc 4 dX1_pullOfThings_31 rfl ?_
        refine r_iadd hc dX1_pullOfThings_33 ?_
        obtain ⟨i_3, hf⟩ := chk_some hf
        refine r_iald (f := (H_measure h)) hc 1 rfl i_3 dX1_pullOfThings_34 ?_
        refine r_imul hc dX1_pullOfThings_35 ?_
        refine r_iadd hc dX1_pullOfThings_36 ?_
        refine r_istore_n hc [(3, .int (x3 + (((H_likes h) (((x1 * (5 : Int32)) + x4)).toNatClampNeg) * ((H_measure h) (((x2 * (6 : Int32)) + x4)).toNatClampNeg)))), (0, .ref (A 0)), (1, .int x1), (2, .int x2), (4, .int x4)] dX1_pullOfThings_37 (by decide) rfl ?_
        refine r_iinc hc 4 [(4, .int (x4 + (1 : Int32))), (3, .int (x3 + (((H_likes h) (((x1 * (5 : Int32)) + x4)).toNatClampNeg) * ((H_measure h) (((x2 * (6 : Int32)) + x4)).toNatClampNeg)))), (0, .ref (A 0)), (1, .int x1), (2, .int x2)] (x4 + (1 : Int32)) dX1_pullOfThings_38 rfl rfl (by decide) rfl ?_
        refine r_goto hc 5 dX1_pullOfThings_41 (by decide) ?_
        exact V.sub [2, 3, 4, 1, 0] rfl (ih5 x1 x2 (x3 + (((H_likes h) (((x1 * (5 : Int32)) + x4)).toNatClampNeg) * ((H_measure h) (((x2 * (6 : Int32)) + x4)).toNatClampNeg))) (x4 + (1 : Int32)) hf)
  show V K (wH cy A h) 0 [(0, .ref (A 0)), (1, .int x1), (2, .int x2)] []
  unfold f_X1_pullOfThings at hf
  refine r_iconst hc (0 : Int32) dX1_pullOfThings_0 rfl ?_
  refine r_istore_n hc [(3, .int (0 : Int32)), (0, .ref (A 0)), (1, .int x1), (2, .int x2)] dX1_pullOfThings_1 (by decide) rfl ?_
  refine r_iconst hc (0 : Int32) dX1_pullOfThings_2 rfl ?_
  refine r_istore hc [(4, .int (0 : Int32)), (3, .int (0 : Int32)), (0, .ref (A 0)), (1, .int x1), (2, .int x2)] dX1_pullOfThings_3 (by decide) rfl ?_
  exact V.sub [2, 3, 4, 1, 0] rfl (L5 FU x1 x2 (0 : Int32) (0 : Int32) hf)
def f_X1_pull (h : HS) (x1 : Int32) (x2 : Int32) : Option (Int32) :=
  ((f_X1_pullOfThings h x1 x2).bind fun q3 => (chk ((x1 * (5 : Int32)) + (4 : Int32)) 40 ((f_X1_others h x1 x2).bind fun q19 => (some ((q3 + (((H_likes h) (((x1 * (5 : Int32)) + (4 : Int32))).toNatClampNeg) * q19)))))))
theorem kv_X1_pull : KV RX1 yX1_pull cX1_pull 3 (some .int) 2 := ⟨mw_587, mw_588, mw_56, mw_589, by decide +kernel⟩
set_option maxHeartbeats 8000000 in
set_option maxRecDepth 100000 in
theorem c_X1_pull {l : Launch} {E : va_G} {cy : Nat → ClassId} (A : Nat → Nat) (h : HS) (x1 : Int32) (x2 : Int32) (q : Int32) (hf : f_X1_pull h x1 x2 = some q) : Ci l yX1_pull cX1_pull 3 (some .int) 4 126 E cy [.ref (A 0), .int x1, .int x2] (wH cy A h) q (wH cy A h) := by
  refine Ci.of RX1 (by decide) rfl (Nat.le_of_ble_eq_true rfl) ?_
  intro K hK
  have hc := hK.cq
  show V K (wH cy A h) 0 [(0, .ref (A 0)), (1, .int x1), (2, .int x2)] []
  unfold f_X1_pull at hf
  refine r_aload_n hc 0 dX1_pull_0 rfl ?_
  refine r_iload_n hc 1 dX1_pull_1 rfl ?_
  refine r_iload_n hc 2 dX1_pull_2 rfl ?_
  obtain ⟨q3, hq3, hf⟩ := o_bind hf
  refine r_callVi (ws' := (wH cy A h)) (As := [.int x1, .int x2]) (rest := []) hc (c_X1_pullOfThings A h x1 x2 q3 hq3) kv_X1_pullOfThings mw_590 0 rfl rfl _ _ _ (Sp_all _ _) rfl rfl (Nat.le_of_ble_eq_true rfl) ⟨by decide, by decide⟩ dX1_pull_3 ?_
  refine r_aload_n hc 0 dX1_pull_6 rfl ?_
  refine r_get (v := .ref (A 7)) hc iw_X1 0 rfl rfl 9 (by decide) mw_109 rfl dX1_pull_7 ?_
  refine r_iload_n hc 1 dX1_pull_10 rfl ?_
  refine r_iconst hc (5 : Int32) dX1_pull_11 rfl ?_
  refine r_imul hc dX1_pull_12 ?_
  refine r_iconst hc (4 : Int32) dX1_pull_13 rfl ?_
  refine r_iadd hc dX1_pull_14 ?_
  obtain ⟨i_1, hf⟩ := chk_some hf
  refine r_iald (f := (H_likes h)) hc 7 rfl i_1 dX1_pull_15 ?_
  refine r_aload_n hc 0 dX1_pull_16 rfl ?_
  refine r_iload_n hc 1 dX1_pull_17 rfl ?_
  refine r_iload_n hc 2 dX1_pull_18 rfl ?_
  obtain ⟨q19, hq19, hf⟩ := o_bind hf
  refine r_callVi (ws' := (wH cy A h)) (As := [.int x1, .int x2]) (rest := [.int ((H_likes h) (((x1 * (5 : Int32)) + (4 : Int32))).toNatClampNeg), .int q3]) hc (c_X1_others A h x1 x2 q19 hq19) kv_X1_others mw_591 0 rfl rfl _ _ _ (Sp_all _ _) rfl rfl (Nat.le_of_ble_eq_true rfl) ⟨by decide, by decide⟩ dX1_pull_19 ?_
  refine r_imul hc dX1_pull_22 ?_
  refine r_iadd hc dX1_pull_23 ?_
  exact r_iret hK (Option.some.inj hf) rfl dX1_pull_24
def X1_sightsHold_J32 (k2 : HS → Int32 → Int32 → Int32 → Option (Int32)) (h : HS) (x1 : Int32) (x2 : Int32) (x3 : Int32) : Option (Int32) :=
  (k2 h x1 x2 (x3 + (1 : Int32)))
def X1_sightsHold_B2 (k2 : HS → Int32 → Int32 → Int32 → Option (Int32)) (h : HS) (x1 : Int32) (x2 : Int32) (x3 : Int32) : Option (Int32) :=
  (if (H_sights h) ≤ x3 then (some ((1 : Int32))) else (chk x3 6 (if ((H_sightGuest h) (x3).toNatClampNeg) = x1 then (chk x3 6 (if ((H_sightRoom h) (x3).toNatClampNeg) = x2 then (X1_sightsHold_J32 k2 h x1 x2 x3) else (some ((0 : Int32))))) else (X1_sightsHold_J32 k2 h x1 x2 x3))))
def f_X1_sightsHold (h : HS) (x1 : Int32) (x2 : Int32) : Option (Int32) :=
  (it X1_sightsHold_B2 (fun _ _ _ _ => none) FU h x1 x2 (0 : Int32))
theorem kv_X1_sightsHold : KV RX1 yX1_sightsHold cX1_sightsHold 4 (some .boolean) 2 := ⟨mw_782, mw_783, mw_56, mw_784, by decide +kernel⟩
set_option maxHeartbeats 8000000 in
set_option maxRecDepth 100000 in
theorem c_X1_sightsHold {l : Launch} {E : va_G} {cy : Nat → ClassId} (A : Nat → Nat) (h : HS) (x1 : Int32) (x2 : Int32) (q : Int32) (hf : f_X1_sightsHold h x1 x2 = some q) : Ci l yX1_sightsHold cX1_sightsHold 4 (some .boolean) 1 60 E cy [.ref (A 0), .int x1, .int x2] (wH cy A h) q (wH cy A h) := by
  refine Ci.of RX1 (by decide) rfl (Nat.le_of_ble_eq_true rfl) ?_
  intro K hK
  have hc := hK.cq
  have L2 : ∀ (n2 : Nat) (x1 : Int32) (x2 : Int32) (x3 : Int32), it X1_sightsHold_B2 (fun _ _ _ _ => none) n2 h x1 x2 x3 = some q → V K (wH cy A h) 2 [(0, .ref (A 0)), (1, .int x1), (2, .int x2), (3, .int x3)] [] := by
    intro n2
    induction n2 with
    | zero => intro x1 x2 x3 hf; exact (o_none hf).elim
    | succ n2 ih2 =>
      have J32 : ∀ (x1 : Int32) (x2 : Int32) (x3 : Int32), X1_sightsHold_J32 (it X1_sightsHold_B2 (fun _ _ _ _ => none) n2) h x1 x2 x3 = some q → V K (wH cy A h) 32 [(0, .ref (A 0)), (1, .int x1), (2, .int x2), (3, .int x3)] [] := by
        intro x1 x2 x3 hf
        unfold X1_sightsHold_J32 at hf
        refine r_iinc hc 3 [(3, .int (x3 + (1 : Int32))), (0, .ref (A 0)), (1, .int x1), (2, .int x2)] (x3 + (1 : Int32)) dX1_sightsHold_32 rfl rfl (by decide) rfl ?_
        refine r_goto hc 2 dX1_sightsHold_35 (by decide) ?_
        exact V.sub [1, 2, 3, 0] rfl (ih2 x1 x2 (x3 + (1 : Int32)) hf)
      intro x1 x2 x3 hf
      replace hf : X1_sightsHold_B2 (it X1_sightsHold_B2 (fun _ _ _ _ => none) n2) h x1 x2 x3 = some q := hf
      unfold X1_sightsHold_B2 at hf
      refine r_iload_n hc 3 dX1_sightsHold_2 rfl ?_
      refine r_aload_n hc 0 dX1_sightsHold_3 rfl ?_
      refine r_get (v := .int (H_sights h)) hc iw_X1 0 rfl rfl 2 (by decide) mw_91 rfl dX1_sightsHold_4 ?_
      refine r_icmp_ge hc 38 dX1_sightsHold_7 (by decide) (fun c_1 => ?_) (fun c_1 => ?_)
      · have hf := o_pos c_1 hf
        refine r_iconst hc (1 : Int32) dX1_sightsHold_38 rfl ?_
        exact r_zret hK rfl (Option.some.inj hf) rfl dX1_sightsHold_39
      · have hf := o_neg c_1 hf
        refine r_aload_n hc 0 dX1_sightsHold_10 rfl ?_
        refine r_get (v := .ref (A 8)) hc iw_X1 0 rfl rfl 10 (by decide) mw_113 rfl dX1_sightsHold_11 ?_
        refine r_iload_n hc 3 dX1_sightsHold_14 rfl ?_
        obtain ⟨i_2, hf⟩ := chk_some hf
        refine r_iald (f := (H_sightGuest h)) hc 8 rfl i_2 dX1_sightsHold_15 ?_
        refine r_iload_n hc 1 dX1_sightsHold_16 rfl ?_
        refine r_icmp_ne hc 32 dX1_sightsHold_17 (by decide) (fun c_3 => ?_) (fun c_3 => ?_)
        · have hf := o_neg c_3 hf
          exact V.sub [0, 1, 2, 3] rfl (J32 x1 x2 x3 hf)
        · have hf := o_pos c_3 hf
          refine r_aload_n hc 0 dX1_sightsHold_20 rfl ?_
          refine r_get (v := .ref (A 9)) hc iw_X1 0 rfl rfl 11 (by decide) mw_115 rfl dX1_sightsHold_21 ?_
          refine r_iload_n hc 3 dX1_sightsHold_24 rfl ?_
          obtain ⟨i_4, hf⟩ := chk_some hf
          refine r_iald (f := (H_sightRoom h)) hc 9 rfl i_4 dX1_sightsHold_25 ?_
          refine r_iload_n hc 2 dX1_sightsHold_26 rfl ?_
          refine r_icmp_eq hc 32 dX1_sightsHold_27 (by decide) (fun c_5 => ?_) (fun c_5 => ?_)
          · have hf := o_pos c_5 hf
            exact V.sub [0, 1, 2, 3] rfl (J32 x1 x2 x3 hf)
          · have hf := o_neg c_5 hf
            refine r_iconst hc (0 : Int32) dX1_sightsHold_30 rfl ?_
            exact r_zret hK rfl (Option.some.inj hf) rfl dX1_sightsHold_31
  show V K (wH cy A h) 0 [(0, .ref (A 0)), (1, .int x1), (2, .int x2)] []
  unfold f_X1_sightsHold at hf
  refine r_iconst hc (0 : Int32) dX1_sightsHold_0 rfl ?_
  refine r_istore_n hc [(3, .int (0 : Int32)), (0, .ref (A 0)), (1, .int x1), (2, .int x2)] dX1_sightsHold_1 (by decide) rfl ?_
  exact V.sub [1, 2, 3, 0] rfl (L2 FU x1 x2 (0 : Int32) hf)
def f_X1_tellGuest (h : HS) (x1 : Int32) (x2 : Int32) : Option (Int32) :=
  (if x2 = (0 : Int32) then (chk x1 8 (some (((H_place h) (x1).toNatClampNeg)))) else (if x2 = (1 : Int32) then (chk x1 8 (some (((H_busy h) (x1).toNatClampNeg)))) else (if x2 = (2 : Int32) then (chk x1 8 (some (((H_mate h) (x1).toNatClampNeg)))) else (if x2 = (3 : Int32) then (chk x1 8 (some (((H_left h) (x1).toNatClampNeg)))) else (some ((-2 : Int32)))))))
theorem kv_X1_tellGuest : KV RX1 yX1_tellGuest cX1_tellGuest 3 (some .int) 2 := ⟨mw_575, mw_576, mw_56, mw_577, by decide +kernel⟩
set_option maxHeartbeats 8000000 in
set_option maxRecDepth 100000 in
theorem c_X1_tellGuest {l : Launch} {E : va_G} {cy : Nat → ClassId} (A : Nat → Nat) (h : HS) (x1 : Int32) (x2 : Int32) (q : Int32) (hf : f_X1_tellGuest h x1 x2 = some q) : Ci l yX1_tellGuest cX1_tellGuest 3 (some .int) 1 60 E cy [.ref (A 0), .int x1, .int x2] (wH cy A h) q (wH cy A h) := by
  refine Ci.of RX1 (by decide) rfl (Nat.le_of_ble_eq_true rfl) ?_
  intro K hK
  have hc := hK.cq
  show V K (wH cy A h) 0 [(0, .ref (A 0)), (1, .int x1), (2, .int x2)] []
  unfold f_X1_tellGuest at hf
  refine r_iload_n hc 2 dX1_tellGuest_0 rfl ?_
  by_cases c_5_0 : x2 = (0 : Int32)
  · have hf := o_pos c_5_0 hf
    refine r_tabIn (off := 31) hc 32 dX1_tellGuest_1 (by rw [c_5_0]; decide) (by rw [c_5_0]; decide) (by rw [c_5_0]; rfl) (by decide) ?_
    refine r_aload_n hc 0 dX1_tellGuest_32 rfl ?_
    refine r_get (v := .ref (A 3)) hc iw_X1 0 rfl rfl 5 (by decide) mw_99 rfl dX1_tellGuest_33 ?_
    refine r_iload_n hc 1 dX1_tellGuest_36 rfl ?_
    obtain ⟨i_1, hf⟩ := chk_some hf
    refine r_iald (f := (H_place h)) hc 3 rfl i_1 dX1_tellGuest_37 ?_
    exact r_iret hK (Option.some.inj hf) rfl dX1_tellGuest_38
  · have hf := o_neg c_5_0 hf
    by_cases c_5_1 : x2 = (1 : Int32)
    · have hf := o_pos c_5_1 hf
      refine r_tabIn (off := 38) hc 39 dX1_tellGuest_1 (by rw [c_5_1]; decide) (by rw [c_5_1]; decide) (by rw [c_5_1]; rfl) (by decide) ?_
      refine r_aload_n hc 0 dX1_tellGuest_39 rfl ?_
      refine r_get (v := .ref (A 4)) hc iw_X1 0 rfl rfl 6 (by decide) mw_103 rfl dX1_tellGuest_40 ?_
      refine r_iload_n hc 1 dX1_tellGuest_43 rfl ?_
      obtain ⟨i_2, hf⟩ := chk_some hf
      refine r_iald (f := (H_busy h)) hc 4 rfl i_2 dX1_tellGuest_44 ?_
      exact r_iret hK (Option.some.inj hf) rfl dX1_tellGuest_45
    · have hf := o_neg c_5_1 hf
      by_cases c_5_2 : x2 = (2 : Int32)
      · have hf := o_pos c_5_2 hf
        refine r_tabIn (off := 45) hc 46 dX1_tellGuest_1 (by rw [c_5_2]; decide) (by rw [c_5_2]; decide) (by rw [c_5_2]; rfl) (by decide) ?_
        refine r_aload_n hc 0 dX1_tellGuest_46 rfl ?_
        refine r_get (v := .ref (A 5)) hc iw_X1 0 rfl rfl 7 (by decide) mw_106 rfl dX1_tellGuest_47 ?_
        refine r_iload_n hc 1 dX1_tellGuest_50 rfl ?_
        obtain ⟨i_3, hf⟩ := chk_some hf
        refine r_iald (f := (H_mate h)) hc 5 rfl i_3 dX1_tellGuest_51 ?_
        exact r_iret hK (Option.some.inj hf) rfl dX1_tellGuest_52
      · have hf := o_neg c_5_2 hf
        by_cases c_5_3 : x2 = (3 : Int32)
        · have hf := o_pos c_5_3 hf
          refine r_tabIn (off := 52) hc 53 dX1_tellGuest_1 (by rw [c_5_3]; decide) (by rw [c_5_3]; decide) (by rw [c_5_3]; rfl) (by decide) ?_
          refine r_aload_n hc 0 dX1_tellGuest_53 rfl ?_
          refine r_get (v := .ref (A 6)) hc iw_X1 0 rfl rfl 8 (by decide) mw_108 rfl dX1_tellGuest_54 ?_
          refine r_iload_n hc 1 dX1_tellGuest_57 rfl ?_
          obtain ⟨i_4, hf⟩ := chk_some hf
          refine r_iald (f := (H_left h)) hc 6 rfl i_4 dX1_tellGuest_58 ?_
          exact r_iret hK (Option.some.inj hf) rfl dX1_tellGuest_59
        · have hf := o_neg c_5_3 hf
          have ho9 : (x2).toInt < 0 ∨ 3 < (x2).toInt := by
            refine tab_out (fun cc9 h1 h2 => ?_)
            rcases (show cc9 = 0 ∨ cc9 = 1 ∨ cc9 = 2 ∨ cc9 = 3 by omega) with rfl | rfl | rfl | rfl
            · exact c_5_0
            · exact c_5_1
            · exact c_5_2
            · exact c_5_3
          refine r_tabOut hc 60 dX1_tellGuest_1 ho9 (by decide) ?_
          refine r_bipush hc (-2 : Int32) dX1_tellGuest_60 rfl ?_
          exact r_iret hK (Option.some.inj hf) rfl dX1_tellGuest_62
def X1_key_B4 (k4 : HS → Int64 → Int32 → Option (Int64)) (h : HS) (x1 : Int64) (x3 : Int32) : Option (Int64) :=
  (if (8 : Int32) ≤ x3 then (some (x1)) else (chk x3 8 (chk x3 8 (k4 h (((x1 <<< (((7 : Int32)).toInt64 &&& 63)) ||| ((((H_place h) (x3).toNatClampNeg) <<< ((4 : Int32) &&& 31))).toInt64) ||| (((H_left h) (x3).toNatClampNeg)).toInt64) (x3 + (1 : Int32))))))
def f_X1_key (h : HS) : Option (Int64) :=
  (it X1_key_B4 (fun _ _ _ => none) FU h (0 : Int64) (0 : Int32))
theorem kv_X1_key : KV RX1 yX1_key cX1_key 4 (some .long) 0 := ⟨mw_634, mw_635, mw_56, mw_636, by decide +kernel⟩
set_option maxHeartbeats 8000000 in
set_option maxRecDepth 100000 in
theorem c_X1_key {l : Launch} {E : va_G} {cy : Nat → ClassId} (A : Nat → Nat) (h : HS) (q : Int64) (hf : f_X1_key h = some q) : Cl l yX1_key cX1_key 4 (some .long) 1 60 E cy [.ref (A 0)] (wH cy A h) q (wH cy A h) := by
  refine Cl.of RX1 (by decide) rfl (Nat.le_of_ble_eq_true rfl) ?_
  intro K hK
  have hc := hK.cq
  have L4 : ∀ (n4 : Nat) (x1 : Int64) (x3 : Int32), it X1_key_B4 (fun _ _ _ => none) n4 h x1 x3 = some q → V K (wH cy A h) 4 [(0, .ref (A 0)), (1, .long x1), (3, .int x3)] [] := by
    intro n4
    induction n4 with
    | zero => intro x1 x3 hf; exact (o_none hf).elim
    | succ n4 ih4 =>
      intro x1 x3 hf
      replace hf : X1_key_B4 (it X1_key_B4 (fun _ _ _ => none) n4) h x1 x3 = some q := hf
      unfold X1_key_B4 at hf
      refine r_iload_n hc 2 dX1_key_4 rfl ?_
      refine r_bipush hc (8 : Int32) dX1_key_5 rfl ?_
      refine r_icmp_ge hc 39 dX1_key_7 (by decide) (fun c_1 => ?_) (fun c_1 => ?_)
      · have hf := o_pos c_1 hf
        refine r_lload_n hc 1 dX1_key_39 rfl ?_
        exact r_lret hK (Option.some.inj hf) rfl dX1_key_40
      · have hf := o_neg c_1 hf
        refine r_lload_n hc 1 dX1_key_10 rfl ?_
        refine r_bipush hc (7 : Int32) dX1_key_11 rfl ?_
        refine r_lshl hc dX1_key_13 ?_
        refine r_aload_n hc 0 dX1_key_14 rfl ?_
        refine r_get (v := .ref (A 3)) hc iw_X1 0 rfl rfl 5 (by decide) mw_99 rfl dX1_key_15 ?_
        refine r_iload_n hc 2 dX1_key_18 rfl ?_
        obtain ⟨i_2, hf⟩ := chk_some hf
        refine r_iald (f := (H_place h)) hc 3 rfl i_2 dX1_key_19 ?_
        refine r_iconst hc (4 : Int32) dX1_key_20 rfl ?_
        refine r_ishl hc dX1_key_21 ?_
        refine r_i2l hc dX1_key_22 ?_
        refine r_lor hc dX1_key_23 ?_
        refine r_aload_n hc 0 dX1_key_24 rfl ?_
        refine r_get (v := .ref (A 6)) hc iw_X1 0 rfl rfl 8 (by decide) mw_108 rfl dX1_key_25 ?_
        refine r_iload_n hc 2 dX1_key_28 rfl ?_
        obtain ⟨i_3, hf⟩ := chk_some hf
        refine r_iald (f := (H_left h)) hc 6 rfl i_3 dX1_key_29 ?_
        refine r_i2l hc dX1_key_30 ?_
        refine r_lor hc dX1_key_31 ?_
        refine r_lstore_n hc [(1, .long (((x1 <<< (((7 : Int32)).toInt64 &&& 63)) ||| ((((H_place h) (x3).toNatClampNeg) <<< ((4 : Int32) &&& 31))).toInt64) ||| (((H_left h) (x3).toNatClampNeg)).toInt64)), (0, .ref (A 0)), (3, .int x3)] dX1_key_32 (by decide) rfl ?_
        refine r_iinc hc 2 [(3, .int (x3 + (1 : Int32))), (1, .long (((x1 <<< (((7 : Int32)).toInt64 &&& 63)) ||| ((((H_place h) (x3).toNatClampNeg) <<< ((4 : Int32) &&& 31))).toInt64) ||| (((H_left h) (x3).toNatClampNeg)).toInt64)), (0, .ref (A 0))] (x3 + (1 : Int32)) dX1_key_33 rfl rfl (by decide) rfl ?_
        refine r_goto hc 4 dX1_key_36 (by decide) ?_
        exact V.sub [2, 1, 0] rfl (ih4 (((x1 <<< (((7 : Int32)).toInt64 &&& 63)) ||| ((((H_place h) (x3).toNatClampNeg) <<< ((4 : Int32) &&& 31))).toInt64) ||| (((H_left h) (x3).toNatClampNeg)).toInt64) (x3 + (1 : Int32)) hf)
  show V K (wH cy A h) 0 [(0, .ref (A 0))] []
  unfold f_X1_key at hf
  refine r_lconst hc (0 : Int64) dX1_key_0 rfl ?_
  refine r_lstore_n hc [(1, .long (0 : Int64)), (0, .ref (A 0))] dX1_key_1 (by decide) rfl ?_
  refine r_iconst hc (0 : Int32) dX1_key_2 rfl ?_
  refine r_istore_n hc [(3, .int (0 : Int32)), (1, .long (0 : Int64)), (0, .ref (A 0))] dX1_key_3 (by decide) rfl ?_
  exact V.sub [2, 1, 0] rfl (L4 FU (0 : Int64) (0 : Int32) hf)
