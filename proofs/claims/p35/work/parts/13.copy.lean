theorem wH_c_measure {cy : Nat → ClassId} {A : Nat → Nat} {t : HS} {X : va_W} {f : Nat → Int32} : (wH cy A t ++ X).set 1 (A 1, .inl (cy 0, 36, .inl f)) = wH cy A (H_set_measure t f) ++ X := by
  obtain ⟨t1, t2, t3, t4, t5, t6, t7, t8, t9, t10, t11, t12⟩ := t
  show ((A 0, .inr (1, [.int t1, .int t2, .int t3, .ref (A 1), .ref (A 2), .ref (A 3), .ref (A 4), .ref (A 5), .ref (A 6), .ref (A 7), .ref (A 8), .ref (A 9)])) :: (A 1, .inl (cy 0, 36, .inl f)) :: (A 2, .inl (cy 0, 36, .inl t5)) :: (A 3, .inl (cy 0, 8, .inl t6)) :: (A 4, .inl (cy 0, 8, .inl t7)) :: (A 5, .inl (cy 0, 8, .inl t8)) :: (A 6, .inl (cy 0, 8, .inl t9)) :: (A 7, .inl (cy 0, 40, .inl t10)) :: (A 8, .inl (cy 0, 6, .inl t11)) :: (A 9, .inl (cy 0, 6, .inl t12)) :: X : va_W) = (A 0, .inr (1, [.int t1, .int t2, .int t3, .ref (A 1), .ref (A 2), .ref (A 3), .ref (A 4), .ref (A 5), .ref (A 6), .ref (A 7), .ref (A 8), .ref (A 9)])) :: (A 1, .inl (cy 0, 36, .inl f)) :: (A 2, .inl (cy 0, 36, .inl t5)) :: (A 3, .inl (cy 0, 8, .inl t6)) :: (A 4, .inl (cy 0, 8, .inl t7)) :: (A 5, .inl (cy 0, 8, .inl t8)) :: (A 6, .inl (cy 0, 8, .inl t9)) :: (A 7, .inl (cy 0, 40, .inl t10)) :: (A 8, .inl (cy 0, 6, .inl t11)) :: (A 9, .inl (cy 0, 6, .inl t12)) :: X
  rfl
theorem wH_c_width {cy : Nat → ClassId} {A : Nat → Nat} {t : HS} {X : va_W} {f : Nat → Int32} : (wH cy A t ++ X).set 2 (A 2, .inl (cy 0, 36, .inl f)) = wH cy A (H_set_width t f) ++ X := by
  obtain ⟨t1, t2, t3, t4, t5, t6, t7, t8, t9, t10, t11, t12⟩ := t
  show ((A 0, .inr (1, [.int t1, .int t2, .int t3, .ref (A 1), .ref (A 2), .ref (A 3), .ref (A 4), .ref (A 5), .ref (A 6), .ref (A 7), .ref (A 8), .ref (A 9)])) :: (A 1, .inl (cy 0, 36, .inl t4)) :: (A 2, .inl (cy 0, 36, .inl f)) :: (A 3, .inl (cy 0, 8, .inl t6)) :: (A 4, .inl (cy 0, 8, .inl t7)) :: (A 5, .inl (cy 0, 8, .inl t8)) :: (A 6, .inl (cy 0, 8, .inl t9)) :: (A 7, .inl (cy 0, 40, .inl t10)) :: (A 8, .inl (cy 0, 6, .inl t11)) :: (A 9, .inl (cy 0, 6, .inl t12)) :: X : va_W) = (A 0, .inr (1, [.int t1, .int t2, .int t3, .ref (A 1), .ref (A 2), .ref (A 3), .ref (A 4), .ref (A 5), .ref (A 6), .ref (A 7), .ref (A 8), .ref (A 9)])) :: (A 1, .inl (cy 0, 36, .inl t4)) :: (A 2, .inl (cy 0, 36, .inl f)) :: (A 3, .inl (cy 0, 8, .inl t6)) :: (A 4, .inl (cy 0, 8, .inl t7)) :: (A 5, .inl (cy 0, 8, .inl t8)) :: (A 6, .inl (cy 0, 8, .inl t9)) :: (A 7, .inl (cy 0, 40, .inl t10)) :: (A 8, .inl (cy 0, 6, .inl t11)) :: (A 9, .inl (cy 0, 6, .inl t12)) :: X
  rfl
theorem wH_c_place {cy : Nat → ClassId} {A : Nat → Nat} {t : HS} {X : va_W} {f : Nat → Int32} : (wH cy A t ++ X).set 3 (A 3, .inl (cy 0, 8, .inl f)) = wH cy A (H_set_place t f) ++ X := by
  obtain ⟨t1, t2, t3, t4, t5, t6, t7, t8, t9, t10, t11, t12⟩ := t
  show ((A 0, .inr (1, [.int t1, .int t2, .int t3, .ref (A 1), .ref (A 2), .ref (A 3), .ref (A 4), .ref (A 5), .ref (A 6), .ref (A 7), .ref (A 8), .ref (A 9)])) :: (A 1, .inl (cy 0, 36, .inl t4)) :: (A 2, .inl (cy 0, 36, .inl t5)) :: (A 3, .inl (cy 0, 8, .inl f)) :: (A 4, .inl (cy 0, 8, .inl t7)) :: (A 5, .inl (cy 0, 8, .inl t8)) :: (A 6, .inl (cy 0, 8, .inl t9)) :: (A 7, .inl (cy 0, 40, .inl t10)) :: (A 8, .inl (cy 0, 6, .inl t11)) :: (A 9, .inl (cy 0, 6, .inl t12)) :: X : va_W) = (A 0, .inr (1, [.int t1, .int t2, .int t3, .ref (A 1), .ref (A 2), .ref (A 3), .ref (A 4), .ref (A 5), .ref (A 6), .ref (A 7), .ref (A 8), .ref (A 9)])) :: (A 1, .inl (cy 0, 36, .inl t4)) :: (A 2, .inl (cy 0, 36, .inl t5)) :: (A 3, .inl (cy 0, 8, .inl f)) :: (A 4, .inl (cy 0, 8, .inl t7)) :: (A 5, .inl (cy 0, 8, .inl t8)) :: (A 6, .inl (cy 0, 8, .inl t9)) :: (A 7, .inl (cy 0, 40, .inl t10)) :: (A 8, .inl (cy 0, 6, .inl t11)) :: (A 9, .inl (cy 0, 6, .inl t12)) :: X
  rfl
theorem wH_c_busy {cy : Nat → ClassId} {A : Nat → Nat} {t : HS} {X : va_W} {f : Nat → Int32} : (wH cy A t ++ X).set 4 (A 4, .inl (cy 0, 8, .inl f)) = wH cy A (H_set_busy t f) ++ X := by
  obtain ⟨t1, t2, t3, t4, t5, t6, t7, t8, t9, t10, t11, t12⟩ := t
  show ((A 0, .inr (1, [.int t1, .int t2, .int t3, .ref (A 1), .ref (A 2), .ref (A 3), .ref (A 4), .ref (A 5), .ref (A 6), .ref (A 7), .ref (A 8), .ref (A 9)])) :: (A 1, .inl (cy 0, 36, .inl t4)) :: (A 2, .inl (cy 0, 36, .inl t5)) :: (A 3, .inl (cy 0, 8, .inl t6)) :: (A 4, .inl (cy 0, 8, .inl f)) :: (A 5, .inl (cy 0, 8, .inl t8)) :: (A 6, .inl (cy 0, 8, .inl t9)) :: (A 7, .inl (cy 0, 40, .inl t10)) :: (A 8, .inl (cy 0, 6, .inl t11)) :: (A 9, .inl (cy 0, 6, .inl t12)) :: X : va_W) = (A 0, .inr (1, [.int t1, .int t2, .int t3, .ref (A 1), .ref (A 2), .ref (A 3), .ref (A 4), .ref (A 5), .ref (A 6), .ref (A 7), .ref (A 8), .ref (A 9)])) :: (A 1, .inl (cy 0, 36, .inl t4)) :: (A 2, .inl (cy 0, 36, .inl t5)) :: (A 3, .inl (cy 0, 8, .inl t6)) :: (A 4, .inl (cy 0, 8, .inl f)) :: (A 5, .inl (cy 0, 8, .inl t8)) :: (A 6, .inl (cy 0, 8, .inl t9)) :: (A 7, .inl (cy 0, 40, .inl t10)) :: (A 8, .inl (cy 0, 6, .inl t11)) :: (A 9, .inl (cy 0, 6, .inl t12)) :: X
  rfl
theorem wH_c_mate {cy : Nat → ClassId} {A : Nat → Nat} {t : HS} {X : va_W} {f : Nat → Int32} : (wH cy A t ++ X).set 5 (A 5, .inl (cy 0, 8, .inl f)) = wH cy A (H_set_mate t f) ++ X := by
  obtain ⟨t1, t2, t3, t4, t5, t6, t7, t8, t9, t10, t11, t12⟩ := t
  show ((A 0, .inr (1, [.int t1, .int t2, .int t3, .ref (A 1), .ref (A 2), .ref (A 3), .ref (A 4), .ref (A 5), .ref (A 6), .ref (A 7), .ref (A 8), .ref (A 9)])) :: (A 1, .inl (cy 0, 36, .inl t4)) :: (A 2, .inl (cy 0, 36, .inl t5)) :: (A 3, .inl (cy 0, 8, .inl t6)) :: (A 4, .inl (cy 0, 8, .inl t7)) :: (A 5, .inl (cy 0, 8, .inl f)) :: (A 6, .inl (cy 0, 8, .inl t9)) :: (A 7, .inl (cy 0, 40, .inl t10)) :: (A 8, .inl (cy 0, 6, .inl t11)) :: (A 9, .inl (cy 0, 6, .inl t12)) :: X : va_W) = (A 0, .inr (1, [.int t1, .int t2, .int t3, .ref (A 1), .ref (A 2), .ref (A 3), .ref (A 4), .ref (A 5), .ref (A 6), .ref (A 7), .ref (A 8), .ref (A 9)])) :: (A 1, .inl (cy 0, 36, .inl t4)) :: (A 2, .inl (cy 0, 36, .inl t5)) :: (A 3, .inl (cy 0, 8, .inl t6)) :: (A 4, .inl (cy 0, 8, .inl t7)) :: (A 5, .inl (cy 0, 8, .inl f)) :: (A 6, .inl (cy 0, 8, .inl t9)) :: (A 7, .inl (cy 0, 40, .inl t10)) :: (A 8, .inl (cy 0, 6, .inl t11)) :: (A 9, .inl (cy 0, 6, .inl t12)) :: X
  rfl
theorem wH_c_left {cy : Nat → ClassId} {A : Nat → Nat} {t : HS} {X : va_W} {f : Nat → Int32} : (wH cy A t ++ X).set 6 (A 6, .inl (cy 0, 8, .inl f)) = wH cy A (H_set_left t f) ++ X := by
  obtain ⟨t1, t2, t3, t4, t5, t6, t7, t8, t9, t10, t11, t12⟩ := t
  show ((A 0, .inr (1, [.int t1, .int t2, .int t3, .ref (A 1), .ref (A 2), .ref (A 3), .ref (A 4), .ref (A 5), .ref (A 6), .ref (A 7), .ref (A 8), .ref (A 9)])) :: (A 1, .inl (cy 0, 36, .inl t4)) :: (A 2, .inl (cy 0, 36, .inl t5)) :: (A 3, .inl (cy 0, 8, .inl t6)) :: (A 4, .inl (cy 0, 8, .inl t7)) :: (A 5, .inl (cy 0, 8, .inl t8)) :: (A 6, .inl (cy 0, 8, .inl f)) :: (A 7, .inl (cy 0, 40, .inl t10)) :: (A 8, .inl (cy 0, 6, .inl t11)) :: (A 9, .inl (cy 0, 6, .inl t12)) :: X : va_W) = (A 0, .inr (1, [.int t1, .int t2, .int t3, .ref (A 1), .ref (A 2), .ref (A 3), .ref (A 4), .ref (A 5), .ref (A 6), .ref (A 7), .ref (A 8), .ref (A 9)])) :: (A 1, .inl (cy 0, 36, .inl t4)) :: (A 2, .inl (cy 0, 36, .inl t5)) :: (A 3, .inl (cy 0, 8, .inl t6)) :: (A 4, .inl (cy 0, 8, .inl t7)) :: (A 5, .inl (cy 0, 8, .inl t8)) :: (A 6, .inl (cy 0, 8, .inl f)) :: (A 7, .inl (cy 0, 40, .inl t10)) :: (A 8, .inl (cy 0, 6, .inl t11)) :: (A 9, .inl (cy 0, 6, .inl t12)) :: X
  rfl
theorem wH_c_likes {cy : Nat → ClassId} {A : Nat → Nat} {t : HS} {X : va_W} {f : Nat → Int32} : (wH cy A t ++ X).set 7 (A 7, .inl (cy 0, 40, .inl f)) = wH cy A (H_set_likes t f) ++ X := by
  obtain ⟨t1, t2, t3, t4, t5, t6, t7, t8, t9, t10, t11, t12⟩ := t
  show ((A 0, .inr (1, [.int t1, .int t2, .int t3, .ref (A 1), .ref (A 2), .ref (A 3), .ref (A 4), .ref (A 5), .ref (A 6), .ref (A 7), .ref (A 8), .ref (A 9)])) :: (A 1, .inl (cy 0, 36, .inl t4)) :: (A 2, .inl (cy 0, 36, .inl t5)) :: (A 3, .inl (cy 0, 8, .inl t6)) :: (A 4, .inl (cy 0, 8, .inl t7)) :: (A 5, .inl (cy 0, 8, .inl t8)) :: (A 6, .inl (cy 0, 8, .inl t9)) :: (A 7, .inl (cy 0, 40, .inl f)) :: (A 8, .inl (cy 0, 6, .inl t11)) :: (A 9, .inl (cy 0, 6, .inl t12)) :: X : va_W) = (A 0, .inr (1, [.int t1, .int t2, .int t3, .ref (A 1), .ref (A 2), .ref (A 3), .ref (A 4), .ref (A 5), .ref (A 6), .ref (A 7), .ref (A 8), .ref (A 9)])) :: (A 1, .inl (cy 0, 36, .inl t4)) :: (A 2, .inl (cy 0, 36, .inl t5)) :: (A 3, .inl (cy 0, 8, .inl t6)) :: (A 4, .inl (cy 0, 8, .inl t7)) :: (A 5, .inl (cy 0, 8, .inl t8)) :: (A 6, .inl (cy 0, 8, .inl t9)) :: (A 7, .inl (cy 0, 40, .inl f)) :: (A 8, .inl (cy 0, 6, .inl t11)) :: (A 9, .inl (cy 0, 6, .inl t12)) :: X
  rfl
theorem wH_c_sightGuest {cy : Nat → ClassId} {A : Nat → Nat} {t : HS} {X : va_W} {f : Nat → Int32} : (wH cy A t ++ X).set 8 (A 8, .inl (cy 0, 6, .inl f)) = wH cy A (H_set_sightGuest t f) ++ X := by
  obtain ⟨t1, t2, t3, t4, t5, t6, t7, t8, t9, t10, t11, t12⟩ := t
  show ((A 0, .inr (1, [.int t1, .int t2, .int t3, .ref (A 1), .ref (A 2), .ref (A 3), .ref (A 4), .ref (A 5), .ref (A 6), .ref (A 7), .ref (A 8), .ref (A 9)])) :: (A 1, .inl (cy 0, 36, .inl t4)) :: (A 2, .inl (cy 0, 36, .inl t5)) :: (A 3, .inl (cy 0, 8, .inl t6)) :: (A 4, .inl (cy 0, 8, .inl t7)) :: (A 5, .inl (cy 0, 8, .inl t8)) :: (A 6, .inl (cy 0, 8, .inl t9)) :: (A 7, .inl (cy 0, 40, .inl t10)) :: (A 8, .inl (cy 0, 6, .inl f)) :: (A 9, .inl (cy 0, 6, .inl t12)) :: X : va_W) = (A 0, .inr (1, [.int t1, .int t2, .int t3, .ref (A 1), .ref (A 2), .ref (A 3), .ref (A 4), .ref (A 5), .ref (A 6), .ref (A 7), .ref (A 8), .ref (A 9)])) :: (A 1, .inl (cy 0, 36, .inl t4)) :: (A 2, .inl (cy 0, 36, .inl t5)) :: (A 3, .inl (cy 0, 8, .inl t6)) :: (A 4, .inl (cy 0, 8, .inl t7)) :: (A 5, .inl (cy 0, 8, .inl t8)) :: (A 6, .inl (cy 0, 8, .inl t9)) :: (A 7, .inl (cy 0, 40, .inl t10)) :: (A 8, .inl (cy 0, 6, .inl f)) :: (A 9, .inl (cy 0, 6, .inl t12)) :: X
  rfl
theorem wH_c_sightRoom {cy : Nat → ClassId} {A : Nat → Nat} {t : HS} {X : va_W} {f : Nat → Int32} : (wH cy A t ++ X).set 9 (A 9, .inl (cy 0, 6, .inl f)) = wH cy A (H_set_sightRoom t f) ++ X := by
  obtain ⟨t1, t2, t3, t4, t5, t6, t7, t8, t9, t10, t11, t12⟩ := t
  show ((A 0, .inr (1, [.int t1, .int t2, .int t3, .ref (A 1), .ref (A 2), .ref (A 3), .ref (A 4), .ref (A 5), .ref (A 6), .ref (A 7), .ref (A 8), .ref (A 9)])) :: (A 1, .inl (cy 0, 36, .inl t4)) :: (A 2, .inl (cy 0, 36, .inl t5)) :: (A 3, .inl (cy 0, 8, .inl t6)) :: (A 4, .inl (cy 0, 8, .inl t7)) :: (A 5, .inl (cy 0, 8, .inl t8)) :: (A 6, .inl (cy 0, 8, .inl t9)) :: (A 7, .inl (cy 0, 40, .inl t10)) :: (A 8, .inl (cy 0, 6, .inl t11)) :: (A 9, .inl (cy 0, 6, .inl f)) :: X : va_W) = (A 0, .inr (1, [.int t1, .int t2, .int t3, .ref (A 1), .ref (A 2), .ref (A 3), .ref (A 4), .ref (A 5), .ref (A 6), .ref (A 7), .ref (A 8), .ref (A 9)])) :: (A 1, .inl (cy 0, 36, .inl t4)) :: (A 2, .inl (cy 0, 36, .inl t5)) :: (A 3, .inl (cy 0, 8, .inl t6)) :: (A 4, .inl (cy 0, 8, .inl t7)) :: (A 5, .inl (cy 0, 8, .inl t8)) :: (A 6, .inl (cy 0, 8, .inl t9)) :: (A 7, .inl (cy 0, 40, .inl t10)) :: (A 8, .inl (cy 0, 6, .inl t11)) :: (A 9, .inl (cy 0, 6, .inl f)) :: X
  rfl
def f_X1_copy (h : HS) (h2 : HS) : Option (HS) :=
  (ltA (va_cpy (H_measure h2) (H_measure h) ((0 : Int32)).toNatClampNeg ((0 : Int32)).toNatClampNeg ((36 : Int32)).toNatClampNeg) fun f39 => (ltA (va_cpy (H_width h2) (H_width h) ((0 : Int32)).toNatClampNeg ((0 : Int32)).toNatClampNeg ((36 : Int32)).toNatClampNeg) fun f57 => (ltA (va_cpy (H_place h2) (H_place h) ((0 : Int32)).toNatClampNeg ((0 : Int32)).toNatClampNeg ((8 : Int32)).toNatClampNeg) fun f75 => (ltA (va_cpy (H_busy h2) (H_busy h) ((0 : Int32)).toNatClampNeg ((0 : Int32)).toNatClampNeg ((8 : Int32)).toNatClampNeg) fun f93 => (ltA (va_cpy (H_mate h2) (H_mate h) ((0 : Int32)).toNatClampNeg ((0 : Int32)).toNatClampNeg ((8 : Int32)).toNatClampNeg) fun f111 => (ltA (va_cpy (H_left h2) (H_left h) ((0 : Int32)).toNatClampNeg ((0 : Int32)).toNatClampNeg ((8 : Int32)).toNatClampNeg) fun f129 => (ltA (va_cpy (H_likes h2) (H_likes h) ((0 : Int32)).toNatClampNeg ((0 : Int32)).toNatClampNeg ((40 : Int32)).toNatClampNeg) fun f147 => (ltA (va_cpy (H_sightGuest h2) (H_sightGuest h) ((0 : Int32)).toNatClampNeg ((0 : Int32)).toNatClampNeg ((6 : Int32)).toNatClampNeg) fun f165 => (ltA (va_cpy (H_sightRoom h2) (H_sightRoom h) ((0 : Int32)).toNatClampNeg ((0 : Int32)).toNatClampNeg ((6 : Int32)).toNatClampNeg) fun f183 => (some (((H_rooms h2), (H_there h2), (H_sights h2), f39, f57, f75, f93, f111, f129, f147, f165, f183))))))))))))
theorem kv_X1_copy : KV RX1 yX1_copy cX1_copy 2 none 1 := ⟨mw_462, mw_463, mw_56, mw_464, by decide +kernel⟩
set_option maxHeartbeats 8000000 in
set_option maxRecDepth 100000 in
theorem c_X1_copy {l : Launch} {E : va_G} {cy : Nat → ClassId} (A : Nat → Nat) (B1 : Nat → Nat) (h : HS) (h2 : HS) (q : HS) (hf : f_X1_copy h h2 = some q) : Cv l yX1_copy cX1_copy 2 none 1 60 E cy [.ref (A 0), .ref (B1 0)] (wH cy A h ++ wH cy B1 h2) (wH cy A q ++ wH cy B1 h2) := by
  refine Cv.of RX1 (by decide) rfl (Nat.le_of_ble_eq_true rfl) ?_
  intro K hK
  have hc := hK.cq
  show V K (wH cy A h ++ wH cy B1 h2) 0 [(0, .ref (A 0)), (1, .ref (B1 0))] []
  unfold f_X1_copy at hf
  refine r_aload_n hc 0 dX1_copy_0 rfl ?_
  refine r_aload_n hc 1 dX1_copy_1 rfl ?_
  refine r_get (v := .int (H_rooms h2)) hc iw_X1 10 rfl rfl 0 (by decide) mw_83 rfl dX1_copy_2 ?_
  refine r_put hc iw_X1 tyX1 tyX1_ok nmX1 0 rfl rfl 0 (by decide) mw_83 rfl rfl rfl (Nat.le_of_ble_eq_true rfl) dX1_copy_5 (wH cy A (H_set_rooms h (H_rooms h2)) ++ wH cy B1 h2) rfl ?_
  refine r_aload_n hc 0 dX1_copy_8 rfl ?_
  refine r_aload_n hc 1 dX1_copy_9 rfl ?_
  refine r_get (v := .int (H_there h2)) hc iw_X1 10 rfl rfl 1 (by decide) mw_89 rfl dX1_copy_10 ?_
  refine r_put hc iw_X1 tyX1 tyX1_ok nmX1 0 rfl rfl 1 (by decide) mw_89 rfl rfl rfl (Nat.le_of_ble_eq_true rfl) dX1_copy_13 (wH cy A (H_set_there (H_set_rooms h (H_rooms h2)) (H_there h2)) ++ wH cy B1 h2) rfl ?_
  refine r_aload_n hc 0 dX1_copy_16 rfl ?_
  refine r_aload_n hc 1 dX1_copy_17 rfl ?_
  refine r_get (v := .int (H_sights h2)) hc iw_X1 10 rfl rfl 2 (by decide) mw_91 rfl dX1_copy_18 ?_
  refine r_put hc iw_X1 tyX1 tyX1_ok nmX1 0 rfl rfl 2 (by decide) mw_91 rfl rfl rfl (Nat.le_of_ble_eq_true rfl) dX1_copy_21 (wH cy A (H_set_sights (H_set_there (H_set_rooms h (H_rooms h2)) (H_there h2)) (H_sights h2)) ++ wH cy B1 h2) rfl ?_
  refine r_aload_n hc 1 dX1_copy_24 rfl ?_
  refine r_get (v := .ref (B1 1)) hc iw_X1 10 rfl rfl 3 (by decide) mw_93 rfl dX1_copy_25 ?_
  refine r_iconst hc (0 : Int32) dX1_copy_28 rfl ?_
  refine r_aload_n hc 0 dX1_copy_29 rfl ?_
  refine r_get (v := .ref (A 1)) hc iw_X1 0 rfl rfl 3 (by decide) mw_93 rfl dX1_copy_30 ?_
  refine r_iconst hc (0 : Int32) dX1_copy_33 rfl ?_
  refine r_aload_n hc 0 dX1_copy_34 rfl ?_
  refine r_get (v := .ref (A 1)) hc iw_X1 0 rfl rfl 3 (by decide) mw_93 rfl dX1_copy_35 ?_
  refine r_alen hc 1 0 rfl rfl (36 : Int32) rfl dX1_copy_38 ?_
  obtain ⟨f39, ef39, hf⟩ := lt_some hf
  refine r_copyi (f := (H_measure h2)) (g := (H_measure h)) hc 11 1 rfl rfl (by decide) (by decide) (by decide) (by decide) (by decide) mw_465 mw_467 mw_466 mw_67 (by decide) (Nat.le_of_ble_eq_true rfl) dX1_copy_39 f39 ef39 (wH cy A ((H_rooms h2), (H_there h2), (H_sights h2), f39, (H_width h), (H_place h), (H_busy h), (H_mate h), (H_left h), (H_likes h), (H_sightGuest h), (H_sightRoom h)) ++ wH cy B1 h2) wH_c_measure ?_
  refine r_aload_n hc 1 dX1_copy_42 rfl ?_
  refine r_get (v := .ref (B1 2)) hc iw_X1 10 rfl rfl 4 (by decide) mw_96 rfl dX1_copy_43 ?_
  refine r_iconst hc (0 : Int32) dX1_copy_46 rfl ?_
  refine r_aload_n hc 0 dX1_copy_47 rfl ?_
  refine r_get (v := .ref (A 2)) hc iw_X1 0 rfl rfl 4 (by decide) mw_96 rfl dX1_copy_48 ?_
  refine r_iconst hc (0 : Int32) dX1_copy_51 rfl ?_
  refine r_aload_n hc 0 dX1_copy_52 rfl ?_
  refine r_get (v := .ref (A 2)) hc iw_X1 0 rfl rfl 4 (by decide) mw_96 rfl dX1_copy_53 ?_
  refine r_alen hc 2 0 rfl rfl (36 : Int32) rfl dX1_copy_56 ?_
  obtain ⟨f57, ef57, hf⟩ := lt_some hf
  refine r_copyi (f := (H_width h2)) (g := (H_width h)) hc 12 2 rfl rfl (by decide) (by decide) (by decide) (by decide) (by decide) mw_465 mw_467 mw_466 mw_67 (by decide) (Nat.le_of_ble_eq_true rfl) dX1_copy_57 f57 ef57 (wH cy A ((H_rooms h2), (H_there h2), (H_sights h2), f39, f57, (H_place h), (H_busy h), (H_mate h), (H_left h), (H_likes h), (H_sightGuest h), (H_sightRoom h)) ++ wH cy B1 h2) wH_c_width ?_
  refine r_aload_n hc 1 dX1_copy_60 rfl ?_
  refine r_get (v := .ref (B1 3)) hc iw_X1 10 rfl rfl 5 (by decide) mw_99 rfl dX1_copy_61 ?_
  refine r_iconst hc (0 : Int32) dX1_copy_64 rfl ?_
  refine r_aload_n hc 0 dX1_copy_65 rfl ?_
  refine r_get (v := .ref (A 3)) hc iw_X1 0 rfl rfl 5 (by decide) mw_99 rfl dX1_copy_66 ?_
  refine r_iconst hc (0 : Int32) dX1_copy_69 rfl ?_
  refine r_aload_n hc 0 dX1_copy_70 rfl ?_
  refine r_get (v := .ref (A 3)) hc iw_X1 0 rfl rfl 5 (by decide) mw_99 rfl dX1_copy_71 ?_
  refine r_alen hc 3 0 rfl rfl (8 : Int32) rfl dX1_copy_74 ?_
  obtain ⟨f75, ef75, hf⟩ := lt_some hf
  refine r_copyi (f := (H_place h2)) (g := (H_place h)) hc 13 3 rfl rfl (by decide) (by decide) (by decide) (by decide) (by decide) mw_465 mw_467 mw_466 mw_67 (by decide) (Nat.le_of_ble_eq_true rfl) dX1_copy_75 f75 ef75 (wH cy A ((H_rooms h2), (H_there h2), (H_sights h2), f39, f57, f75, (H_busy h), (H_mate h), (H_left h), (H_likes h), (H_sightGuest h), (H_sightRoom h)) ++ wH cy B1 h2) wH_c_place ?_
  refine r_aload_n hc 1 dX1_copy_78 rfl ?_
  refine r_get (v := .ref (B1 4)) hc iw_X1 10 rfl rfl 6 (by decide) mw_103 rfl dX1_copy_79 ?_
  refine r_iconst hc (0 : Int32) dX1_copy_82 rfl ?_
  refine r_aload_n hc 0 dX1_copy_83 rfl ?_
  refine r_get (v := .ref (A 4)) hc iw_X1 0 rfl rfl 6 (by decide) mw_103 rfl dX1_copy_84 ?_
  refine r_iconst hc (0 : Int32) dX1_copy_87 rfl ?_
  refine r_aload_n hc 0 dX1_copy_88 rfl ?_
  refine r_get (v := .ref (A 4)) hc iw_X1 0 rfl rfl 6 (by decide) mw_103 rfl dX1_copy_89 ?_
  refine r_alen hc 4 0 rfl rfl (8 : Int32) rfl dX1_copy_92 ?_
  obtain ⟨f93, ef93, hf⟩ := lt_some hf
  refine r_copyi (f := (H_busy h2)) (g := (H_busy h)) hc 14 4 rfl rfl (by decide) (by decide) (by decide) (by decide) (by decide) mw_465 mw_467 mw_466 mw_67 (by decide) (Nat.le_of_ble_eq_true rfl) dX1_copy_93 f93 ef93 (wH cy A ((H_rooms h2), (H_there h2), (H_sights h2), f39, f57, f75, f93, (H_mate h), (H_left h), (H_likes h), (H_sightGuest h), (H_sightRoom h)) ++ wH cy B1 h2) wH_c_busy ?_
  refine r_aload_n hc 1 dX1_copy_96 rfl ?_
  refine r_get (v := .ref (B1 5)) hc iw_X1 10 rfl rfl 7 (by decide) mw_106 rfl dX1_copy_97 ?_
  refine r_iconst hc (0 : Int32) dX1_copy_100 rfl ?_
  refine r_aload_n hc 0 dX1_copy_101 rfl ?_
  refine r_get (v := .ref (A 5)) hc iw_X1 0 rfl rfl 7 (by decide) mw_106 rfl dX1_copy_102 ?_
  refine r_iconst hc (0 : Int32) dX1_copy_105 rfl ?_
  refine r_aload_n hc 0 dX1_copy_106 rfl ?_
  refine r_get (v := .ref (A 5)) hc iw_X1 0 rfl rfl 7 (by decide) mw_106 rfl dX1_copy_107 ?_
  refine r_alen hc 5 0 rfl rfl (8 : Int32) rfl dX1_copy_110 ?_
  obtain ⟨f111, ef111, hf⟩ := lt_some hf
  refine r_copyi (f := (H_mate h2)) (g := (H_mate h)) hc 15 5 rfl rfl (by decide) (by decide) (by decide) (by decide) (by decide) mw_465 mw_467 mw_466 mw_67 (by decide) (Nat.le_of_ble_eq_true rfl) dX1_copy_111 f111 ef111 (wH cy A ((H_rooms h2), (H_there h2), (H_sights h2), f39, f57, f75, f93, f111, (H_left h), (H_likes h), (H_sightGuest h), (H_sightRoom h)) ++ wH cy B1 h2) wH_c_mate ?_
  refine r_aload_n hc 1 dX1_copy_114 rfl ?_
  refine r_get (v := .ref (B1 6)) hc iw_X1 10 rfl rfl 8 (by decide) mw_108 rfl dX1_copy_115 ?_
  refine r_iconst hc (0 : Int32) dX1_copy_118 rfl ?_
  refine r_aload_n hc 0 dX1_copy_119 rfl ?_
  refine r_get (v := .ref (A 6)) hc iw_X1 0 rfl rfl 8 (by decide) mw_108 rfl dX1_copy_120 ?_
  refine r_iconst hc (0 : Int32) dX1_copy_123 rfl ?_
  refine r_aload_n hc 0 dX1_copy_124 rfl ?_
  refine r_get (v := .ref (A 6)) hc iw_X1 0 rfl rfl 8 (by decide) mw_108 rfl dX1_copy_125 ?_
  refine r_alen hc 6 0 rfl rfl (8 : Int32) rfl dX1_copy_128 ?_
  obtain ⟨f129, ef129, hf⟩ := lt_some hf
  refine r_copyi (f := (H_left h2)) (g := (H_left h)) hc 16 6 rfl rfl (by decide) (by decide) (by decide) (by decide) (by decide) mw_465 mw_467 mw_466 mw_67 (by decide) (Nat.le_of_ble_eq_true rfl) dX1_copy_129 f129 ef129 (wH cy A ((H_rooms h2), (H_there h2), (H_sights h2), f39, f57, f75, f93, f111, f129, (H_likes h), (H_sightGuest h), (H_sightRoom h)) ++ wH cy B1 h2) wH_c_left ?_
  refine r_aload_n hc 1 dX1_copy_132 rfl ?_
  refine r_get (v := .ref (B1 7)) hc iw_X1 10 rfl rfl 9 (by decide) mw_109 rfl dX1_copy_133 ?_
  refine r_iconst hc (0 : Int32) dX1_copy_136 rfl ?_
  refine r_aload_n hc 0 dX1_copy_137 rfl ?_
  refine r_get (v := .ref (A 7)) hc iw_X1 0 rfl rfl 9 (by decide) mw_109 rfl dX1_copy_138 ?_
  refine r_iconst hc (0 : Int32) dX1_copy_141 rfl ?_
  refine r_aload_n hc 0 dX1_copy_142 rfl ?_
  refine r_get (v := .ref (A 7)) hc iw_X1 0 rfl rfl 9 (by decide) mw_109 rfl dX1_copy_143 ?_
  refine r_alen hc 7 0 rfl rfl (40 : Int32) rfl dX1_copy_146 ?_
  obtain ⟨f147, ef147, hf⟩ := lt_some hf
  refine r_copyi (f := (H_likes h2)) (g := (H_likes h)) hc 17 7 rfl rfl (by decide) (by decide) (by decide) (by decide) (by decide) mw_465 mw_467 mw_466 mw_67 (by decide) (Nat.le_of_ble_eq_true rfl) dX1_copy_147 f147 ef147 (wH cy A ((H_rooms h2), (H_there h2), (H_sights h2), f39, f57, f75, f93, f111, f129, f147, (H_sightGuest h), (H_sightRoom h)) ++ wH cy B1 h2) wH_c_likes ?_
  refine r_aload_n hc 1 dX1_copy_150 rfl ?_
  refine r_get (v := .ref (B1 8)) hc iw_X1 10 rfl rfl 10 (by decide) mw_113 rfl dX1_copy_151 ?_
  refine r_iconst hc (0 : Int32) dX1_copy_154 rfl ?_
  refine r_aload_n hc 0 dX1_copy_155 rfl ?_
  refine r_get (v := .ref (A 8)) hc iw_X1 0 rfl rfl 10 (by decide) mw_113 rfl dX1_copy_156 ?_
  refine r_iconst hc (0 : Int32) dX1_copy_159 rfl ?_
  refine r_aload_n hc 0 dX1_copy_160 rfl ?_
  refine r_get (v := .ref (A 8)) hc iw_X1 0 rfl rfl 10 (by decide) mw_113 rfl dX1_copy_161 ?_
  refine r_alen hc 8 0 rfl rfl (6 : Int32) rfl dX1_copy_164 ?_
  obtain ⟨f165, ef165, hf⟩ := lt_some hf
  refine r_copyi (f := (H_sightGuest h2)) (g := (H_sightGuest h)) hc 18 8 rfl rfl (by decide) (by decide) (by decide) (by decide) (by decide) mw_465 mw_467 mw_466 mw_67 (by decide) (Nat.le_of_ble_eq_true rfl) dX1_copy_165 f165 ef165 (wH cy A ((H_rooms h2), (H_there h2), (H_sights h2), f39, f57, f75, f93, f111, f129, f147, f165, (H_sightRoom h)) ++ wH cy B1 h2) wH_c_sightGuest ?_
  refine r_aload_n hc 1 dX1_copy_168 rfl ?_
  refine r_get (v := .ref (B1 9)) hc iw_X1 10 rfl rfl 11 (by decide) mw_115 rfl dX1_copy_169 ?_
  refine r_iconst hc (0 : Int32) dX1_copy_172 rfl ?_
  refine r_aload_n hc 0 dX1_copy_173 rfl ?_
  refine r_get (v := .ref (A 9)) hc iw_X1 0 rfl rfl 11 (by decide) mw_115 rfl dX1_copy_174 ?_
  refine r_iconst hc (0 : Int32) dX1_copy_177 rfl ?_
  refine r_aload_n hc 0 dX1_copy_178 rfl ?_
  refine r_get (v := .ref (A 9)) hc iw_X1 0 rfl rfl 11 (by decide) mw_115 rfl dX1_copy_179 ?_
  refine r_alen hc 9 0 rfl rfl (6 : Int32) rfl dX1_copy_182 ?_
  obtain ⟨f183, ef183, hf⟩ := lt_some hf
  refine r_copyi (f := (H_sightRoom h2)) (g := (H_sightRoom h)) hc 19 9 rfl rfl (by decide) (by decide) (by decide) (by decide) (by decide) mw_465 mw_467 mw_466 mw_67 (by decide) (Nat.le_of_ble_eq_true rfl) dX1_copy_183 f183 ef183 (wH cy A ((H_rooms h2), (H_there h2), (H_sights h2), f39, f57, f75, f93, f111, f129, f147, f165, f183) ++ wH cy B1 h2) wH_c_sightRoom ?_
  exact r_vret hK (congrArg (fun z9 => (wH cy A z9 ++ wH cy B1 h2)) (Option.some.inj hf)) dX1_copy_186
