theorem aw_int : Cond.arrayClass .int ∈ tb := tb_m1 88 rfl rfl
theorem aw_long : Cond.arrayClass .long ∈ tb := tb_m1 218 rfl rfl
theorem aw_boolean : Cond.arrayClass .boolean ∈ tb := tb_m1 105 rfl rfl
theorem ow_init : Cond.code objectInit ⟨#[0xb1]⟩ 1 none ∈ tb := tb_m1 22 rfl rfl
theorem nf_X0 : ∀ j, j < 5 → defaultValue (tyX0 j) = vp_V [.null, .null, .null, .null, .null] j := by decide +kernel
theorem nf_X1 : ∀ j, j < 12 → defaultValue (tyX1 j) = vp_V [.int 0, .int 0, .int 0, .null, .null, .null, .null, .null, .null, .null, .null, .null] j := by decide +kernel
theorem nf_X2 : ∀ j, j < 2 → defaultValue (tyX2 j) = vp_V [.int 0, .null] j := by decide +kernel
theorem nf_X3 : ∀ j, j < 2 → defaultValue (tyX3 j) = vp_V [.int 0, .int 0] j := by decide +kernel
theorem nf_X4 : ∀ j, j < 11 → defaultValue (tyX4 j) = vp_V [.int 0, .int 0, .int 0, .int 0, .null, .null, .null, .null, .null, .null, .null] j := by decide +kernel
theorem nf_X5 : ∀ j, j < 2 → defaultValue (tyX5 j) = vp_V [.null, .null] j := by decide +kernel
theorem nf_X6 : ∀ j, j < 3 → defaultValue (tyX6 j) = vp_V [.long 0, .null, .null] j := by decide +kernel
theorem nf_X7 : ∀ j, j < 2 → defaultValue (tyX7 j) = vp_V [.int 0, .int 0] j := by decide +kernel
theorem nf_X8 : ∀ j, j < 11 → defaultValue (tyX8 j) = vp_V [.null, .null, .null, .null, .null, .null, .null, .null, .null, .null, .null] j := by decide +kernel
theorem nf_X9 : ∀ j, j < 30 → defaultValue (tyX9 j) = vp_V [.int 0, .null, .null, .null, .null, .int 0, .null, .null, .null, .null, .null, .int 0, .null, .int 0, .null, .null, .null, .null, .null, .null, .int 0, .null, .int 0, .int 0, .null, .null, .null, .null, .null, .null] j := by decide +kernel
def zH0 : HS := (0, 0, 0, (fun _ => 0), (fun _ => 0), (fun _ => 0), (fun _ => 0), (fun _ => 0), (fun _ => 0), (fun _ => 0), (fun _ => 0), (fun _ => 0))
theorem ki_X1_init : KI yX1_init cX1_init 1 := ⟨mw_80, mw_56, mw_81, rfl, by decide +kernel⟩
set_option maxHeartbeats 8000000 in
set_option maxRecDepth 100000 in
theorem n_X1_init {l : Launch} {E : va_G} {cy : Nat → ClassId} (a0 : Nat) : Cn l yX1_init cX1_init 1 1 60 9 156 E cy [.ref a0] [(a0, .inr (1, [.int 0, .int 0, .int 0, .null, .null, .null, .null, .null, .null, .null, .null, .null]))] (fun u : Nat → Nat => u 0 = a0) (fun u => wH cy u zH0) := by
  refine Cn.of RX1 (by decide) rfl rfl (Nat.le_of_ble_eq_true rfl) ?_
  intro K hK
  have hc := hK.cq
  show V (Kcs K (0, 0)) [(a0, .inr (1, [.int 0, .int 0, .int 0, .null, .null, .null, .null, .null, .null, .null, .null, .null]))] 0 [(0, .ref a0)] []
  refine r_aload_n (hc.cs (0, 0) (by decide) (by decide)) 0 dX1_init_0 rfl ?_
  refine r_objInit (hc.cs (0, 0) (by decide) (by decide)) mw_82 mw_75 ow_init (by decide) (Nat.le_of_ble_eq_true rfl) dX1_init_1 ?_
  refine r_aload_n (hc.cs (0, 0) (by decide) (by decide)) 0 dX1_init_4 rfl ?_
  refine r_bipush (hc.cs (0, 0) (by decide) (by decide)) (36 : Int32) dX1_init_5 rfl ?_
  refine r_newI hc 0 0 36 (by decide) (by decide) (by decide) (by decide) (by decide) aw_int dX1_init_7 (fun q1 => ?_)
  refine V.eqw (ws' := ([(a0, .inr (1, [.int 0, .int 0, .int 0, .null, .null, .null, .null, .null, .null, .null, .null, .null])), (q1, .inl (cy 0, 36, .inl (fun _ => 0)))])) rfl ?_
  refine r_putF (hc.cs (1, 36) (by decide) (by decide)) (hK.name _) iw_X1 tyX1 tyX1_ok nmX1 0 rfl rfl 3 (by decide) mw_93 rfl rfl rfl rfl (Nat.le_of_ble_eq_true rfl) dX1_init_9 ([(a0, .inr (1, [.int 0, .int 0, .int 0, .ref q1, .null, .null, .null, .null, .null, .null, .null, .null])), (q1, .inl (cy 0, 36, .inl (fun _ => 0)))]) rfl ?_
  refine r_aload_n (hc.cs (1, 36) (by decide) (by decide)) 0 dX1_init_12 rfl ?_
  refine r_bipush (hc.cs (1, 36) (by decide) (by decide)) (36 : Int32) dX1_init_13 rfl ?_
  refine r_newI hc 1 36 36 (by decide) (by decide) (by decide) (by decide) (by decide) aw_int dX1_init_15 (fun q2 => ?_)
  refine V.eqw (ws' := ([(a0, .inr (1, [.int 0, .int 0, .int 0, .ref q1, .null, .null, .null, .null, .null, .null, .null, .null])), (q1, .inl (cy 0, 36, .inl (fun _ => 0))), (q2, .inl (cy 0, 36, .inl (fun _ => 0)))])) rfl ?_
  refine r_putF (hc.cs (2, 72) (by decide) (by decide)) (hK.name _) iw_X1 tyX1 tyX1_ok nmX1 0 rfl rfl 4 (by decide) mw_96 rfl rfl rfl rfl (Nat.le_of_ble_eq_true rfl) dX1_init_17 ([(a0, .inr (1, [.int 0, .int 0, .int 0, .ref q1, .ref q2, .null, .null, .null, .null, .null, .null, .null])), (q1, .inl (cy 0, 36, .inl (fun _ => 0))), (q2, .inl (cy 0, 36, .inl (fun _ => 0)))]) rfl ?_
  refine r_aload_n (hc.cs (2, 72) (by decide) (by decide)) 0 dX1_init_20 rfl ?_
  refine r_bipush (hc.cs (2, 72) (by decide) (by decide)) (8 : Int32) dX1_init_21 rfl ?_
  refine r_newI hc 2 72 8 (by decide) (by decide) (by decide) (by decide) (by decide) aw_int dX1_init_23 (fun q3 => ?_)
  refine V.eqw (ws' := ([(a0, .inr (1, [.int 0, .int 0, .int 0, .ref q1, .ref q2, .null, .null, .null, .null, .null, .null, .null])), (q1, .inl (cy 0, 36, .inl (fun _ => 0))), (q2, .inl (cy 0, 36, .inl (fun _ => 0))), (q3, .inl (cy 0, 8, .inl (fun _ => 0)))])) rfl ?_
  refine r_putF (hc.cs (3, 80) (by decide) (by decide)) (hK.name _) iw_X1 tyX1 tyX1_ok nmX1 0 rfl rfl 5 (by decide) mw_99 rfl rfl rfl rfl (Nat.le_of_ble_eq_true rfl) dX1_init_25 ([(a0, .inr (1, [.int 0, .int 0, .int 0, .ref q1, .ref q2, .ref q3, .null, .null, .null, .null, .null, .null])), (q1, .inl (cy 0, 36, .inl (fun _ => 0))), (q2, .inl (cy 0, 36, .inl (fun _ => 0))), (q3, .inl (cy 0, 8, .inl (fun _ => 0)))]) rfl ?_
  refine r_aload_n (hc.cs (3, 80) (by decide) (by decide)) 0 dX1_init_28 rfl ?_
  refine r_bipush (hc.cs (3, 80) (by decide) (by decide)) (8 : Int32) dX1_init_29 rfl ?_
  refine r_newI hc 3 80 8 (by decide) (by decide) (by decide) (by decide) (by decide) aw_int dX1_init_31 (fun q4 => ?_)
  refine V.eqw (ws' := ([(a0, .inr (1, [.int 0, .int 0, .int 0, .ref q1, .ref q2, .ref q3, .null, .null, .null, .null, .null, .null])), (q1, .inl (cy 0, 36, .inl (fun _ => 0))), (q2, .inl (cy 0, 36, .inl (fun _ => 0))), (q3, .inl (cy 0, 8, .inl (fun _ => 0))), (q4, .inl (cy 0, 8, .inl (fun _ => 0)))])) rfl ?_
  refine r_putF (hc.cs (4, 88) (by decide) (by decide)) (hK.name _) iw_X1 tyX1 tyX1_ok nmX1 0 rfl rfl 6 (by decide) mw_103 rfl rfl rfl rfl (Nat.le_of_ble_eq_true rfl) dX1_init_33 ([(a0, .inr (1, [.int 0, .int 0, .int 0, .ref q1, .ref q2, .ref q3, .ref q4, .null, .null, .null, .null, .null])), (q1, .inl (cy 0, 36, .inl (fun _ => 0))), (q2, .inl (cy 0, 36, .inl (fun _ => 0))), (q3, .inl (cy 0, 8, .inl (fun _ => 0))), (q4, .inl (cy 0, 8, .inl (fun _ => 0)))]) rfl ?_
  refine r_aload_n (hc.cs (4, 88) (by decide) (by decide)) 0 dX1_init_36 rfl ?_
  refine r_bipush (hc.cs (4, 88) (by decide) (by decide)) (8 : Int32) dX1_init_37 rfl ?_
  refine r_newI hc 4 88 8 (by decide) (by decide) (by decide) (by decide) (by decide) aw_int dX1_init_39 (fun q5 => ?_)
  refine V.eqw (ws' := ([(a0, .inr (1, [.int 0, .int 0, .int 0, .ref q1, .ref q2, .ref q3, .ref q4, .null, .null, .null, .null, .null])), (q1, .inl (cy 0, 36, .inl (fun _ => 0))), (q2, .inl (cy 0, 36, .inl (fun _ => 0))), (q3, .inl (cy 0, 8, .inl (fun _ => 0))), (q4, .inl (cy 0, 8, .inl (fun _ => 0))), (q5, .inl (cy 0, 8, .inl (fun _ => 0)))])) rfl ?_
  refine r_putF (hc.cs (5, 96) (by decide) (by decide)) (hK.name _) iw_X1 tyX1 tyX1_ok nmX1 0 rfl rfl 7 (by decide) mw_106 rfl rfl rfl rfl (Nat.le_of_ble_eq_true rfl) dX1_init_41 ([(a0, .inr (1, [.int 0, .int 0, .int 0, .ref q1, .ref q2, .ref q3, .ref q4, .ref q5, .null, .null, .null, .null])), (q1, .inl (cy 0, 36, .inl (fun _ => 0))), (q2, .inl (cy 0, 36, .inl (fun _ => 0))), (q3, .inl (cy 0, 8, .inl (fun _ => 0))), (q4, .inl (cy 0, 8, .inl (fun _ => 0))), (q5, .inl (cy 0, 8, .inl (fun _ => 0)))]) rfl ?_
  refine r_aload_n (hc.cs (5, 96) (by decide) (by decide)) 0 dX1_init_44 rfl ?_
  refine r_bipush (hc.cs (5, 96) (by decide) (by decide)) (8 : Int32) dX1_init_45 rfl ?_
  refine r_newI hc 5 96 8 (by decide) (by decide) (by decide) (by decide) (by decide) aw_int dX1_init_47 (fun q6 => ?_)
  refine V.eqw (ws' := ([(a0, .inr (1, [.int 0, .int 0, .int 0, .ref q1, .ref q2, .ref q3, .ref q4, .ref q5, .null, .null, .null, .null])), (q1, .inl (cy 0, 36, .inl (fun _ => 0))), (q2, .inl (cy 0, 36, .inl (fun _ => 0))), (q3, .inl (cy 0, 8, .inl (fun _ => 0))), (q4, .inl (cy 0, 8, .inl (fun _ => 0))), (q5, .inl (cy 0, 8, .inl (fun _ => 0))), (q6, .inl (cy 0, 8, .inl (fun _ => 0)))])) rfl ?_
  refine r_putF (hc.cs (6, 104) (by decide) (by decide)) (hK.name _) iw_X1 tyX1 tyX1_ok nmX1 0 rfl rfl 8 (by decide) mw_108 rfl rfl rfl rfl (Nat.le_of_ble_eq_true rfl) dX1_init_49 ([(a0, .inr (1, [.int 0, .int 0, .int 0, .ref q1, .ref q2, .ref q3, .ref q4, .ref q5, .ref q6, .null, .null, .null])), (q1, .inl (cy 0, 36, .inl (fun _ => 0))), (q2, .inl (cy 0, 36, .inl (fun _ => 0))), (q3, .inl (cy 0, 8, .inl (fun _ => 0))), (q4, .inl (cy 0, 8, .inl (fun _ => 0))), (q5, .inl (cy 0, 8, .inl (fun _ => 0))), (q6, .inl (cy 0, 8, .inl (fun _ => 0)))]) rfl ?_
  refine r_aload_n (hc.cs (6, 104) (by decide) (by decide)) 0 dX1_init_52 rfl ?_
  refine r_bipush (hc.cs (6, 104) (by decide) (by decide)) (40 : Int32) dX1_init_53 rfl ?_
  refine r_newI hc 6 104 40 (by decide) (by decide) (by decide) (by decide) (by decide) aw_int dX1_init_55 (fun q7 => ?_)
  refine V.eqw (ws' := ([(a0, .inr (1, [.int 0, .int 0, .int 0, .ref q1, .ref q2, .ref q3, .ref q4, .ref q5, .ref q6, .null, .null, .null])), (q1, .inl (cy 0, 36, .inl (fun _ => 0))), (q2, .inl (cy 0, 36, .inl (fun _ => 0))), (q3, .inl (cy 0, 8, .inl (fun _ => 0))), (q4, .inl (cy 0, 8, .inl (fun _ => 0))), (q5, .inl (cy 0, 8, .inl (fun _ => 0))), (q6, .inl (cy 0, 8, .inl (fun _ => 0))), (q7, .inl (cy 0, 40, .inl (fun _ => 0)))])) rfl ?_
  refine r_putF (hc.cs (7, 144) (by decide) (by decide)) (hK.name _) iw_X1 tyX1 tyX1_ok nmX1 0 rfl rfl 9 (by decide) mw_109 rfl rfl rfl rfl (Nat.le_of_ble_eq_true rfl) dX1_init_57 ([(a0, .inr (1, [.int 0, .int 0, .int 0, .ref q1, .ref q2, .ref q3, .ref q4, .ref q5, .ref q6, .ref q7, .null, .null])), (q1, .inl (cy 0, 36, .inl (fun _ => 0))), (q2, .inl (cy 0, 36, .inl (fun _ => 0))), (q3, .inl (cy 0, 8, .inl (fun _ => 0))), (q4, .inl (cy 0, 8, .inl (fun _ => 0))), (q5, .inl (cy 0, 8, .inl (fun _ => 0))), (q6, .inl (cy 0, 8, .inl (fun _ => 0))), (q7, .inl (cy 0, 40, .inl (fun _ => 0)))]) rfl ?_
  refine r_aload_n (hc.cs (7, 144) (by decide) (by decide)) 0 dX1_init_60 rfl ?_
  refine r_bipush (hc.cs (7, 144) (by decide) (by decide)) (6 : Int32) dX1_init_61 rfl ?_
  refine r_newI hc 7 144 6 (by decide) (by decide) (by decide) (by decide) (by decide) aw_int dX1_init_63 (fun q8 => ?_)
  refine V.eqw (ws' := ([(a0, .inr (1, [.int 0, .int 0, .int 0, .ref q1, .ref q2, .ref q3, .ref q4, .ref q5, .ref q6, .ref q7, .null, .null])), (q1, .inl (cy 0, 36, .inl (fun _ => 0))), (q2, .inl (cy 0, 36, .inl (fun _ => 0))), (q3, .inl (cy 0, 8, .inl (fun _ => 0))), (q4, .inl (cy 0, 8, .inl (fun _ => 0))), (q5, .inl (cy 0, 8, .inl (fun _ => 0))), (q6, .inl (cy 0, 8, .inl (fun _ => 0))), (q7, .inl (cy 0, 40, .inl (fun _ => 0))), (q8, .inl (cy 0, 6, .inl (fun _ => 0)))])) rfl ?_
  refine r_putF (hc.cs (8, 150) (by decide) (by decide)) (hK.name _) iw_X1 tyX1 tyX1_ok nmX1 0 rfl rfl 10 (by decide) mw_113 rfl rfl rfl rfl (Nat.le_of_ble_eq_true rfl) dX1_init_65 ([(a0, .inr (1, [.int 0, .int 0, .int 0, .ref q1, .ref q2, .ref q3, .ref q4, .ref q5, .ref q6, .ref q7, .ref q8, .null])), (q1, .inl (cy 0, 36, .inl (fun _ => 0))), (q2, .inl (cy 0, 36, .inl (fun _ => 0))), (q3, .inl (cy 0, 8, .inl (fun _ => 0))), (q4, .inl (cy 0, 8, .inl (fun _ => 0))), (q5, .inl (cy 0, 8, .inl (fun _ => 0))), (q6, .inl (cy 0, 8, .inl (fun _ => 0))), (q7, .inl (cy 0, 40, .inl (fun _ => 0))), (q8, .inl (cy 0, 6, .inl (fun _ => 0)))]) rfl ?_
  refine r_aload_n (hc.cs (8, 150) (by decide) (by decide)) 0 dX1_init_68 rfl ?_
  refine r_bipush (hc.cs (8, 150) (by decide) (by decide)) (6 : Int32) dX1_init_69 rfl ?_
  refine r_newI hc 8 150 6 (by decide) (by decide) (by decide) (by decide) (by decide) aw_int dX1_init_71 (fun q9 => ?_)
  refine V.eqw (ws' := ([(a0, .inr (1, [.int 0, .int 0, .int 0, .ref q1, .ref q2, .ref q3, .ref q4, .ref q5, .ref q6, .ref q7, .ref q8, .null])), (q1, .inl (cy 0, 36, .inl (fun _ => 0))), (q2, .inl (cy 0, 36, .inl (fun _ => 0))), (q3, .inl (cy 0, 8, .inl (fun _ => 0))), (q4, .inl (cy 0, 8, .inl (fun _ => 0))), (q5, .inl (cy 0, 8, .inl (fun _ => 0))), (q6, .inl (cy 0, 8, .inl (fun _ => 0))), (q7, .inl (cy 0, 40, .inl (fun _ => 0))), (q8, .inl (cy 0, 6, .inl (fun _ => 0))), (q9, .inl (cy 0, 6, .inl (fun _ => 0)))])) rfl ?_
  refine r_putF (hc.cs (9, 156) (by decide) (by decide)) (hK.name _) iw_X1 tyX1 tyX1_ok nmX1 0 rfl rfl 11 (by decide) mw_115 rfl rfl rfl rfl (Nat.le_of_ble_eq_true rfl) dX1_init_73 ([(a0, .inr (1, [.int 0, .int 0, .int 0, .ref q1, .ref q2, .ref q3, .ref q4, .ref q5, .ref q6, .ref q7, .ref q8, .ref q9])), (q1, .inl (cy 0, 36, .inl (fun _ => 0))), (q2, .inl (cy 0, 36, .inl (fun _ => 0))), (q3, .inl (cy 0, 8, .inl (fun _ => 0))), (q4, .inl (cy 0, 8, .inl (fun _ => 0))), (q5, .inl (cy 0, 8, .inl (fun _ => 0))), (q6, .inl (cy 0, 8, .inl (fun _ => 0))), (q7, .inl (cy 0, 40, .inl (fun _ => 0))), (q8, .inl (cy 0, 6, .inl (fun _ => 0))), (q9, .inl (cy 0, 6, .inl (fun _ => 0)))]) rfl ?_
  exact r_nret hK (adr [a0, q1, q2, q3, q4, q5, q6, q7, q8, q9]) rfl rfl dX1_init_76
def zP0 : PS := (0, (fun _ => 0))
theorem ki_X2_init : KI yX2_init cX2_init 1 := ⟨mw_147, mw_57, mw_148, rfl, by decide +kernel⟩
set_option maxHeartbeats 8000000 in
set_option maxRecDepth 100000 in
theorem n_X2_init {l : Launch} {E : va_G} {cy : Nat → ClassId} (a0 : Nat) : Cn l yX2_init cX2_init 1 1 60 1 60 E cy [.ref a0] [(a0, .inr (2, [.int 0, .null]))] (fun u : Nat → Nat => u 0 = a0) (fun u => wP cy u zP0) := by
  refine Cn.of RX2 (by decide) rfl rfl (Nat.le_of_ble_eq_true rfl) ?_
  intro K hK
  have hc := hK.cq
  show V (Kcs K (0, 0)) [(a0, .inr (2, [.int 0, .null]))] 0 [(0, .ref a0)] []
  refine r_aload_n (hc.cs (0, 0) (by decide) (by decide)) 0 dX2_init_0 rfl ?_
  refine r_objInit (hc.cs (0, 0) (by decide) (by decide)) mw_149 mw_75 ow_init (by decide) (Nat.le_of_ble_eq_true rfl) dX2_init_1 ?_
  refine r_aload_n (hc.cs (0, 0) (by decide) (by decide)) 0 dX2_init_4 rfl ?_
  refine r_bipush (hc.cs (0, 0) (by decide) (by decide)) (60 : Int32) dX2_init_5 rfl ?_
  refine r_newI hc 0 0 60 (by decide) (by decide) (by decide) (by decide) (by decide) aw_int dX2_init_7 (fun q1 => ?_)
  refine V.eqw (ws' := ([(a0, .inr (2, [.int 0, .null])), (q1, .inl (cy 0, 60, .inl (fun _ => 0)))])) rfl ?_
  refine r_putF (hc.cs (1, 60) (by decide) (by decide)) (hK.name _) iw_X2 tyX2 tyX2_ok nmX2 0 rfl rfl 1 (by decide) mw_153 rfl rfl rfl rfl (Nat.le_of_ble_eq_true rfl) dX2_init_9 ([(a0, .inr (2, [.int 0, .ref q1])), (q1, .inl (cy 0, 60, .inl (fun _ => 0)))]) rfl ?_
  exact r_nret hK (adr [a0, q1]) rfl rfl dX2_init_12
def zY0 : YS := (0, 0)
theorem ki_X3_init : KI yX3_init cX3_init 1 := ⟨mw_190, mw_59, mw_191, rfl, by decide +kernel⟩
set_option maxHeartbeats 8000000 in
set_option maxRecDepth 100000 in
theorem n_X3_init {l : Launch} {E : va_G} {cy : Nat → ClassId} (a0 : Nat) : Cn l yX3_init cX3_init 1 1 60 0 0 E cy [.ref a0] [(a0, .inr (3, [.int 0, .int 0]))] (fun u : Nat → Nat => u 0 = a0) (fun u => wY cy u zY0) := by
  refine Cn.of RX3 (by decide) rfl rfl (Nat.le_of_ble_eq_true rfl) ?_
  intro K hK
  have hc := hK.cq
  show V (Kcs K (0, 0)) [(a0, .inr (3, [.int 0, .int 0]))] 0 [(0, .ref a0)] []
  refine r_aload_n (hc.cs (0, 0) (by decide) (by decide)) 0 dX3_init_0 rfl ?_
  refine r_objInit (hc.cs (0, 0) (by decide) (by decide)) mw_192 mw_75 ow_init (by decide) (Nat.le_of_ble_eq_true rfl) dX3_init_1 ?_
  exact r_nret hK (adr [a0]) rfl rfl dX3_init_4
def zT0 : TS := (0, 0, 0, 0, (fun _ => 0), (fun _ => 0), (fun _ => 0), (fun _ => 0), (fun _ => 0), (fun _ => 0), (fun _ => 0))
theorem ki_X4_init : KI yX4_init cX4_init 1 := ⟨mw_205, mw_60, mw_206, rfl, by decide +kernel⟩
set_option maxHeartbeats 8000000 in
set_option maxRecDepth 100000 in
theorem n_X4_init {l : Launch} {E : va_G} {cy : Nat → ClassId} (a0 : Nat) : Cn l yX4_init cX4_init 1 1 60 7 72 E cy [.ref a0] [(a0, .inr (4, [.int 0, .int 0, .int 0, .int 0, .null, .null, .null, .null, .null, .null, .null]))] (fun u : Nat → Nat => u 0 = a0) (fun u => wT cy u zT0) := by
  refine Cn.of RX4 (by decide) rfl rfl (Nat.le_of_ble_eq_true rfl) ?_
  intro K hK
  have hc := hK.cq
  show V (Kcs K (0, 0)) [(a0, .inr (4, [.int 0, .int 0, .int 0, .int 0, .null, .null, .null, .null, .null, .null, .null]))] 0 [(0, .ref a0)] []
  refine r_aload_n (hc.cs (0, 0) (by decide) (by decide)) 0 dX4_init_0 rfl ?_
  refine r_objInit (hc.cs (0, 0) (by decide) (by decide)) mw_207 mw_75 ow_init (by decide) (Nat.le_of_ble_eq_true rfl) dX4_init_1 ?_
  refine r_aload_n (hc.cs (0, 0) (by decide) (by decide)) 0 dX4_init_4 rfl ?_
  refine r_bipush (hc.cs (0, 0) (by decide) (by decide)) (6 : Int32) dX4_init_5 rfl ?_
  refine r_newI hc 0 0 6 (by decide) (by decide) (by decide) (by decide) (by decide) aw_int dX4_init_7 (fun q1 => ?_)
  refine V.eqw (ws' := ([(a0, .inr (4, [.int 0, .int 0, .int 0, .int 0, .null, .null, .null, .null, .null, .null, .null])), (q1, .inl (cy 0, 6, .inl (fun _ => 0)))])) rfl ?_
  refine r_putF (hc.cs (1, 6) (by decide) (by decide)) (hK.name _) iw_X4 tyX4 tyX4_ok nmX4 0 rfl rfl 4 (by decide) mw_213 rfl rfl rfl rfl (Nat.le_of_ble_eq_true rfl) dX4_init_9 ([(a0, .inr (4, [.int 0, .int 0, .int 0, .int 0, .ref q1, .null, .null, .null, .null, .null, .null])), (q1, .inl (cy 0, 6, .inl (fun _ => 0)))]) rfl ?_
  refine r_aload_n (hc.cs (1, 6) (by decide) (by decide)) 0 dX4_init_12 rfl ?_
  refine r_bipush (hc.cs (1, 6) (by decide) (by decide)) (6 : Int32) dX4_init_13 rfl ?_
  refine r_newI hc 1 6 6 (by decide) (by decide) (by decide) (by decide) (by decide) aw_int dX4_init_15 (fun q2 => ?_)
  refine V.eqw (ws' := ([(a0, .inr (4, [.int 0, .int 0, .int 0, .int 0, .ref q1, .null, .null, .null, .null, .null, .null])), (q1, .inl (cy 0, 6, .inl (fun _ => 0))), (q2, .inl (cy 0, 6, .inl (fun _ => 0)))])) rfl ?_
  refine r_putF (hc.cs (2, 12) (by decide) (by decide)) (hK.name _) iw_X4 tyX4 tyX4_ok nmX4 0 rfl rfl 5 (by decide) mw_214 rfl rfl rfl rfl (Nat.le_of_ble_eq_true rfl) dX4_init_17 ([(a0, .inr (4, [.int 0, .int 0, .int 0, .int 0, .ref q1, .ref q2, .null, .null, .null, .null, .null])), (q1, .inl (cy 0, 6, .inl (fun _ => 0))), (q2, .inl (cy 0, 6, .inl (fun _ => 0)))]) rfl ?_
  refine r_aload_n (hc.cs (2, 12) (by decide) (by decide)) 0 dX4_init_20 rfl ?_
  refine r_bipush (hc.cs (2, 12) (by decide) (by decide)) (36 : Int32) dX4_init_21 rfl ?_
  refine r_newI hc 2 12 36 (by decide) (by decide) (by decide) (by decide) (by decide) aw_int dX4_init_23 (fun q3 => ?_)
  refine V.eqw (ws' := ([(a0, .inr (4, [.int 0, .int 0, .int 0, .int 0, .ref q1, .ref q2, .null, .null, .null, .null, .null])), (q1, .inl (cy 0, 6, .inl (fun _ => 0))), (q2, .inl (cy 0, 6, .inl (fun _ => 0))), (q3, .inl (cy 0, 36, .inl (fun _ => 0)))])) rfl ?_
  refine r_putF (hc.cs (3, 48) (by decide) (by decide)) (hK.name _) iw_X4 tyX4 tyX4_ok nmX4 0 rfl rfl 6 (by decide) mw_215 rfl rfl rfl rfl (Nat.le_of_ble_eq_true rfl) dX4_init_25 ([(a0, .inr (4, [.int 0, .int 0, .int 0, .int 0, .ref q1, .ref q2, .ref q3, .null, .null, .null, .null])), (q1, .inl (cy 0, 6, .inl (fun _ => 0))), (q2, .inl (cy 0, 6, .inl (fun _ => 0))), (q3, .inl (cy 0, 36, .inl (fun _ => 0)))]) rfl ?_
  refine r_aload_n (hc.cs (3, 48) (by decide) (by decide)) 0 dX4_init_28 rfl ?_
  refine r_bipush (hc.cs (3, 48) (by decide) (by decide)) (6 : Int32) dX4_init_29 rfl ?_
  refine r_newI hc 3 48 6 (by decide) (by decide) (by decide) (by decide) (by decide) aw_int dX4_init_31 (fun q4 => ?_)
  refine V.eqw (ws' := ([(a0, .inr (4, [.int 0, .int 0, .int 0, .int 0, .ref q1, .ref q2, .ref q3, .null, .null, .null, .null])), (q1, .inl (cy 0, 6, .inl (fun _ => 0))), (q2, .inl (cy 0, 6, .inl (fun _ => 0))), (q3, .inl (cy 0, 36, .inl (fun _ => 0))), (q4, .inl (cy 0, 6, .inl (fun _ => 0)))])) rfl ?_
  refine r_putF (hc.cs (4, 54) (by decide) (by decide)) (hK.name _) iw_X4 tyX4 tyX4_ok nmX4 0 rfl rfl 7 (by decide) mw_216 rfl rfl rfl rfl (Nat.le_of_ble_eq_true rfl) dX4_init_33 ([(a0, .inr (4, [.int 0, .int 0, .int 0, .int 0, .ref q1, .ref q2, .ref q3, .ref q4, .null, .null, .null])), (q1, .inl (cy 0, 6, .inl (fun _ => 0))), (q2, .inl (cy 0, 6, .inl (fun _ => 0))), (q3, .inl (cy 0, 36, .inl (fun _ => 0))), (q4, .inl (cy 0, 6, .inl (fun _ => 0)))]) rfl ?_
  refine r_aload_n (hc.cs (4, 54) (by decide) (by decide)) 0 dX4_init_36 rfl ?_
  refine r_bipush (hc.cs (4, 54) (by decide) (by decide)) (6 : Int32) dX4_init_37 rfl ?_
  refine r_newI hc 4 54 6 (by decide) (by decide) (by decide) (by decide) (by decide) aw_int dX4_init_39 (fun q5 => ?_)
  refine V.eqw (ws' := ([(a0, .inr (4, [.int 0, .int 0, .int 0, .int 0, .ref q1, .ref q2, .ref q3, .ref q4, .null, .null, .null])), (q1, .inl (cy 0, 6, .inl (fun _ => 0))), (q2, .inl (cy 0, 6, .inl (fun _ => 0))), (q3, .inl (cy 0, 36, .inl (fun _ => 0))), (q4, .inl (cy 0, 6, .inl (fun _ => 0))), (q5, .inl (cy 0, 6, .inl (fun _ => 0)))])) rfl ?_
  refine r_putF (hc.cs (5, 60) (by decide) (by decide)) (hK.name _) iw_X4 tyX4 tyX4_ok nmX4 0 rfl rfl 8 (by decide) mw_217 rfl rfl rfl rfl (Nat.le_of_ble_eq_true rfl) dX4_init_41 ([(a0, .inr (4, [.int 0, .int 0, .int 0, .int 0, .ref q1, .ref q2, .ref q3, .ref q4, .ref q5, .null, .null])), (q1, .inl (cy 0, 6, .inl (fun _ => 0))), (q2, .inl (cy 0, 6, .inl (fun _ => 0))), (q3, .inl (cy 0, 36, .inl (fun _ => 0))), (q4, .inl (cy 0, 6, .inl (fun _ => 0))), (q5, .inl (cy 0, 6, .inl (fun _ => 0)))]) rfl ?_
  refine r_aload_n (hc.cs (5, 60) (by decide) (by decide)) 0 dX4_init_44 rfl ?_
  refine r_bipush (hc.cs (5, 60) (by decide) (by decide)) (6 : Int32) dX4_init_45 rfl ?_
  refine r_newI hc 5 60 6 (by decide) (by decide) (by decide) (by decide) (by decide) aw_int dX4_init_47 (fun q6 => ?_)
  refine V.eqw (ws' := ([(a0, .inr (4, [.int 0, .int 0, .int 0, .int 0, .ref q1, .ref q2, .ref q3, .ref q4, .ref q5, .null, .null])), (q1, .inl (cy 0, 6, .inl (fun _ => 0))), (q2, .inl (cy 0, 6, .inl (fun _ => 0))), (q3, .inl (cy 0, 36, .inl (fun _ => 0))), (q4, .inl (cy 0, 6, .inl (fun _ => 0))), (q5, .inl (cy 0, 6, .inl (fun _ => 0))), (q6, .inl (cy 0, 6, .inl (fun _ => 0)))])) rfl ?_
  refine r_putF (hc.cs (6, 66) (by decide) (by decide)) (hK.name _) iw_X4 tyX4 tyX4_ok nmX4 0 rfl rfl 9 (by decide) mw_218 rfl rfl rfl rfl (Nat.le_of_ble_eq_true rfl) dX4_init_49 ([(a0, .inr (4, [.int 0, .int 0, .int 0, .int 0, .ref q1, .ref q2, .ref q3, .ref q4, .ref q5, .ref q6, .null])), (q1, .inl (cy 0, 6, .inl (fun _ => 0))), (q2, .inl (cy 0, 6, .inl (fun _ => 0))), (q3, .inl (cy 0, 36, .inl (fun _ => 0))), (q4, .inl (cy 0, 6, .inl (fun _ => 0))), (q5, .inl (cy 0, 6, .inl (fun _ => 0))), (q6, .inl (cy 0, 6, .inl (fun _ => 0)))]) rfl ?_
  refine r_aload_n (hc.cs (6, 66) (by decide) (by decide)) 0 dX4_init_52 rfl ?_
  refine r_bipush (hc.cs (6, 66) (by decide) (by decide)) (6 : Int32) dX4_init_53 rfl ?_
  refine r_newI hc 6 66 6 (by decide) (by decide) (by decide) (by decide) (by decide) aw_int dX4_init_55 (fun q7 => ?_)
  refine V.eqw (ws' := ([(a0, .inr (4, [.int 0, .int 0, .int 0, .int 0, .ref q1, .ref q2, .ref q3, .ref q4, .ref q5, .ref q6, .null])), (q1, .inl (cy 0, 6, .inl (fun _ => 0))), (q2, .inl (cy 0, 6, .inl (fun _ => 0))), (q3, .inl (cy 0, 36, .inl (fun _ => 0))), (q4, .inl (cy 0, 6, .inl (fun _ => 0))), (q5, .inl (cy 0, 6, .inl (fun _ => 0))), (q6, .inl (cy 0, 6, .inl (fun _ => 0))), (q7, .inl (cy 0, 6, .inl (fun _ => 0)))])) rfl ?_
  refine r_putF (hc.cs (7, 72) (by decide) (by decide)) (hK.name _) iw_X4 tyX4 tyX4_ok nmX4 0 rfl rfl 10 (by decide) mw_219 rfl rfl rfl rfl (Nat.le_of_ble_eq_true rfl) dX4_init_57 ([(a0, .inr (4, [.int 0, .int 0, .int 0, .int 0, .ref q1, .ref q2, .ref q3, .ref q4, .ref q5, .ref q6, .ref q7])), (q1, .inl (cy 0, 6, .inl (fun _ => 0))), (q2, .inl (cy 0, 6, .inl (fun _ => 0))), (q3, .inl (cy 0, 36, .inl (fun _ => 0))), (q4, .inl (cy 0, 6, .inl (fun _ => 0))), (q5, .inl (cy 0, 6, .inl (fun _ => 0))), (q6, .inl (cy 0, 6, .inl (fun _ => 0))), (q7, .inl (cy 0, 6, .inl (fun _ => 0)))]) rfl ?_
  exact r_nret hK (adr [a0, q1, q2, q3, q4, q5, q6, q7]) rfl rfl dX4_init_60
def zO0 : OS := ((fun _ => 0), (fun _ => 0))
theorem ki_X5_init : KI yX5_init cX5_init 1 := ⟨mw_246, mw_61, mw_247, rfl, by decide +kernel⟩
set_option maxHeartbeats 8000000 in
set_option maxRecDepth 100000 in
theorem n_X5_init {l : Launch} {E : va_G} {cy : Nat → ClassId} (a0 : Nat) : Cn l yX5_init cX5_init 1 1 60 2 12 E cy [.ref a0] [(a0, .inr (5, [.null, .null]))] (fun u : Nat → Nat => u 0 = a0) (fun u => wO cy u zO0) := by
  refine Cn.of RX5 (by decide) rfl rfl (Nat.le_of_ble_eq_true rfl) ?_
  intro K hK
  have hc := hK.cq
  show V (Kcs K (0, 0)) [(a0, .inr (5, [.null, .null]))] 0 [(0, .ref a0)] []
  refine r_aload_n (hc.cs (0, 0) (by decide) (by decide)) 0 dX5_init_0 rfl ?_
  refine r_objInit (hc.cs (0, 0) (by decide) (by decide)) mw_248 mw_75 ow_init (by decide) (Nat.le_of_ble_eq_true rfl) dX5_init_1 ?_
  refine r_aload_n (hc.cs (0, 0) (by decide) (by decide)) 0 dX5_init_4 rfl ?_
  refine r_bipush (hc.cs (0, 0) (by decide) (by decide)) (6 : Int32) dX5_init_5 rfl ?_
  refine r_newI hc 0 0 6 (by decide) (by decide) (by decide) (by decide) (by decide) aw_int dX5_init_7 (fun q1 => ?_)
  refine V.eqw (ws' := ([(a0, .inr (5, [.null, .null])), (q1, .inl (cy 0, 6, .inl (fun _ => 0)))])) rfl ?_
  refine r_putF (hc.cs (1, 6) (by decide) (by decide)) (hK.name _) iw_X5 tyX5 tyX5_ok nmX5 0 rfl rfl 0 (by decide) mw_249 rfl rfl rfl rfl (Nat.le_of_ble_eq_true rfl) dX5_init_9 ([(a0, .inr (5, [.ref q1, .null])), (q1, .inl (cy 0, 6, .inl (fun _ => 0)))]) rfl ?_
  refine r_aload_n (hc.cs (1, 6) (by decide) (by decide)) 0 dX5_init_12 rfl ?_
  refine r_bipush (hc.cs (1, 6) (by decide) (by decide)) (6 : Int32) dX5_init_13 rfl ?_
  refine r_newI hc 1 6 6 (by decide) (by decide) (by decide) (by decide) (by decide) aw_int dX5_init_15 (fun q2 => ?_)
  refine V.eqw (ws' := ([(a0, .inr (5, [.ref q1, .null])), (q1, .inl (cy 0, 6, .inl (fun _ => 0))), (q2, .inl (cy 0, 6, .inl (fun _ => 0)))])) rfl ?_
  refine r_putF (hc.cs (2, 12) (by decide) (by decide)) (hK.name _) iw_X5 tyX5 tyX5_ok nmX5 0 rfl rfl 1 (by decide) mw_250 rfl rfl rfl rfl (Nat.le_of_ble_eq_true rfl) dX5_init_17 ([(a0, .inr (5, [.ref q1, .ref q2])), (q1, .inl (cy 0, 6, .inl (fun _ => 0))), (q2, .inl (cy 0, 6, .inl (fun _ => 0)))]) rfl ?_
  exact r_nret hK (adr [a0, q1, q2]) rfl rfl dX5_init_20
def zS0 : SS := (0, (fun _ => 0), (fun _ => 0), false)
theorem ki_X6_init : KI yX6_init cX6_init 1 := ⟨mw_259, mw_62, mw_260, rfl, by decide +kernel⟩
set_option maxHeartbeats 8000000 in
set_option maxRecDepth 100000 in
theorem n_X6_init {l : Launch} {E : va_G} {cy : Nat → ClassId} (a0 : Nat) : Cn l yX6_init cX6_init 1 1 60 2 12 E cy [.ref a0] [(a0, .inr (6, [.long 0, .null, .null]))] (fun u : Nat → Nat => u 0 = a0) (fun u => wS cy u zS0) := by
  refine Cn.of RX6 (by decide) rfl rfl (Nat.le_of_ble_eq_true rfl) ?_
  intro K hK
  have hc := hK.cq
  show V (Kcs K (0, 0)) [(a0, .inr (6, [.long 0, .null, .null]))] 0 [(0, .ref a0)] []
  refine r_aload_n (hc.cs (0, 0) (by decide) (by decide)) 0 dX6_init_0 rfl ?_
  refine r_objInit (hc.cs (0, 0) (by decide) (by decide)) mw_261 mw_75 ow_init (by decide) (Nat.le_of_ble_eq_true rfl) dX6_init_1 ?_
  refine r_aload_n (hc.cs (0, 0) (by decide) (by decide)) 0 dX6_init_4 rfl ?_
  refine r_bipush (hc.cs (0, 0) (by decide) (by decide)) (6 : Int32) dX6_init_5 rfl ?_
  refine r_newJ hc 0 0 6 (by decide) (by decide) (by decide) (by decide) (by decide) aw_long dX6_init_7 (fun q1 => ?_)
  refine V.eqw (ws' := ([(a0, .inr (6, [.long 0, .null, .null])), (q1, .inl (cy 1, 6, .inr (.inl (fun _ => 0))))])) rfl ?_
  refine r_put (hc.cs (1, 6) (by decide) (by decide)) iw_X6 tyX6 tyX6_ok nmX6 0 rfl rfl 1 (by decide) mw_263 rfl rfl rfl (Nat.le_of_ble_eq_true rfl) dX6_init_9 ([(a0, .inr (6, [.long 0, .ref q1, .null])), (q1, .inl (cy 1, 6, .inr (.inl (fun _ => 0))))]) rfl ?_
  refine r_aload_n (hc.cs (1, 6) (by decide) (by decide)) 0 dX6_init_12 rfl ?_
  refine r_bipush (hc.cs (1, 6) (by decide) (by decide)) (6 : Int32) dX6_init_13 rfl ?_
  refine r_newJ hc 1 6 6 (by decide) (by decide) (by decide) (by decide) (by decide) aw_long dX6_init_15 (fun q2 => ?_)
  refine V.eqw (ws' := ([(a0, .inr (6, [.long 0, .ref q1, .null])), (q1, .inl (cy 1, 6, .inr (.inl (fun _ => 0)))), (q2, .inl (cy 1, 6, .inr (.inl (fun _ => 0))))])) rfl ?_
  refine r_put (hc.cs (2, 12) (by decide) (by decide)) iw_X6 tyX6 tyX6_ok nmX6 0 rfl rfl 2 (by decide) mw_264 rfl rfl rfl (Nat.le_of_ble_eq_true rfl) dX6_init_17 ([(a0, .inr (6, [.long 0, .ref q1, .ref q2])), (q1, .inl (cy 1, 6, .inr (.inl (fun _ => 0)))), (q2, .inl (cy 1, 6, .inr (.inl (fun _ => 0))))]) rfl ?_
  exact r_nret hK (adr [a0, q1, q2]) rfl rfl dX6_init_20
def zU0 : US := (0, 0)
theorem ki_X7_init : KI yX7_init cX7_init 1 := ⟨mw_276, mw_63, mw_277, rfl, by decide +kernel⟩
set_option maxHeartbeats 8000000 in
set_option maxRecDepth 100000 in
theorem n_X7_init {l : Launch} {E : va_G} {cy : Nat → ClassId} (a0 : Nat) : Cn l yX7_init cX7_init 1 1 60 0 0 E cy [.ref a0] [(a0, .inr (7, [.int 0, .int 0]))] (fun u : Nat → Nat => u 0 = a0) (fun u => wU cy u zU0) := by
  refine Cn.of RX7 (by decide) rfl rfl (Nat.le_of_ble_eq_true rfl) ?_
  intro K hK
  have hc := hK.cq
  show V (Kcs K (0, 0)) [(a0, .inr (7, [.int 0, .int 0]))] 0 [(0, .ref a0)] []
  refine r_aload_n (hc.cs (0, 0) (by decide) (by decide)) 0 dX7_init_0 rfl ?_
  refine r_objInit (hc.cs (0, 0) (by decide) (by decide)) mw_278 mw_75 ow_init (by decide) (Nat.le_of_ble_eq_true rfl) dX7_init_1 ?_
  exact r_nret hK (adr [a0]) rfl rfl dX7_init_4
def zD0 : DS := (zH0, (fun _ => 0), (fun _ => 0), (fun _ => 0), (fun _ => 0))
theorem ki_X0_init : KI yX0_init cX0_init 1 := ⟨mw_163, mw_58, mw_164, rfl, by decide +kernel⟩
set_option maxHeartbeats 8000000 in
set_option maxRecDepth 100000 in
theorem n_X0_init {l : Launch} {E : va_G} {cy : Nat → ClassId} (a0 : Nat) : Cn l yX0_init cX0_init 1 2 80 14 294 E cy [.ref a0] [(a0, .inr (0, [.null, .null, .null, .null, .null]))] (fun u : Nat → Nat => u 0 = a0) (fun u => wD cy u zD0) := by
  refine Cn.of RX0 (by decide) rfl rfl (Nat.le_of_ble_eq_true rfl) ?_
  intro K hK
  have hc := hK.cq
  show V (Kcs K (0, 0)) [(a0, .inr (0, [.null, .null, .null, .null, .null]))] 0 [(0, .ref a0)] []
  refine r_aload_n (hc.cs (0, 0) (by decide) (by decide)) 0 dX0_init_0 rfl ?_
  refine r_objInit (hc.cs (0, 0) (by decide) (by decide)) mw_165 mw_75 ow_init (by decide) (Nat.le_of_ble_eq_true rfl) dX0_init_1 ?_
  refine r_aload_n (hc.cs (0, 0) (by decide) (by decide)) 0 dX0_init_4 rfl ?_
  refine r_new (ci := 1) hc 0 0 iw_X1 tyX1 tyX1_ok rfl [.int 0, .int 0, .int 0, .null, .null, .null, .null, .null, .null, .null, .null, .null] nf_X1 (by decide) (by decide) mw_166 mw_78 mw_56 dX0_init_5 (fun q1 => ?_)
  refine V.eqw (ws' := ([(a0, .inr (0, [.null, .null, .null, .null, .null])), (q1, .inr (1, [.int 0, .int 0, .int 0, .null, .null, .null, .null, .null, .null, .null, .null, .null]))])) rfl ?_
  refine r_dup (hc.cs (1, 12) (by decide) (by decide)) dX0_init_8 rfl ?_
  refine r_callN hc 1 12 (n_X1_init q1) ki_X1_init (List.mem_of_getElem? (i := 3) rfl) [1] [0] rfl rfl rfl rfl rfl (Nat.le_of_ble_eq_true rfl) ⟨by decide, by decide⟩ (by decide) (by decide) dX0_init_9 (fun A2 hA2 => ?_)
  obtain rfl : A2 0 = q1 := hA2
  refine V.eqw (ws' := ([(a0, .inr (0, [.null, .null, .null, .null, .null]))] ++ wH cy A2 zH0)) rfl ?_
  refine r_putF (hc.cs (10, 168) (by decide) (by decide)) (hK.name _) iw_X0 tyX0 tyX0_ok nmX0 0 rfl rfl 0 (by decide) mw_168 rfl rfl rfl rfl (Nat.le_of_ble_eq_true rfl) dX0_init_12 ([(a0, .inr (0, [.ref (A2 0), .null, .null, .null, .null]))] ++ wH cy A2 zH0) rfl ?_
  refine r_aload_n (hc.cs (10, 168) (by decide) (by decide)) 0 dX0_init_15 rfl ?_
  refine r_bipush (hc.cs (10, 168) (by decide) (by decide)) (48 : Int32) dX0_init_16 rfl ?_
  refine r_newI hc 10 168 48 (by decide) (by decide) (by decide) (by decide) (by decide) aw_int dX0_init_18 (fun q3 => ?_)
  refine V.eqw (ws' := ([(a0, .inr (0, [.ref (A2 0), .null, .null, .null, .null]))] ++ wH cy A2 zH0 ++ [(q3, .inl (cy 0, 48, .inl (fun _ => 0)))])) rfl ?_
  refine r_putF (hc.cs (11, 216) (by decide) (by decide)) (hK.name _) iw_X0 tyX0 tyX0_ok nmX0 0 rfl rfl 1 (by decide) mw_172 rfl rfl rfl rfl (Nat.le_of_ble_eq_true rfl) dX0_init_20 ([(a0, .inr (0, [.ref (A2 0), .ref q3, .null, .null, .null]))] ++ wH cy A2 zH0 ++ [(q3, .inl (cy 0, 48, .inl (fun _ => 0)))]) rfl ?_
  refine r_aload_n (hc.cs (11, 216) (by decide) (by decide)) 0 dX0_init_23 rfl ?_
  refine r_bipush (hc.cs (11, 216) (by decide) (by decide)) (6 : Int32) dX0_init_24 rfl ?_
  refine r_newI hc 11 216 6 (by decide) (by decide) (by decide) (by decide) (by decide) aw_int dX0_init_26 (fun q4 => ?_)
  refine V.eqw (ws' := ([(a0, .inr (0, [.ref (A2 0), .ref q3, .null, .null, .null]))] ++ wH cy A2 zH0 ++ [(q3, .inl (cy 0, 48, .inl (fun _ => 0))), (q4, .inl (cy 0, 6, .inl (fun _ => 0)))])) rfl ?_
  refine r_putF (hc.cs (12, 222) (by decide) (by decide)) (hK.name _) iw_X0 tyX0 tyX0_ok nmX0 0 rfl rfl 2 (by decide) mw_173 rfl rfl rfl rfl (Nat.le_of_ble_eq_true rfl) dX0_init_28 ([(a0, .inr (0, [.ref (A2 0), .ref q3, .ref q4, .null, .null]))] ++ wH cy A2 zH0 ++ [(q3, .inl (cy 0, 48, .inl (fun _ => 0))), (q4, .inl (cy 0, 6, .inl (fun _ => 0)))]) rfl ?_
  refine r_aload_n (hc.cs (12, 222) (by decide) (by decide)) 0 dX0_init_31 rfl ?_
  refine r_bipush (hc.cs (12, 222) (by decide) (by decide)) (36 : Int32) dX0_init_32 rfl ?_
  refine r_newI hc 12 222 36 (by decide) (by decide) (by decide) (by decide) (by decide) aw_int dX0_init_34 (fun q5 => ?_)
  refine V.eqw (ws' := ([(a0, .inr (0, [.ref (A2 0), .ref q3, .ref q4, .null, .null]))] ++ wH cy A2 zH0 ++ [(q3, .inl (cy 0, 48, .inl (fun _ => 0))), (q4, .inl (cy 0, 6, .inl (fun _ => 0))), (q5, .inl (cy 0, 36, .inl (fun _ => 0)))])) rfl ?_
  refine r_putF (hc.cs (13, 258) (by decide) (by decide)) (hK.name _) iw_X0 tyX0 tyX0_ok nmX0 0 rfl rfl 3 (by decide) mw_174 rfl rfl rfl rfl (Nat.le_of_ble_eq_true rfl) dX0_init_36 ([(a0, .inr (0, [.ref (A2 0), .ref q3, .ref q4, .ref q5, .null]))] ++ wH cy A2 zH0 ++ [(q3, .inl (cy 0, 48, .inl (fun _ => 0))), (q4, .inl (cy 0, 6, .inl (fun _ => 0))), (q5, .inl (cy 0, 36, .inl (fun _ => 0)))]) rfl ?_
  refine r_aload_n (hc.cs (13, 258) (by decide) (by decide)) 0 dX0_init_39 rfl ?_
  refine r_bipush (hc.cs (13, 258) (by decide) (by decide)) (36 : Int32) dX0_init_40 rfl ?_
  refine r_newI hc 13 258 36 (by decide) (by decide) (by decide) (by decide) (by decide) aw_int dX0_init_42 (fun q6 => ?_)
  refine V.eqw (ws' := ([(a0, .inr (0, [.ref (A2 0), .ref q3, .ref q4, .ref q5, .null]))] ++ wH cy A2 zH0 ++ [(q3, .inl (cy 0, 48, .inl (fun _ => 0))), (q4, .inl (cy 0, 6, .inl (fun _ => 0))), (q5, .inl (cy 0, 36, .inl (fun _ => 0))), (q6, .inl (cy 0, 36, .inl (fun _ => 0)))])) rfl ?_
  refine r_putF (hc.cs (14, 294) (by decide) (by decide)) (hK.name _) iw_X0 tyX0 tyX0_ok nmX0 0 rfl rfl 4 (by decide) mw_175 rfl rfl rfl rfl (Nat.le_of_ble_eq_true rfl) dX0_init_44 ([(a0, .inr (0, [.ref (A2 0), .ref q3, .ref q4, .ref q5, .ref q6]))] ++ wH cy A2 zH0 ++ [(q3, .inl (cy 0, 48, .inl (fun _ => 0))), (q4, .inl (cy 0, 6, .inl (fun _ => 0))), (q5, .inl (cy 0, 36, .inl (fun _ => 0))), (q6, .inl (cy 0, 36, .inl (fun _ => 0)))]) rfl ?_
  refine V.perm (ws' := wD cy (fun i => if i < 5 then adr [a0, q3, q4, q5, q6] i else A2 (i - 5)) zD0) [0, 11, 12, 13, 14, 1, 2, 3, 4, 5, 6, 7, 8, 9, 10] rfl rfl ?_
  exact r_nret hK (fun i => if i < 5 then adr [a0, q3, q4, q5, q6] i else A2 (i - 5)) rfl rfl dX0_init_47
