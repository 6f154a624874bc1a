def X5_shorten_J47 (k2 : OS → HS → Int32 → Int32 → Option (OS)) (ro : OS) (h : HS) (x2 : Int32) (x3 : Int32) : Option (OS) :=
  (k2 ro h x2 (x3 + (1 : Int32)))
def X5_shorten_B2 (k2 : OS → HS → Int32 → Int32 → Option (OS)) (ro : OS) (h : HS) (x2 : Int32) (x3 : Int32) : Option (OS) :=
  (if (H_rooms h) ≤ x3 then (some (ro)) else ((f_X1_widthOf h x2 x3).bind fun q13 => (if q13 ≤ 0 then (X5_shorten_J47 k2 ro h x2 x3) else (chk x2 6 (chk x3 6 (chk x3 6 (chk x2 6 (ltA (upd (O_far ro) (x2).toNatClampNeg (if (((O_toll ro) (x3).toNatClampNeg) + ((O_far ro) (x3).toNatClampNeg)) < ((O_far ro) (x2).toNatClampNeg) then (((O_toll ro) (x3).toNatClampNeg) + ((O_far ro) (x3).toNatClampNeg)) else ((O_far ro) (x2).toNatClampNeg))) fun f46 => (X5_shorten_J47 k2 (O_set_far ro f46) h x2 x3)))))))))
def f_X5_shorten (ro : OS) (h : HS) (x2 : Int32) : Option (OS) :=
  (it X5_shorten_B2 (fun _ _ _ _ => none) FU ro h x2 (0 : Int32))
theorem kv_X5_shorten : KV RX5 yX5_shorten cX5_shorten 4 none 2 := ⟨mw_753, mw_17, mw_61, mw_754, by decide +kernel⟩
set_option maxHeartbeats 8000000 in
set_option maxRecDepth 100000 in
theorem c_X5_shorten {l : Launch} {E : va_G} {cy : Nat → ClassId} (A : Nat → Nat) (B1 : Nat → Nat) (ro : OS) (h : HS) (x2 : Int32) (q : OS) (hf : f_X5_shorten ro h x2 = some q) : Cv l yX5_shorten cX5_shorten 4 none 2 82 E cy [.ref (A 0), .ref (B1 0), .int x2] (wO cy A ro ++ wH cy B1 h) (wO cy A q ++ wH cy B1 h) := by
  refine Cv.of RX5 (by decide) rfl (Nat.le_of_ble_eq_true rfl) ?_
  intro K hK
  have hc := hK.cq
  have L2 : ∀ (n2 : Nat) (ro : OS) (x2 : Int32) (x3 : Int32), it X5_shorten_B2 (fun _ _ _ _ => none) n2 ro h x2 x3 = some q → V K (wO cy A ro ++ wH cy B1 h) 2 [(0, .ref (A 0)), (1, .ref (B1 0)), (2, .int x2), (3, .int x3)] [] := by
    intro n2
    induction n2 with
    | zero => intro ro x2 x3 hf; exact (o_none hf).elim
    | succ n2 ih2 =>
      have J47 : ∀ (ro : OS) (x2 : Int32) (x3 : Int32), X5_shorten_J47 (it X5_shorten_B2 (fun _ _ _ _ => none) n2) ro h x2 x3 = some q → V K (wO cy A ro ++ wH cy B1 h) 47 [(0, .ref (A 0)), (1, .ref (B1 0)), (2, .int x2), (3, .int x3)] [] := by
        intro ro x2 x3 hf
        unfold X5_shorten_J47 at hf
        refine r_iinc hc 3 [(3, .int (x3 + (1 : Int32))), (0, .ref (A 0)), (1, .ref (B1 0)), (2, .int x2)] (x3 + (1 : Int32)) dX5_shorten_47 rfl rfl (by decide) rfl ?_
        refine r_goto hc 2 dX5_shorten_50 (by decide) ?_
        exact V.sub [1, 2, 3, 0] rfl (ih2 ro x2 (x3 + (1 : Int32)) hf)
      intro ro x2 x3 hf
      replace hf : X5_shorten_B2 (it X5_shorten_B2 (fun _ _ _ _ => none) n2) ro h x2 x3 = some q := hf
      unfold X5_shorten_B2 at hf
      refine r_iload_n hc 3 dX5_shorten_2 rfl ?_
      refine r_aload_n hc 1 dX5_shorten_3 rfl ?_
      refine r_get (v := .int (H_rooms h)) hc iw_X1 3 rfl rfl 0 (by decide) mw_84 rfl dX5_shorten_4 ?_
      refine r_icmp_ge hc 53 dX5_shorten_7 (by decide) (fun c_1 => ?_) (fun c_1 => ?_)
      · have hf := o_pos c_1 hf
        exact r_vret hK (congrArg (fun z9 => (wO cy A z9 ++ wH cy B1 h)) (Option.some.inj hf)) dX5_shorten_53
      · have hf := o_neg c_1 hf
        refine r_aload_n hc 1 dX5_shorten_10 rfl ?_
        refine r_iload_n hc 2 dX5_shorten_11 rfl ?_
        refine r_iload_n hc 3 dX5_shorten_12 rfl ?_
        obtain ⟨q13, hq13, hf⟩ := o_bind hf
        refine r_callVi (ws' := (wO cy A ro ++ wH cy B1 h)) (As := [.int x2, .int x3]) (rest := []) hc (c_X1_widthOf B1 h x2 x3 q13 hq13) kv_X1_widthOf mw_755 0 rfl rfl [3, 4, 5, 6, 7, 8, 9, 10, 11, 12] [0, 1, 2] [0, 1, 2, 3, 4, 5, 6, 7, 8, 9, 10, 11, 12] ⟨rfl, rfl, rfl, rfl, rfl, rfl, rfl⟩ rfl rfl (Nat.le_of_ble_eq_true rfl) ⟨by decide, by decide⟩ dX5_shorten_13 ?_
        refine r_if_le hc 47 dX5_shorten_16 (by decide) (fun c_2 => ?_) (fun c_2 => ?_)
        · have hf := o_pos c_2 hf
          exact V.sub [0, 1, 2, 3] rfl (J47 ro x2 x3 hf)
        · have hf := o_neg c_2 hf
          refine r_aload_n hc 0 dX5_shorten_19 rfl ?_
          refine r_get (v := .ref (A 2)) hc iw_X5 0 rfl rfl 1 (by decide) mw_250 rfl dX5_shorten_20 ?_
          refine r_iload_n hc 2 dX5_shorten_23 rfl ?_
          refine r_aload_n hc 0 dX5_shorten_24 rfl ?_
          refine r_get (v := .ref (A 2)) hc iw_X5 0 rfl rfl 1 (by decide) mw_250 rfl dX5_shorten_25 ?_
          refine r_iload_n hc 2 dX5_shorten_28 rfl ?_
          obtain ⟨i_3, hf⟩ := chk_some hf
          refine r_iald (f := (O_far ro)) hc 2 rfl i_3 dX5_shorten_29 ?_
          refine r_aload_n hc 0 dX5_shorten_30 rfl ?_
          refine r_get (v := .ref (A 1)) hc iw_X5 0 rfl rfl 0 (by decide) mw_249 rfl dX5_shorten_31 ?_
          refine r_iload_n hc 3 dX5_shorten_34 rfl ?_
          obtain ⟨i_4, hf⟩ := chk_some hf
          refine r_iald (f := (O_toll ro)) hc 1 rfl i_4 dX5_shorten_35 ?_
          refine r_aload_n hc 0 dX5_shorten_36 rfl ?_
          refine r_get (v := .ref (A 2)) hc iw_X5 0 rfl rfl 1 (by decide) mw_250 rfl dX5_shorten_37 ?_
          refine r_iload_n hc 3 dX5_shorten_40 rfl ?_
          obtain ⟨i_5, hf⟩ := chk_some hf
          refine r_iald (f := (O_far ro)) hc 2 rfl i_5 dX5_shorten_41 ?_
          refine r_iadd hc dX5_shorten_42 ?_
          refine r_mmin hc mw_756 mw_722 mw_68 mw_723 (by decide) (Nat.le_of_ble_eq_true rfl) dX5_shorten_43 ?_
          obtain ⟨i_6, hf⟩ := chk_some hf
          obtain ⟨f46, ef46, hf⟩ := lt_some hf
          refine r_iast (f := (O_far ro)) hc 2 rfl i_6 dX5_shorten_46 f46 ef46 (wO cy A (O_set_far ro f46) ++ wH cy B1 h) rfl ?_
          exact V.sub [0, 1, 2, 3] rfl (J47 (O_set_far ro f46) x2 x3 hf)
  show V K (wO cy A ro ++ wH cy B1 h) 0 [(0, .ref (A 0)), (1, .ref (B1 0)), (2, .int x2)] []
  unfold f_X5_shorten at hf
  refine r_iconst hc (0 : Int32) dX5_shorten_0 rfl ?_
  refine r_istore_n hc [(3, .int (0 : Int32)), (0, .ref (A 0)), (1, .ref (B1 0)), (2, .int x2)] dX5_shorten_1 (by decide) rfl ?_
  exact V.sub [1, 2, 3, 0] rfl (L2 FU ro x2 (0 : Int32) hf)
def X5_measure_B62 (k51 : OS → HS → Int32 → Option (OS)) (k62 : OS → HS → Int32 → Int32 → Option (OS)) (ro : OS) (h : HS) (x3 : Int32) (x4 : Int32) : Option (OS) :=
  (if (H_rooms h) ≤ x4 then (k51 ro h (x3 + (1 : Int32))) else ((f_X5_shorten ro h x4).bind fun q75 => (k62 q75 h x3 (x4 + (1 : Int32)))))
def X5_measure_B51 (k51 : OS → HS → Int32 → Option (OS)) (ro : OS) (h : HS) (x3 : Int32) : Option (OS) :=
  (if (H_rooms h) ≤ x3 then (some (ro)) else (it (X5_measure_B62 k51) (fun _ _ _ _ => none) FU ro h x3 (0 : Int32)))
def X5_measure_J42 (k2 : OS → HS → Int32 → Int32 → Option (OS)) (ro : OS) (h : HS) (x2 : Int32) (x3 : Int32) (s0 : Int32) (s1 : Int32) : Option (OS) :=
  (chk s1 6 (ltA (upd (O_far ro) (s1).toNatClampNeg s0) fun f42 => (k2 (O_set_far ro f42) h x2 (x3 + (1 : Int32)))))
def X5_measure_B2 (k2 : OS → HS → Int32 → Int32 → Option (OS)) (ro : OS) (h : HS) (x2 : Int32) (x3 : Int32) : Option (OS) :=
  (if (H_rooms h) ≤ x3 then (it X5_measure_B51 (fun _ _ _ => none) FU ro h (0 : Int32)) else ((f_X1_count h x3).bind fun q19 => (chk x3 6 (ltA (upd (O_toll ro) (x3).toNatClampNeg (((100 : Int32) * q19) + (1 : Int32))) fun f25 => (if x3 = x2 then (X5_measure_J42 k2 (O_set_toll ro f25) h x2 x3 (0 : Int32) x3) else (X5_measure_J42 k2 (O_set_toll ro f25) h x2 x3 (1000000 : Int32) x3))))))
def f_X5_measure (ro : OS) (h : HS) (x2 : Int32) : Option (OS) :=
  (it X5_measure_B2 (fun _ _ _ _ => none) FU ro h x2 (0 : Int32))
theorem kv_X5_measure : KV RX5 yX5_measure cX5_measure 5 none 2 := ⟨mw_746, mw_747, mw_61, mw_748, by decide +kernel⟩
set_option maxHeartbeats 8000000 in
set_option maxRecDepth 100000 in
theorem c_X5_measure {l : Launch} {E : va_G} {cy : Nat → ClassId} (A : Nat → Nat) (B1 : Nat → Nat) (ro : OS) (h : HS) (x2 : Int32) (q : OS) (hf : f_X5_measure ro h x2 = some q) : Cv l yX5_measure cX5_measure 5 none 4 125 E cy [.ref (A 0), .ref (B1 0), .int x2] (wO cy A ro ++ wH cy B1 h) (wO cy A q ++ wH cy B1 h) := by
  refine Cv.of RX5 (by decide) rfl (Nat.le_of_ble_eq_true rfl) ?_
  intro K hK
  have hc := hK.cq
  have L51 : ∀ (n51 : Nat) (ro : OS) (x3 : Int32), it X5_measure_B51 (fun _ _ _ => none) n51 ro h x3 = some q → V K (wO cy A ro ++ wH cy B1 h) 51 [(0, .ref (A 0)), (1, .ref (B1 0)), (3, .int x3)] [] := by
    intro n51
    induction n51 with
    | zero => intro ro x3 hf; exact (o_none hf).elim
    | succ n51 ih51 =>
      have L62 : ∀ (n62 : Nat) (ro : OS) (x3 : Int32) (x4 : Int32), it (X5_measure_B62 (it X5_measure_B51 (fun _ _ _ => none) n51)) (fun _ _ _ _ => none) n62 ro h x3 x4 = some q → V K (wO cy A ro ++ wH cy B1 h) 62 [(0, .ref (A 0)), (1, .ref (B1 0)), (3, .int x3), (4, .int x4)] [] := by
        intro n62
        induction n62 with
        | zero => intro ro x3 x4 hf; exact (o_none hf).elim
        | succ n62 ih62 =>
          intro ro x3 x4 hf
          replace hf : X5_measure_B62 (it X5_measure_B51 (fun _ _ _ => none) n51) (it (X5_measure_B62 (it X5_measure_B51 (fun _ _ _ => none) n51)) (fun _ _ _ _ => none) n62) ro h x3 x4 = some q := hf
          unfold X5_measure_B62 at hf
          refine r_iload hc 3 dX5_measure_62 rfl ?_
          refine r_aload_n hc 1 dX5_measure_64 rfl ?_
          refine r_get (v := .int (H_rooms h)) hc iw_X1 3 rfl rfl 0 (by decide) mw_84 rfl dX5_measure_65 ?_
          refine r_icmp_ge hc 84 dX5_measure_68 (by decide) (fun c_6 => ?_) (fun c_6 => ?_)
          · have hf := o_pos c_6 hf
            refine r_iinc hc 2 [(3, .int (x3 + (1 : Int32))), (0, .ref (A 0)), (1, .ref (B1 0)), (4, .int x4)] (x3 + (1 : Int32)) dX5_measure_84 rfl rfl (by decide) rfl ?_
            refine r_goto hc 51 dX5_measure_87 (by decide) ?_
            exact V.sub [1, 2, 0] rfl (ih51 ro (x3 + (1 : Int32)) hf)
          · have hf := o_neg c_6 hf
            refine r_aload_n hc 0 dX5_measure_71 rfl ?_
            refine r_aload_n hc 1 dX5_measure_72 rfl ?_
            refine r_iload hc 3 dX5_measure_73 rfl ?_
            obtain ⟨q75, hq75, hf⟩ := o_bind hf
            refine r_callVv (ws' := (wO cy A q75 ++ wH cy B1 h)) (As := [.ref (B1 0), .int x4]) (rest := []) hc (c_X5_shorten A B1 ro h x4 q75 hq75) kv_X5_shorten mw_751 0 rfl rfl _ _ _ (Sp_all _ _) rfl rfl (Nat.le_of_ble_eq_true rfl) ⟨by decide, by decide⟩ dX5_measure_75 ?_
            refine r_iinc hc 3 [(4, .int (x4 + (1 : Int32))), (0, .ref (A 0)), (1, .ref (B1 0)), (3, .int x3)] (x4 + (1 : Int32)) dX5_measure_78 rfl rfl (by decide) rfl ?_
            refine r_goto hc 62 dX5_measure_81 (by decide) ?_
            exact V.sub [1, 2, 3, 0] rfl (ih62 q75 x3 (x4 + (1 : Int32)) hf)
      intro ro x3 hf
      replace hf : X5_measure_B51 (it X5_measure_B51 (fun _ _ _ => none) n51) ro h x3 = some q := hf
      unfold X5_measure_B51 at hf
      refine r_iload_n hc 2 dX5_measure_51 rfl ?_
      refine r_aload_n hc 1 dX5_measure_52 rfl ?_
      refine r_get (v := .int (H_rooms h)) hc iw_X1 3 rfl rfl 0 (by decide) mw_84 rfl dX5_measure_53 ?_
      refine r_icmp_ge hc 90 dX5_measure_56 (by decide) (fun c_5 => ?_) (fun c_5 => ?_)
      · have hf := o_pos c_5 hf
        exact r_vret hK (congrArg (fun z9 => (wO cy A z9 ++ wH cy B1 h)) (Option.some.inj hf)) dX5_measure_90
      · have hf := o_neg c_5 hf
        refine r_iconst hc (0 : Int32) dX5_measure_59 rfl ?_
        refine r_istore hc [(4, .int (0 : Int32)), (0, .ref (A 0)), (1, .ref (B1 0)), (3, .int x3)] dX5_measure_60 (by decide) rfl ?_
        exact V.sub [1, 2, 3, 0] rfl (L62 FU ro x3 (0 : Int32) hf)
  have L2 : ∀ (n2 : Nat) (ro : OS) (x2 : Int32) (x3 : Int32), it X5_measure_B2 (fun _ _ _ _ => none) n2 ro h x2 x3 = some q → V K (wO cy A ro ++ wH cy B1 h) 2 [(0, .ref (A 0)), (1, .ref (B1 0)), (2, .int x2), (3, .int x3)] [] := by
    intro n2
    induction n2 with
    | zero => intro ro x2 x3 hf; exact (o_none hf).elim
    | succ n2 ih2 =>
      have J42 : ∀ (ro : OS) (x2 : Int32) (x3 : Int32) (s0 : Int32) (s1 : Int32), X5_measure_J42 (it X5_measure_B2 (fun _ _ _ _ => none) n2) ro h x2 x3 s0 s1 = some q → V K (wO cy A ro ++ wH cy B1 h) 42 [(0, .ref (A 0)), (1, .ref (B1 0)), (2, .int x2), (3, .int x3)] [.int s0, .int s1, .ref (A 2)] := by
        intro ro x2 x3 s0 s1 hf
        unfold X5_measure_J42 at hf
        obtain ⟨i_4, hf⟩ := chk_some hf
        obtain ⟨f42, ef42, hf⟩ := lt_some hf
        refine r_iast (f := (O_far ro)) hc 2 rfl i_4 dX5_measure_42 f42 ef42 (wO cy A (O_set_far ro f42) ++ wH cy B1 h) rfl ?_
        refine r_iinc hc 3 [(3, .int (x3 + (1 : Int32))), (0, .ref (A 0)), (1, .ref (B1 0)), (2, .int x2)] (x3 + (1 : Int32)) dX5_measure_43 rfl rfl (by decide) rfl ?_
        refine r_goto hc 2 dX5_measure_46 (by decide) ?_
        exact V.sub [1, 2, 3, 0] rfl (ih2 (O_set_far ro f42) x2 (x3 + (1 : Int32)) hf)
      intro ro x2 x3 hf
      replace hf : X5_measure_B2 (it X5_measure_B2 (fun _ _ _ _ => none) n2) ro h x2 x3 = some q := hf
      unfold X5_measure_B2 at hf
      refine r_iload_n hc 3 dX5_measure_2 rfl ?_
      refine r_aload_n hc 1 dX5_measure_3 rfl ?_
      refine r_get (v := .int (H_rooms h)) hc iw_X1 3 rfl rfl 0 (by decide) mw_84 rfl dX5_measure_4 ?_
      refine r_icmp_ge hc 49 dX5_measure_7 (by decide) (fun c_1 => ?_) (fun c_1 => ?_)
      · have hf := o_pos c_1 hf
        refine r_iconst hc (0 : Int32) dX5_measure_49 rfl ?_
        refine r_istore_n hc [(3, .int (0 : Int32)), (0, .ref (A 0)), (1, .ref (B1 0)), (2, .int x2)] dX5_measure_50 (by decide) rfl ?_
        exact V.sub [1, 2, 0] rfl (L51 FU ro (0 : Int32) hf)
      · have hf := o_neg c_1 hf
        refine r_aload_n hc 0 dX5_measure_10 rfl ?_
        refine r_get (v := .ref (A 1)) hc iw_X5 0 rfl rfl 0 (by decide) mw_249 rfl dX5_measure_11 ?_
        refine r_iload_n hc 3 dX5_measure_14 rfl ?_
        refine r_bipush hc (100 : Int32) dX5_measure_15 rfl ?_
        refine r_aload_n hc 1 dX5_measure_17 rfl ?_
        refine r_iload_n hc 3 dX5_measure_18 rfl ?_
        obtain ⟨q19, hq19, hf⟩ := o_bind hf
        refine r_callVi (ws' := (wO cy A ro ++ wH cy B1 h)) (As := [.int x3]) (rest := [.int (100 : Int32), .int x3, .ref (A 1)]) hc (c_X1_count B1 h x3 q19 hq19) kv_X1_count mw_749 0 rfl rfl [3, 4, 5, 6, 7, 8, 9, 10, 11, 12] [0, 1, 2] [0, 1, 2, 3, 4, 5, 6, 7, 8, 9, 10, 11, 12] ⟨rfl, rfl, rfl, rfl, rfl, rfl, rfl⟩ rfl rfl (Nat.le_of_ble_eq_true rfl) ⟨by decide, by decide⟩ dX5_measure_19 ?_
        refine r_imul hc dX5_measure_22 ?_
        refine r_iconst hc (1 : Int32) dX5_measure_23 rfl ?_
        refine r_iadd hc dX5_measure_24 ?_
        obtain ⟨i_2, hf⟩ := chk_some hf
        obtain ⟨f25, ef25, hf⟩ := lt_some hf
        refine r_iast (f := (O_toll ro)) hc 1 rfl i_2 dX5_measure_25 f25 ef25 (wO cy A (O_set_toll ro f25) ++ wH cy B1 h) rfl ?_
        refine r_aload_n hc 0 dX5_measure_26 rfl ?_
        refine r_get (v := .ref (A 2)) hc iw_X5 0 rfl rfl 1 (by decide) mw_250 rfl dX5_measure_27 ?_
        refine r_iload_n hc 3 dX5_measure_30 rfl ?_
        refine r_iload_n hc 3 dX5_measure_31 rfl ?_
        refine r_iload_n hc 2 dX5_measure_32 rfl ?_
        refine r_icmp_ne hc 40 dX5_measure_33 (by decide) (fun c_3 => ?_) (fun c_3 => ?_)
        · have hf := o_neg c_3 hf
          refine r_ldc (v := (1000000 : Int32)) hc mw_750 dX5_measure_40 ?_
          exact V.sub [0, 1, 2, 3] rfl (J42 (O_set_toll ro f25) x2 x3 (1000000 : Int32) x3 hf)
        · have hf := o_pos c_3 hf
          refine r_iconst hc (0 : Int32) dX5_measure_36 rfl ?_
          refine r_goto hc 42 dX5_measure_37 (by decide) ?_
          exact V.sub [0, 1, 2, 3] rfl (J42 (O_set_toll ro f25) x2 x3 (0 : Int32) x3 hf)
  show V K (wO cy A ro ++ wH cy B1 h) 0 [(0, .ref (A 0)), (1, .ref (B1 0)), (2, .int x2)] []
  unfold f_X5_measure at hf
  refine r_iconst hc (0 : Int32) dX5_measure_0 rfl ?_
  refine r_istore_n hc [(3, .int (0 : Int32)), (0, .ref (A 0)), (1, .ref (B1 0)), (2, .int x2)] dX5_measure_1 (by decide) rfl ?_
  exact V.sub [1, 2, 3, 0] rfl (L2 FU ro x2 (0 : Int32) hf)
def f_X5_excusesFrom (ro : OS) (x1 : Int32) : Option (Int32) :=
  (chk x1 6 (if ((O_far ro) (x1).toNatClampNeg) < (1000000 : Int32) then (chk x1 6 (some ((((O_far ro) (x1).toNatClampNeg) / (100 : Int32))))) else (some ((-6 : Int32)))))
theorem kv_X5_excusesFrom : KV RX5 yX5_excusesFrom cX5_excusesFrom 2 (some .int) 1 := ⟨mw_758, mw_759, mw_61, mw_760, by decide +kernel⟩
set_option maxHeartbeats 8000000 in
set_option maxRecDepth 100000 in
theorem c_X5_excusesFrom {l : Launch} {E : va_G} {cy : Nat → ClassId} (A : Nat → Nat) (ro : OS) (x1 : Int32) (q : Int32) (hf : f_X5_excusesFrom ro x1 = some q) : Ci l yX5_excusesFrom cX5_excusesFrom 2 (some .int) 1 60 E cy [.ref (A 0), .int x1] (wO cy A ro) q (wO cy A ro) := by
  refine Ci.of RX5 (by decide) rfl (Nat.le_of_ble_eq_true rfl) ?_
  intro K hK
  have hc := hK.cq
  show V K (wO cy A ro) 0 [(0, .ref (A 0)), (1, .int x1)] []
  unfold f_X5_excusesFrom at hf
  refine r_aload_n hc 0 dX5_excusesFrom_0 rfl ?_
  refine r_get (v := .ref (A 2)) hc iw_X5 0 rfl rfl 1 (by decide) mw_250 rfl dX5_excusesFrom_1 ?_
  refine r_iload_n hc 1 dX5_excusesFrom_4 rfl ?_
  obtain ⟨i_1, hf⟩ := chk_some hf
  refine r_iald (f := (O_far ro)) hc 2 rfl i_1 dX5_excusesFrom_5 ?_
  refine r_ldc (v := (1000000 : Int32)) hc mw_750 dX5_excusesFrom_6 ?_
  refine r_icmp_lt hc 16 dX5_excusesFrom_8 (by decide) (fun c_2 => ?_) (fun c_2 => ?_)
  · have hf := o_pos c_2 hf
    refine r_aload_n hc 0 dX5_excusesFrom_16 rfl ?_
    refine r_get (v := .ref (A 2)) hc iw_X5 0 rfl rfl 1 (by decide) mw_250 rfl dX5_excusesFrom_17 ?_
    refine r_iload_n hc 1 dX5_excusesFrom_20 rfl ?_
    obtain ⟨i_3, hf⟩ := chk_some hf
    refine r_iald (f := (O_far ro)) hc 2 rfl i_3 dX5_excusesFrom_21 ?_
    refine r_bipush hc (100 : Int32) dX5_excusesFrom_22 rfl ?_
    refine r_idiv hc dX5_excusesFrom_24 (by decide) ?_
    exact r_iret hK (Option.some.inj hf) rfl dX5_excusesFrom_25
  · have hf := o_neg c_2 hf
    refine r_bipush hc (-6 : Int32) dX5_excusesFrom_11 rfl ?_
    refine r_goto hc 25 dX5_excusesFrom_13 (by decide) ?_
    exact r_iret hK (Option.some.inj hf) rfl dX5_excusesFrom_25
def X5_follower_J43 (k2 : OS → HS → Int32 → Int32 → Option (Int32)) (ro : OS) (h : HS) (x2 : Int32) (x3 : Int32) : Option (Int32) :=
  (k2 ro h x2 (x3 + (1 : Int32)))
def X5_follower_B2 (k2 : OS → HS → Int32 → Int32 → Option (Int32)) (ro : OS) (h : HS) (x2 : Int32) (x3 : Int32) : Option (Int32) :=
  (if (H_rooms h) ≤ x3 then (some (x2)) else ((f_X1_widthOf h x2 x3).bind fun q13 => (if q13 ≤ 0 then (X5_follower_J43 k2 ro h x2 x3) else (chk x3 6 (chk x3 6 (chk x2 6 (if (((O_toll ro) (x3).toNatClampNeg) + ((O_far ro) (x3).toNatClampNeg)) = ((O_far ro) (x2).toNatClampNeg) then (some (x3)) else (X5_follower_J43 k2 ro h x2 x3))))))))
def f_X5_follower (ro : OS) (h : HS) (x2 : Int32) : Option (Int32) :=
  (it X5_follower_B2 (fun _ _ _ _ => none) FU ro h x2 (0 : Int32))
theorem kv_X5_follower : KV RX5 yX5_follower cX5_follower 4 (some .int) 2 := ⟨mw_767, mw_18, mw_61, mw_768, by decide +kernel⟩
set_option maxHeartbeats 8000000 in
set_option maxRecDepth 100000 in
theorem c_X5_follower {l : Launch} {E : va_G} {cy : Nat → ClassId} (A : Nat → Nat) (B1 : Nat → Nat) (ro : OS) (h : HS) (x2 : Int32) (q : Int32) (hf : f_X5_follower ro h x2 = some q) : Ci l yX5_follower cX5_follower 4 (some .int) 2 82 E cy [.ref (A 0), .ref (B1 0), .int x2] (wO cy A ro ++ wH cy B1 h) q (wO cy A ro ++ wH cy B1 h) := by
  refine Ci.of RX5 (by decide) rfl (Nat.le_of_ble_eq_true rfl) ?_
  intro K hK
  have hc := hK.cq
  have L2 : ∀ (n2 : Nat) (x2 : Int32) (x3 : Int32), it X5_follower_B2 (fun _ _ _ _ => none) n2 ro h x2 x3 = some q → V K (wO cy A ro ++ wH cy B1 h) 2 [(0, .ref (A 0)), (1, .ref (B1 0)), (2, .int x2), (3, .int x3)] [] := by
    intro n2
    induction n2 with
    | zero => intro x2 x3 hf; exact (o_none hf).elim
    | succ n2 ih2 =>
      have J43 : ∀ (x2 : Int32) (x3 : Int32), X5_follower_J43 (it X5_follower_B2 (fun _ _ _ _ => none) n2) ro h x2 x3 = some q → V K (wO cy A ro ++ wH cy B1 h) 43 [(0, .ref (A 0)), (1, .ref (B1 0)), (2, .int x2), (3, .int x3)] [] := by
        intro x2 x3 hf
        unfold X5_follower_J43 at hf
        refine r_iinc hc 3 [(3, .int (x3 + (1 : Int32))), (0, .ref (A 0)), (1, .ref (B1 0)), (2, .int x2)] (x3 + (1 : Int32)) dX5_follower_43 rfl rfl (by decide) rfl ?_
        refine r_goto hc 2 dX5_follower_46 (by decide) ?_
        exact V.sub [1, 2, 3, 0] rfl (ih2 x2 (x3 + (1 : Int32)) hf)
      intro x2 x3 hf
      replace hf : X5_follower_B2 (it X5_follower_B2 (fun _ _ _ _ => none) n2) ro h x2 x3 = some q := hf
      unfold X5_follower_B2 at hf
      refine r_iload_n hc 3 dX5_follower_2 rfl ?_
      refine r_aload_n hc 1 dX5_follower_3 rfl ?_
      refine r_get (v := .int (H_rooms h)) hc iw_X1 3 rfl rfl 0 (by decide) mw_84 rfl dX5_follower_4 ?_
      refine r_icmp_ge hc 49 dX5_follower_7 (by decide) (fun c_1 => ?_) (fun c_1 => ?_)
      · have hf := o_pos c_1 hf
        refine r_iload_n hc 2 dX5_follower_49 rfl ?_
        exact r_iret hK (Option.some.inj hf) rfl dX5_follower_50
      · have hf := o_neg c_1 hf
        refine r_aload_n hc 1 dX5_follower_10 rfl ?_
        refine r_iload_n hc 2 dX5_follower_11 rfl ?_
        refine r_iload_n hc 3 dX5_follower_12 rfl ?_
        obtain ⟨q13, hq13, hf⟩ := o_bind hf
        refine r_callVi (ws' := (wO cy A ro ++ wH cy B1 h)) (As := [.int x2, .int x3]) (rest := []) hc (c_X1_widthOf B1 h x2 x3 q13 hq13) kv_X1_widthOf mw_755 0 rfl rfl [3, 4, 5, 6, 7, 8, 9, 10, 11, 12] [0, 1, 2] [0, 1, 2, 3, 4, 5, 6, 7, 8, 9, 10, 11, 12] ⟨rfl, rfl, rfl, rfl, rfl, rfl, rfl⟩ rfl rfl (Nat.le_of_ble_eq_true rfl) ⟨by decide, by decide⟩ dX5_follower_13 ?_
        refine r_if_le hc 43 dX5_follower_16 (by decide) (fun c_2 => ?_) (fun c_2 => ?_)
        · have hf := o_pos c_2 hf
          exact V.sub [0, 1, 2, 3] rfl (J43 x2 x3 hf)
        · have hf := o_neg c_2 hf
          refine r_aload_n hc 0 dX5_follower_19 rfl ?_
          refine r_get (v := .ref (A 1)) hc iw_X5 0 rfl rfl 0 (by decide) mw_249 rfl dX5_follower_20 ?_
          refine r_iload_n hc 3 dX5_follower_23 rfl ?_
          obtain ⟨i_3, hf⟩ := chk_some hf
          refine r_iald (f := (O_toll ro)) hc 1 rfl i_3 dX5_follower_24 ?_
          refine r_aload_n hc 0 dX5_follower_25 rfl ?_
          refine r_get (v := .ref (A 2)) hc iw_X5 0 rfl rfl 1 (by decide) mw_250 rfl dX5_follower_26 ?_
          refine r_iload_n hc 3 dX5_follower_29 rfl ?_
          obtain ⟨i_4, hf⟩ := chk_some hf
          refine r_iald (f := (O_far ro)) hc 2 rfl i_4 dX5_follower_30 ?_
          refine r_iadd hc dX5_follower_31 ?_
          refine r_aload_n hc 0 dX5_follower_32 rfl ?_
          refine r_get (v := .ref (A 2)) hc iw_X5 0 rfl rfl 1 (by decide) mw_250 rfl dX5_follower_33 ?_
          refine r_iload_n hc 2 dX5_follower_36 rfl ?_
          obtain ⟨i_5, hf⟩ := chk_some hf
          refine r_iald (f := (O_far ro)) hc 2 rfl i_5 dX5_follower_37 ?_
          refine r_icmp_ne hc 43 dX5_follower_38 (by decide) (fun c_6 => ?_) (fun c_6 => ?_)
          · have hf := o_neg c_6 hf
            exact V.sub [0, 1, 2, 3] rfl (J43 x2 x3 hf)
          · have hf := o_pos c_6 hf
            refine r_iload_n hc 3 dX5_follower_41 rfl ?_
            exact r_iret hK (Option.some.inj hf) rfl dX5_follower_42
  show V K (wO cy A ro ++ wH cy B1 h) 0 [(0, .ref (A 0)), (1, .ref (B1 0)), (2, .int x2)] []
  unfold f_X5_follower at hf
  refine r_iconst hc (0 : Int32) dX5_follower_0 rfl ?_
  refine r_istore_n hc [(3, .int (0 : Int32)), (0, .ref (A 0)), (1, .ref (B1 0)), (2, .int x2)] dX5_follower_1 (by decide) rfl ?_
  exact V.sub [1, 2, 3, 0] rfl (L2 FU x2 (0 : Int32) hf)
def X5_step_B30 (k30 : OS → HS → Int32 → Int32 → Int32 → Option (Int32)) (ro : OS) (h : HS) (x3 : Int32) (x4 : Int32) (x5 : Int32) : Option (Int32) :=
  (if x3 ≤ x5 then (some (x4)) else (chk x4 6 (if ((O_far ro) (x4).toNatClampNeg) = 0 then (some ((-6 : Int32))) else ((f_X5_follower ro h x4).bind fun q53 => (k30 ro h x3 q53 (x5 + (1 : Int32)))))))
def f_X5_step (ro : OS) (h : HS) (x2 : Int32) (x3 : Int32) : Option (Int32) :=
  (if x3 < 0 then (some ((-6 : Int32))) else (if (6 : Int32) ≤ x3 then (some ((-6 : Int32))) else (chk x2 6 (if ((O_far ro) (x2).toNatClampNeg) < (1000000 : Int32) then (it X5_step_B30 (fun _ _ _ _ _ => none) FU ro h x3 x2 (0 : Int32)) else (some ((-6 : Int32)))))))
theorem kv_X5_step : KV RX5 yX5_step cX5_step 6 (some .int) 3 := ⟨mw_762, mw_763, mw_61, mw_764, by decide +kernel⟩
set_option maxHeartbeats 8000000 in
set_option maxRecDepth 100000 in
theorem c_X5_step {l : Launch} {E : va_G} {cy : Nat → ClassId} (A : Nat → Nat) (B1 : Nat → Nat) (ro : OS) (h : HS) (x2 : Int32) (x3 : Int32) (q : Int32) (hf : f_X5_step ro h x2 x3 = some q) : Ci l yX5_step cX5_step 6 (some .int) 3 105 E cy [.ref (A 0), .ref (B1 0), .int x2, .int x3] (wO cy A ro ++ wH cy B1 h) q (wO cy A ro ++ wH cy B1 h) := by
  refine Ci.of RX5 (by decide) rfl (Nat.le_of_ble_eq_true rfl) ?_
  intro K hK
  have hc := hK.cq
  have L30 : ∀ (n30 : Nat) (x3 : Int32) (x4 : Int32) (x5 : Int32), it X5_step_B30 (fun _ _ _ _ _ => none) n30 ro h x3 x4 x5 = some q → V K (wO cy A ro ++ wH cy B1 h) 30 [(0, .ref (A 0)), (1, .ref (B1 0)), (3, .int x3), (4, .int x4), (5, .int x5)] [] := by
    intro n30
    induction n30 with
    | zero => intro x3 x4 x5 hf; exact (o_none hf).elim
    | succ n30 ih30 =>
      intro x3 x4 x5 hf
      replace hf : X5_step_B30 (it X5_step_B30 (fun _ _ _ _ _ => none) n30) ro h x3 x4 x5 = some q := hf
      unfold X5_step_B30 at hf
      refine r_iload hc 4 dX5_step_30 rfl ?_
      refine r_iload_n hc 2 dX5_step_32 rfl ?_
      refine r_icmp_ge hc 64 dX5_step_33 (by decide) (fun c_5 => ?_) (fun c_5 => ?_)
      · have hf := o_pos c_5 hf
        refine r_iload hc 3 dX5_step_64 rfl ?_
        exact r_iret hK (Option.some.inj hf) rfl dX5_step_66
      · have hf := o_neg c_5 hf
        refine r_aload_n hc 0 dX5_step_36 rfl ?_
        refine r_get (v := .ref (A 2)) hc iw_X5 0 rfl rfl 1 (by decide) mw_250 rfl dX5_step_37 ?_
        refine r_iload hc 3 dX5_step_40 rfl ?_
        obtain ⟨i_6, hf⟩ := chk_some hf
        refine r_iald (f := (O_far ro)) hc 2 rfl i_6 dX5_step_42 ?_
        refine r_if_ne hc 49 dX5_step_43 (by decide) (fun c_7 => ?_) (fun c_7 => ?_)
        · have hf := o_neg c_7 hf
          refine r_aload_n hc 0 dX5_step_49 rfl ?_
          refine r_aload_n hc 1 dX5_step_50 rfl ?_
          refine r_iload hc 3 dX5_step_51 rfl ?_
          obtain ⟨q53, hq53, hf⟩ := o_bind hf
          refine r_callVi (ws' := (wO cy A ro ++ wH cy B1 h)) (As := [.ref (B1 0), .int x4]) (rest := []) hc (c_X5_follower A B1 ro h x4 q53 hq53) kv_X5_follower mw_765 0 rfl rfl _ _ _ (Sp_all _ _) rfl rfl (Nat.le_of_ble_eq_true rfl) ⟨by decide, by decide⟩ dX5_step_53 ?_
          refine r_istore hc [(4, .int q53), (0, .ref (A 0)), (1, .ref (B1 0)), (3, .int x3), (5, .int x5)] dX5_step_56 (by decide) rfl ?_
          refine r_iinc hc 4 [(5, .int (x5 + (1 : Int32))), (4, .int q53), (0, .ref (A 0)), (1, .ref (B1 0)), (3, .int x3)] (x5 + (1 : Int32)) dX5_step_58 rfl rfl (by decide) rfl ?_
          refine r_goto hc 30 dX5_step_61 (by decide) ?_
          exact V.sub [2, 3, 4, 1, 0] rfl (ih30 x3 q53 (x5 + (1 : Int32)) hf)
        · have hf := o_pos c_7 hf
          refine r_bipush hc (-6 : Int32) dX5_step_46 rfl ?_
          exact r_iret hK (Option.some.inj hf) rfl dX5_step_48
  show V K (wO cy A ro ++ wH cy B1 h) 0 [(0, .ref (A 0)), (1, .ref (B1 0)), (2, .int x2), (3, .int x3)] []
  unfold f_X5_step at hf
  refine r_iload_n hc 3 dX5_step_0 rfl ?_
  refine r_if_lt hc 21 dX5_step_1 (by decide) (fun c_1 => ?_) (fun c_1 => ?_)
  · have hf := o_pos c_1 hf
    refine r_bipush hc (-6 : Int32) dX5_step_21 rfl ?_
    exact r_iret hK (Option.some.inj hf) rfl dX5_step_23
  · have hf := o_neg c_1 hf
    refine r_iload_n hc 3 dX5_step_4 rfl ?_
    refine r_bipush hc (6 : Int32) dX5_step_5 rfl ?_
    refine r_icmp_ge hc 21 dX5_step_7 (by decide) (fun c_2 => ?_) (fun c_2 => ?_)
    · have hf := o_pos c_2 hf
      refine r_bipush hc (-6 : Int32) dX5_step_21 rfl ?_
      exact r_iret hK (Option.some.inj hf) rfl dX5_step_23
    · have hf := o_neg c_2 hf
      refine r_aload_n hc 0 dX5_step_10 rfl ?_
      refine r_get (v := .ref (A 2)) hc iw_X5 0 rfl rfl 1 (by decide) mw_250 rfl dX5_step_11 ?_
      refine r_iload_n hc 2 dX5_step_14 rfl ?_
      obtain ⟨i_3, hf⟩ := chk_some hf
      refine r_iald (f := (O_far ro)) hc 2 rfl i_3 dX5_step_15 ?_
      refine r_ldc (v := (1000000 : Int32)) hc mw_750 dX5_step_16 ?_
      refine r_icmp_lt hc 24 dX5_step_18 (by decide) (fun c_4 => ?_) (fun c_4 => ?_)
      · have hf := o_pos c_4 hf
        refine r_iload_n hc 2 dX5_step_24 rfl ?_
        refine r_istore hc [(4, .int x2), (0, .ref (A 0)), (1, .ref (B1 0)), (2, .int x2), (3, .int x3)] dX5_step_25 (by decide) rfl ?_
        refine r_iconst hc (0 : Int32) dX5_step_27 rfl ?_
        refine r_istore hc [(5, .int (0 : Int32)), (4, .int x2), (0, .ref (A 0)), (1, .ref (B1 0)), (2, .int x2), (3, .int x3)] dX5_step_28 (by decide) rfl ?_
        exact V.sub [2, 3, 5, 1, 0] rfl (L30 FU x3 x2 (0 : Int32) hf)
      · have hf := o_neg c_4 hf
        refine r_bipush hc (-6 : Int32) dX5_step_21 rfl ?_
        exact r_iret hK (Option.some.inj hf) rfl dX5_step_23
