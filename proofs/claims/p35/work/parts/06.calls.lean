theorem fm_of {ws : va_W} : ∀ {is : List Nat} {ws' : va_W}, is.map (fun i => ws[i]?) = ws'.map some → is.filterMap (fun i => ws[i]?) = ws'
  | [], [], _ => rfl
  | [], _ :: _, h => by simp at h
  | _ :: _, [], h => by simp at h
  | i :: is, q :: ws', h => by
    rw [List.map_cons, List.map_cons] at h
    injection h with h1 h2
    rw [List.filterMap_cons, h1, fm_of h2]
theorem fm_all {ws : va_W} : ∀ {is : List Nat}, is.all (fun i => decide (i < ws.length)) = true → is.map (fun i => ws[i]?) = (is.filterMap (fun i => ws[i]?)).map some
  | [], _ => rfl
  | i :: is, h => by
    rw [List.all_cons, Bool.and_eq_true, decide_eq_true_eq] at h
    rw [List.map_cons, List.filterMap_cons, List.getElem?_eq_getElem h.1, List.map_cons, ← fm_all h.2]
theorem va_nd_dis {is js : List Nat} (h : is.all (fun i => decide (i ∉ js)) = true) : ∀ i ∈ is, i ∉ js := fun i hi => by
  have := List.all_eq_true.mp h i hi
  simpa using this
def KV (C : String) (y : MethodName) (cc : ByteArray) (nL : Nat) (ret : Option FieldType) (n : Nat) : Prop := Cond.instanceMethod y ∈ tb ∧ Cond.selects C y y ∈ tb ∧ Cond.initialized C ∈ tb ∧ Cond.code y cc nL ret ∈ tb ∧ (y.cls = C ∧ y.cls ≠ "java/lang/invoke/MethodHandle" ∧ y.cls ≠ "java/lang/invoke/VarHandle" ∧ (parseMethodDescriptor y.desc).map (fun d => d.parameters.length) = some n)
def KS (y : MethodName) (cc : ByteArray) (nL : Nat) (ret : Option FieldType) (n : Nat) : Prop := Cond.static y ∈ tb ∧ Cond.initialized y.cls ∈ tb ∧ Cond.code y cc nL ret ∈ tb ∧ (y.cls ≠ "java/lang/invoke/MethodHandle" ∧ y.cls ≠ "java/lang/invoke/VarHandle" ∧ (parseMethodDescriptor y.desc).map (fun d => d.parameters.length) = some n)
theorem KV.good {own C : String} {idx : Nat} {y : MethodName} {cc : ByteArray} {nL : Nat} {ret : Option FieldType} {n : Nat} (h : KV C y cc nL ret n) (hm : Cond.methodLink own idx y ∈ tb) : GoodIn tb (wsV own idx C y (Cond.code y cc nL ret :: tb)) := by
  obtain ⟨h1, h2, h3, h4, -⟩ := h
  intro w hw
  have hw' : w = Cond.methodLink own idx y ∨ w = Cond.instanceMethod y ∨ w = Cond.selects C y y ∨ w = Cond.initialized C ∨ w = Cond.code y cc nL ret ∨ w ∈ tb := by simpa [wsV] using hw
  rcases hw' with rfl | rfl | rfl | rfl | rfl | h
  · exact tb_good _ hm
  · exact tb_good _ h1
  · exact tb_good _ h2
  · exact tb_good _ h3
  · exact tb_good _ h4
  · exact tb_good _ h
theorem KS.good {own : String} {idx : Nat} {y : MethodName} {cc : ByteArray} {nL : Nat} {ret : Option FieldType} {n : Nat} (h : KS y cc nL ret n) (hm : Cond.methodLink own idx y ∈ tb) : GoodIn tb (va_wsS own idx y (Cond.code y cc nL ret :: tb)) := by
  obtain ⟨h1, h2, h3, -⟩ := h
  intro w hw
  have hw' : w = Cond.methodLink own idx y ∨ w = Cond.static y ∨ w = Cond.initialized y.cls ∨ w = Cond.code y cc nL ret ∨ w ∈ tb := by simpa [va_wsS] using hw
  rcases hw' with rfl | rfl | rfl | rfl | h
  · exact tb_good _ hm
  · exact tb_good _ h1
  · exact tb_good _ h2
  · exact tb_good _ h3
  · exact tb_good _ h
theorem KS.goodN {y : MethodName} {cc : ByteArray} {nL : Nat} {ret : Option FieldType} {n : Nat} (h : KS y cc nL ret n) : GoodIn tb (Cond.code y cc nL ret :: tb) := by
  intro w hw
  rcases List.mem_cons.mp hw with rfl | h'
  · exact tb_good _ h.2.2.1
  · exact tb_good _ h'
/-- where the callee's cells lie in the caller's world, and what the world is behind the call -/
def Sp (ws wc wc' ws' : va_W) (isC isR isP : List Nat) : Prop := isC.map (fun i => ws[i]?) = wc.map some ∧ va_nd isC = true ∧ isR.all (fun i => decide (i < ws.length)) = true ∧ va_nd isR = true ∧ isR.all (fun i => decide (i ∉ isC)) = true ∧ isP.map (fun i => (isR.filterMap (fun i => ws[i]?) ++ wc')[i]?) = ws'.map some ∧ va_nd isP = true
section R6
variable {K : Kx} {cc : ByteArray} {nL : Nat} {own : String} {l : Launch} {R : Room} {E : va_G} {cy : Nat → ClassId} {ws ws' wc wc' : va_W} {pc : Nat} {lv : List (Nat × Value)} {rest st As : List Value} {y : MethodName} {cc' : ByteArray} {nL' fr lo idx n : Nat} {ret : Option FieldType} {C : String} {b : Nat}
theorem r_callVi (hc : Cq K cc nL own l R E cy) {r : Int32} (hM : Ci l y cc' nL' ret fr lo E cy (.ref b :: As) wc r wc') (hk : KV C y cc' nL' ret n) (hm : Cond.methodLink own idx y ∈ tb) (q0 : Nat) {ci N : Nat} {T : u_T} {fs : List Value} (he : wc[q0]? = some (b, .inr (ci, fs))) (hcl : vwCl[ci]? = some (C, T, N)) (isC isR isP : List Nat) (sp : Sp ws wc wc' ws' isC isR isP) (hn : As.length = n) (hst : st = As.reverse ++ .ref b :: rest) (hroom : (rest.map fun v => v.category).sum ≤ 8) (hrm : fr + 1 ≤ R.frames ∧ 8 + (nL' + 11) + lo ≤ R.locals) (hd : decode cc pc = .ok (.invokevirtual idx, 3)) (nx : V K ws' (pc + 3) lv (.int r :: rest)) : V K ws pc lv st := by
  obtain ⟨hc, rfl, rfl, rfl, rfl, rfl, rfl, rfl⟩ := hc
  obtain ⟨p, l, e, R, s, m, args, below, meth, c, cc, nL, own, E, cy, A, Q, cs⟩ := K
  obtain ⟨hC, hCn, hRa, hRn, hdis, hPp, hPn⟩ := sp
  intro H locs ls hP hD hS hl
  have hPc := hP.sub (ws' := wc) isC (fm_of hC)
  have hDc := hD.sub (ws' := wc) isC hCn hC
  have hFc := va_free (wc := wc) hD hS hc.2.2.2.2.2.2.1 isC hC
  refine va_calli (va_runV (As := As) (rest := rest) ⟨hc.1, hc.2.1, hc.2.2.1, hc.2.2.2.1, hc.2.2.2.2.1⟩ (hM H.size) (cwV n hc.2.2.2.2.1 (hk.good hm) rfl rfl rfl hk.2.2.2.2 hrm) ⟨fun a U g mk q => by obtain ⟨q0, q1, qP, qK, qD, qN⟩ := q; exact ⟨q0, q1, qP, va_K.moved (u := U) (U := U.calling g mk a) (Vm.Alike.refl U.vm) qK, qD, Nw.same (u := U) (U := U.calling g mk a) rfl qN⟩, va_recv hc.2.2.2.2.2.1 hPc hcl he, fun U hU hW => ⟨rfl, by rw [hU], by rw [hU]; exact hPc, va_K.moved hW.alike hc.2.2.2.2.2.1, hDc.weaken (fun _ _ _ _ => trivial), Nw.warm hW hc.2.2.2.2.2.2.2.2.2⟩⟩ rfl hn hl.1 hst (lv_room hroom) hd ⟨hc.2.2.2.2.2.2.2.1, hc.2.2.2.2.2.2.2.2.1⟩) hS (fun q _ h => hFc q h) hFc (fun r' u t H1 locs1 ht hvm hw hB hz1 hk1 hS1 => ?_)
  · obtain ⟨hP1, hK1, hD1⟩ := hB
    rw [ht] at hP1
    have hw : r' = r := hw
    subst hw
    obtain ⟨hP2, hD2⟩ := va_join hP hD isC isR hC (fm_all hRa) hRn (va_nd_dis hdis) hk1 hFc hP1 hD1
    exact nx H1 locs1 ls (hP2.sub isP (fm_of hPp)) (hD2.sub isP hPn hPp) hS1 hl
theorem r_callSi (hc : Cq K cc nL own l R E cy) {r : Int32} (hM : Ci l y cc' nL' ret fr lo E cy As wc r wc') (hk : KS y cc' nL' ret n) (hm : Cond.methodLink own idx y ∈ tb) (isC isR isP : List Nat) (sp : Sp ws wc wc' ws' isC isR isP) (hn : As.length = n) (hst : st = As.reverse ++ rest) (hroom : (rest.map fun v => v.category).sum ≤ 8) (hrm : fr + 1 ≤ R.frames ∧ 8 + (nL' + 11) + lo ≤ R.locals) (hd : decode cc pc = .ok (.invokestatic idx, 3)) (nx : V K ws' (pc + 3) lv (.int r :: rest)) : V K ws pc lv st := by
  obtain ⟨hc, rfl, rfl, rfl, rfl, rfl, rfl, rfl⟩ := hc
  obtain ⟨p, l, e, R, s, m, args, below, meth, c, cc, nL, own, E, cy, A, Q, cs⟩ := K
  obtain ⟨hC, hCn, hRa, hRn, hdis, hPp, hPn⟩ := sp
  intro H locs ls hP hD hS hl
  have hPc := hP.sub (ws' := wc) isC (fm_of hC)
  have hDc := hD.sub (ws' := wc) isC hCn hC
  have hFc := va_free (wc := wc) hD hS hc.2.2.2.2.2.2.1 isC hC
  refine va_calli (va_runS (As := As) (rest := rest) ⟨hc.1, hc.2.1, hc.2.2.1, hc.2.2.2.1, hc.2.2.2.2.1⟩ (hM H.size) (va_cwS n hc.2.2.2.2.1 (hk.good hm) rfl rfl rfl hk.2.2.2 hrm) ⟨fun a U g mk q => by obtain ⟨q0, q1, qP, qK, qD, qN⟩ := q; exact ⟨q0, q1, qP, va_K.moved (u := U) (U := U.calling g mk a) (Vm.Alike.refl U.vm) qK, qD, Nw.same (u := U) (U := U.calling g mk a) rfl qN⟩, fun U hU hW => ⟨rfl, by rw [hU], by rw [hU]; exact hPc, va_K.moved hW.alike hc.2.2.2.2.2.1, hDc.weaken (fun _ _ _ _ => trivial), Nw.warm hW hc.2.2.2.2.2.2.2.2.2⟩⟩ rfl hn hl.1 hst (lv_room hroom) hd ⟨hc.2.2.2.2.2.2.2.1, hc.2.2.2.2.2.2.2.2.1⟩) hS (fun q _ h => hFc q h) hFc (fun r' u t H1 locs1 ht hvm hw hB hz1 hk1 hS1 => ?_)
  · obtain ⟨hP1, hK1, hD1⟩ := hB
    rw [ht] at hP1
    have hw : r' = r := hw
    subst hw
    obtain ⟨hP2, hD2⟩ := va_join hP hD isC isR hC (fm_all hRa) hRn (va_nd_dis hdis) hk1 hFc hP1 hD1
    exact nx H1 locs1 ls (hP2.sub isP (fm_of hPp)) (hD2.sub isP hPn hPp) hS1 hl
theorem r_callSNi (hc : Cq K cc nL own l R E cy) {r : Int32} (hM : Ci l y cc' nL' ret fr lo E cy As wc r wc') (hk : KS y cc' nL' ret n) (hnest : ∀ U, Nw U → va_Nw (.methodLinkNest own idx y "KitchenDrift") U) (isC isR isP : List Nat) (sp : Sp ws wc wc' ws' isC isR isP) (hn : As.length = n) (hst : st = As.reverse ++ rest) (hroom : (rest.map fun v => v.category).sum ≤ 8) (hrm : fr + 1 ≤ R.frames ∧ 8 + (nL' + 11) + lo ≤ R.locals) (hd : decode cc pc = .ok (.invokestatic idx, 3)) (nx : V K ws' (pc + 3) lv (.int r :: rest)) : V K ws pc lv st := by
  obtain ⟨hc, rfl, rfl, rfl, rfl, rfl, rfl, rfl⟩ := hc
  obtain ⟨p, l, e, R, s, m, args, below, meth, c, cc, nL, own, E, cy, A, Q, cs⟩ := K
  obtain ⟨hC, hCn, hRa, hRn, hdis, hPp, hPn⟩ := sp
  intro H locs ls hP hD hS hl
  have hPc := hP.sub (ws' := wc) isC (fm_of hC)
  have hDc := hD.sub (ws' := wc) isC hCn hC
  have hFc := va_free (wc := wc) hD hS hc.2.2.2.2.2.2.1 isC hC
  refine va_calli (va_runSN (As := As) (rest := rest) ⟨hc.1, hc.2.1, hc.2.2.1, hc.2.2.2.1, hc.2.2.2.2.1⟩ (hM H.size) ⟨va_cnB n hc.2.2.2.2.1 hk.goodN rfl rfl rfl (hnest _ hc.2.2.2.2.2.2.2.2.2) (hc.2.2.2.2.1 _ hk.2.1) hk.2.2.2 hrm, hc.2.2.2.2.1 _ hk.1, trivial⟩ ⟨fun a U g mk q => by obtain ⟨q0, q1, qP, qK, qD, qN⟩ := q; exact ⟨q0, q1, qP, va_K.moved (u := U) (U := U.calling g mk a) (Vm.Alike.refl U.vm) qK, qD, Nw.same (u := U) (U := U.calling g mk a) rfl qN⟩, fun U hU hW => ⟨rfl, by rw [hU], by rw [hU]; exact hPc, va_K.moved hW.alike hc.2.2.2.2.2.1, hDc.weaken (fun _ _ _ _ => trivial), Nw.warm hW hc.2.2.2.2.2.2.2.2.2⟩⟩ rfl hn hl.1 hst (lv_room hroom) hd ⟨hc.2.2.2.2.2.2.2.1, hc.2.2.2.2.2.2.2.2.1⟩) hS (fun q _ h => hFc q h) hFc (fun r' u t H1 locs1 ht hvm hw hB hz1 hk1 hS1 => ?_)
  · obtain ⟨hP1, hK1, hD1⟩ := hB
    rw [ht] at hP1
    have hw : r' = r := hw
    subst hw
    obtain ⟨hP2, hD2⟩ := va_join hP hD isC isR hC (fm_all hRa) hRn (va_nd_dis hdis) hk1 hFc hP1 hD1
    exact nx H1 locs1 ls (hP2.sub isP (fm_of hPp)) (hD2.sub isP hPn hPp) hS1 hl
theorem r_callVl (hc : Cq K cc nL own l R E cy) {r : Int64} (hM : Cl l y cc' nL' ret fr lo E cy (.ref b :: As) wc r wc') (hk : KV C y cc' nL' ret n) (hm : Cond.methodLink own idx y ∈ tb) (q0 : Nat) {ci N : Nat} {T : u_T} {fs : List Value} (he : wc[q0]? = some (b, .inr (ci, fs))) (hcl : vwCl[ci]? = some (C, T, N)) (isC isR isP : List Nat) (sp : Sp ws wc wc' ws' isC isR isP) (hn : As.length = n) (hst : st = As.reverse ++ .ref b :: rest) (hroom : (rest.map fun v => v.category).sum ≤ 8) (hrm : fr + 1 ≤ R.frames ∧ 8 + (nL' + 11) + lo ≤ R.locals) (hd : decode cc pc = .ok (.invokevirtual idx, 3)) (nx : V K ws' (pc + 3) lv (.long r :: rest)) : V K ws pc lv st := by
  obtain ⟨hc, rfl, rfl, rfl, rfl, rfl, rfl, rfl⟩ := hc
  obtain ⟨p, l, e, R, s, m, args, below, meth, c, cc, nL, own, E, cy, A, Q, cs⟩ := K
  obtain ⟨hC, hCn, hRa, hRn, hdis, hPp, hPn⟩ := sp
  intro H locs ls hP hD hS hl
  have hPc := hP.sub (ws' := wc) isC (fm_of hC)
  have hDc := hD.sub (ws' := wc) isC hCn hC
  have hFc := va_free (wc := wc) hD hS hc.2.2.2.2.2.2.1 isC hC
  refine va_calll (va_runV (As := As) (rest := rest) ⟨hc.1, hc.2.1, hc.2.2.1, hc.2.2.2.1, hc.2.2.2.2.1⟩ (hM H.size) (cwV n hc.2.2.2.2.1 (hk.good hm) rfl rfl rfl hk.2.2.2.2 hrm) ⟨fun a U g mk q => by obtain ⟨q0, q1, qP, qK, qD, qN⟩ := q; exact ⟨q0, q1, qP, va_K.moved (u := U) (U := U.calling g mk a) (Vm.Alike.refl U.vm) qK, qD, Nw.same (u := U) (U := U.calling g mk a) rfl qN⟩, va_recv hc.2.2.2.2.2.1 hPc hcl he, fun U hU hW => ⟨rfl, by rw [hU], by rw [hU]; exact hPc, va_K.moved hW.alike hc.2.2.2.2.2.1, hDc.weaken (fun _ _ _ _ => trivial), Nw.warm hW hc.2.2.2.2.2.2.2.2.2⟩⟩ rfl hn hl.1 hst (lv_room hroom) hd ⟨hc.2.2.2.2.2.2.2.1, hc.2.2.2.2.2.2.2.2.1⟩) hS (fun q _ h => hFc q h) hFc (fun r' u t H1 locs1 ht hvm hw hB hz1 hk1 hS1 => ?_)
  · obtain ⟨hP1, hK1, hD1⟩ := hB
    rw [ht] at hP1
    have hw : r' = r := hw
    subst hw
    obtain ⟨hP2, hD2⟩ := va_join hP hD isC isR hC (fm_all hRa) hRn (va_nd_dis hdis) hk1 hFc hP1 hD1
    exact nx H1 locs1 ls (hP2.sub isP (fm_of hPp)) (hD2.sub isP hPn hPp) hS1 hl
theorem r_callSl (hc : Cq K cc nL own l R E cy) {r : Int64} (hM : Cl l y cc' nL' ret fr lo E cy As wc r wc') (hk : KS y cc' nL' ret n) (hm : Cond.methodLink own idx y ∈ tb) (isC isR isP : List Nat) (sp : Sp ws wc wc' ws' isC isR isP) (hn : As.length = n) (hst : st = As.reverse ++ rest) (hroom : (rest.map fun v => v.category).sum ≤ 8) (hrm : fr + 1 ≤ R.frames ∧ 8 + (nL' + 11) + lo ≤ R.locals) (hd : decode cc pc = .ok (.invokestatic idx, 3)) (nx : V K ws' (pc + 3) lv (.long r :: rest)) : V K ws pc lv st := by
  obtain ⟨hc, rfl, rfl, rfl, rfl, rfl, rfl, rfl⟩ := hc
  obtain ⟨p, l, e, R, s, m, args, below, meth, c, cc, nL, own, E, cy, A, Q, cs⟩ := K
  obtain ⟨hC, hCn, hRa, hRn, hdis, hPp, hPn⟩ := sp
  intro H locs ls hP hD hS hl
  have hPc := hP.sub (ws' := wc) isC (fm_of hC)
  have hDc := hD.sub (ws' := wc) isC hCn hC
  have hFc := va_free (wc := wc) hD hS hc.2.2.2.2.2.2.1 isC hC
  refine va_calll (va_runS (As := As) (rest := rest) ⟨hc.1, hc.2.1, hc.2.2.1, hc.2.2.2.1, hc.2.2.2.2.1⟩ (hM H.size) (va_cwS n hc.2.2.2.2.1 (hk.good hm) rfl rfl rfl hk.2.2.2 hrm) ⟨fun a U g mk q => by obtain ⟨q0, q1, qP, qK, qD, qN⟩ := q; exact ⟨q0, q1, qP, va_K.moved (u := U) (U := U.calling g mk a) (Vm.Alike.refl U.vm) qK, qD, Nw.same (u := U) (U := U.calling g mk a) rfl qN⟩, fun U hU hW => ⟨rfl, by rw [hU], by rw [hU]; exact hPc, va_K.moved hW.alike hc.2.2.2.2.2.1, hDc.weaken (fun _ _ _ _ => trivial), Nw.warm hW hc.2.2.2.2.2.2.2.2.2⟩⟩ rfl hn hl.1 hst (lv_room hroom) hd ⟨hc.2.2.2.2.2.2.2.1, hc.2.2.2.2.2.2.2.2.1⟩) hS (fun q _ h => hFc q h) hFc (fun r' u t H1 locs1 ht hvm hw hB hz1 hk1 hS1 => ?_)
  · obtain ⟨hP1, hK1, hD1⟩ := hB
    rw [ht] at hP1
    have hw : r' = r := hw
    subst hw
    obtain ⟨hP2, hD2⟩ := va_join hP hD isC isR hC (fm_all hRa) hRn (va_nd_dis hdis) hk1 hFc hP1 hD1
    exact nx H1 locs1 ls (hP2.sub isP (fm_of hPp)) (hD2.sub isP hPn hPp) hS1 hl
theorem r_callVv (hc : Cq K cc nL own l R E cy)  (hM : Cv l y cc' nL' ret fr lo E cy (.ref b :: As) wc  wc') (hk : KV C y cc' nL' ret n) (hm : Cond.methodLink own idx y ∈ tb) (q0 : Nat) {ci N : Nat} {T : u_T} {fs : List Value} (he : wc[q0]? = some (b, .inr (ci, fs))) (hcl : vwCl[ci]? = some (C, T, N)) (isC isR isP : List Nat) (sp : Sp ws wc wc' ws' isC isR isP) (hn : As.length = n) (hst : st = As.reverse ++ .ref b :: rest) (hroom : (rest.map fun v => v.category).sum ≤ 8) (hrm : fr + 1 ≤ R.frames ∧ 8 + (nL' + 11) + lo ≤ R.locals) (hd : decode cc pc = .ok (.invokevirtual idx, 3)) (nx : V K ws' (pc + 3) lv rest) : V K ws pc lv st := by
  obtain ⟨hc, rfl, rfl, rfl, rfl, rfl, rfl, rfl⟩ := hc
  obtain ⟨p, l, e, R, s, m, args, below, meth, c, cc, nL, own, E, cy, A, Q, cs⟩ := K
  obtain ⟨hC, hCn, hRa, hRn, hdis, hPp, hPn⟩ := sp
  intro H locs ls hP hD hS hl
  have hPc := hP.sub (ws' := wc) isC (fm_of hC)
  have hDc := hD.sub (ws' := wc) isC hCn hC
  have hFc := va_free (wc := wc) hD hS hc.2.2.2.2.2.2.1 isC hC
  refine va_callv (va_runV (As := As) (rest := rest) ⟨hc.1, hc.2.1, hc.2.2.1, hc.2.2.2.1, hc.2.2.2.2.1⟩ (hM H.size) (cwV n hc.2.2.2.2.1 (hk.good hm) rfl rfl rfl hk.2.2.2.2 hrm) ⟨fun a U g mk q => by obtain ⟨q0, q1, qP, qK, qD, qN⟩ := q; exact ⟨q0, q1, qP, va_K.moved (u := U) (U := U.calling g mk a) (Vm.Alike.refl U.vm) qK, qD, Nw.same (u := U) (U := U.calling g mk a) rfl qN⟩, va_recv hc.2.2.2.2.2.1 hPc hcl he, fun U hU hW => ⟨rfl, by rw [hU], by rw [hU]; exact hPc, va_K.moved hW.alike hc.2.2.2.2.2.1, hDc.weaken (fun _ _ _ _ => trivial), Nw.warm hW hc.2.2.2.2.2.2.2.2.2⟩⟩ rfl hn hl.1 hst (lv_room hroom) hd ⟨hc.2.2.2.2.2.2.2.1, hc.2.2.2.2.2.2.2.2.1⟩) hS (fun q _ h => hFc q h) hFc (fun u t H1 locs1 ht hvm hw hB hz1 hk1 hS1 => ?_)
  · obtain ⟨hP1, hK1, hD1⟩ := hB
    rw [ht] at hP1
    obtain ⟨hP2, hD2⟩ := va_join hP hD isC isR hC (fm_all hRa) hRn (va_nd_dis hdis) hk1 hFc hP1 hD1
    exact nx H1 locs1 ls (hP2.sub isP (fm_of hPp)) (hD2.sub isP hPn hPp) hS1 hl
theorem r_callSv (hc : Cq K cc nL own l R E cy)  (hM : Cv l y cc' nL' ret fr lo E cy As wc  wc') (hk : KS y cc' nL' ret n) (hm : Cond.methodLink own idx y ∈ tb) (isC isR isP : List Nat) (sp : Sp ws wc wc' ws' isC isR isP) (hn : As.length = n) (hst : st = As.reverse ++ rest) (hroom : (rest.map fun v => v.category).sum ≤ 8) (hrm : fr + 1 ≤ R.frames ∧ 8 + (nL' + 11) + lo ≤ R.locals) (hd : decode cc pc = .ok (.invokestatic idx, 3)) (nx : V K ws' (pc + 3) lv rest) : V K ws pc lv st := by
  obtain ⟨hc, rfl, rfl, rfl, rfl, rfl, rfl, rfl⟩ := hc
  obtain ⟨p, l, e, R, s, m, args, below, meth, c, cc, nL, own, E, cy, A, Q, cs⟩ := K
  obtain ⟨hC, hCn, hRa, hRn, hdis, hPp, hPn⟩ := sp
  intro H locs ls hP hD hS hl
  have hPc := hP.sub (ws' := wc) isC (fm_of hC)
  have hDc := hD.sub (ws' := wc) isC hCn hC
  have hFc := va_free (wc := wc) hD hS hc.2.2.2.2.2.2.1 isC hC
  refine va_callv (va_runS (As := As) (rest := rest) ⟨hc.1, hc.2.1, hc.2.2.1, hc.2.2.2.1, hc.2.2.2.2.1⟩ (hM H.size) (va_cwS n hc.2.2.2.2.1 (hk.good hm) rfl rfl rfl hk.2.2.2 hrm) ⟨fun a U g mk q => by obtain ⟨q0, q1, qP, qK, qD, qN⟩ := q; exact ⟨q0, q1, qP, va_K.moved (u := U) (U := U.calling g mk a) (Vm.Alike.refl U.vm) qK, qD, Nw.same (u := U) (U := U.calling g mk a) rfl qN⟩, fun U hU hW => ⟨rfl, by rw [hU], by rw [hU]; exact hPc, va_K.moved hW.alike hc.2.2.2.2.2.1, hDc.weaken (fun _ _ _ _ => trivial), Nw.warm hW hc.2.2.2.2.2.2.2.2.2⟩⟩ rfl hn hl.1 hst (lv_room hroom) hd ⟨hc.2.2.2.2.2.2.2.1, hc.2.2.2.2.2.2.2.2.1⟩) hS (fun q _ h => hFc q h) hFc (fun u t H1 locs1 ht hvm hw hB hz1 hk1 hS1 => ?_)
  · obtain ⟨hP1, hK1, hD1⟩ := hB
    rw [ht] at hP1
    obtain ⟨hP2, hD2⟩ := va_join hP hD isC isR hC (fm_all hRa) hRn (va_nd_dis hdis) hk1 hFc hP1 hD1
    exact nx H1 locs1 ls (hP2.sub isP (fm_of hPp)) (hD2.sub isP hPn hPp) hS1 hl
theorem Sp.self {ws wc' : va_W} (is : List Nat) (h1 : is.map (fun i => ws[i]?) = ws.map some) (h2 : va_nd is = true) (h3 : is.map (fun i => wc'[i]?) = wc'.map some) : Sp ws ws wc' wc' is [] is := ⟨h1, h2, rfl, rfl, rfl, h3, h2⟩
theorem o_if {α : Type} {c : Prop} [Decidable c] {x : Option α} {v : α} (h : (if c then x else none) = some v) : c ∧ x = some v := by
  by_cases hc : c
  · rw [if_pos hc] at h; exact ⟨hc, h⟩
  · rw [if_neg hc] at h; cases h
theorem o_bind {α β : Type} {x : Option α} {k : α → Option β} {v : β} (h : x.bind k = some v) : ∃ a, x = some a ∧ k a = some v := by
  cases x with
  | none => cases h
  | some a => exact ⟨a, rfl, h⟩
theorem o_none {α : Type} {v : α} (h : (none : Option α) = some v) : False := by cases h
theorem o_pos {α : Type} {c : Prop} [Decidable c] {x y : Option α} {v : α} (hc : c) (h : (if c then x else y) = some v) : x = some v := by rwa [if_pos hc] at h
theorem o_neg {α : Type} {c : Prop} [Decidable c] {x y : Option α} {v : α} (hc : ¬ c) (h : (if c then x else y) = some v) : y = some v := by rwa [if_neg hc] at h
end R6
/-- an index is looked at -/
def chk {α : Type} (i : Int32) (n : Nat) (x : Option α) : Option α := if ¬ (i < 0 ∨ n ≤ i.toNatClampNeg) then x else none
theorem chk_some {α : Type} {i : Int32} {n : Nat} {x : Option α} {v : α} (h : chk i n x = some v) : vp_in i n ∧ x = some v := o_if (c := ¬ (i < 0 ∨ n ≤ i.toNatClampNeg)) h
theorem chk_ok {α : Type} {i : Int32} {n : Nat} {x : Option α} (h : vp_in i n) : chk i n x = x := if_pos h
/-- a divisor is looked at -/
def nz {α : Type} (d : Int32) (x : Option α) : Option α := if ¬ d = 0 then x else none
theorem nz_some {α : Type} {d : Int32} {x : Option α} {v : α} (h : nz d x = some v) : ¬ d = 0 ∧ x = some v := o_if h
theorem nz_ok {α : Type} {d : Int32} {x : Option α} (h : ¬ d = 0) : nz d x = x := if_pos h
def nzl {α : Type} (d : Int64) (x : Option α) : Option α := if ¬ d = 0 then x else none
theorem nzl_some {α : Type} {d : Int64} {x : Option α} {v : α} (h : nzl d x = some v) : ¬ d = 0 ∧ x = some v := o_if h
theorem nzl_ok {α : Type} {d : Int64} {x : Option α} (h : ¬ d = 0) : nzl d x = x := if_pos h
/-- a loop: its body over what goes on behind it, so many times at most -/
def it {γ : Type} (B : γ → γ) (bot : γ) : Nat → γ
  | 0 => bot
  | n + 1 => B (it B bot n)
def FU : Nat := 70000
theorem tab_out {x : Int32} {lo hi : Int} (h : ∀ c : Int, lo ≤ c → c ≤ hi → ¬ x = Int32.ofInt c) : x.toInt < lo ∨ hi < x.toInt := by
  rcases Int.lt_or_le x.toInt lo with h1 | h1
  · exact Or.inl h1
  · rcases Int.lt_or_le hi x.toInt with h2 | h2
    · exact Or.inr h2
    · exact absurd (Int32.ofInt_toInt x).symm (h _ h1 h2)
/-- a name for a value -/
def ltA {α β : Type} (x : α) (k : α → Option β) : Option β := k x
theorem lt_some {α β : Type} {x : α} {k : α → Option β} {v : β} (h : ltA x k = some v) : ∃ y, y = x ∧ k y = some v := ⟨x, rfl, h⟩
/-- an array filled -/
def fillA {α : Type} (n : Nat) (v : α) (f : Nat → α) : Nat → α := fun j => if j < n then v else f j
theorem iw_X0 : ∀ w ∈ u_ws RX0 TX0 5, w ∈ tb := fun w hw => List.mem_filter.mpr ⟨(by decide +kernel : ∀ w ∈ u_ws RX0 TX0 5, w ∈ lw_tbl) w hw, List.all_eq_true.mp (by decide +kernel : (u_ws RX0 TX0 5).all goodWord = true) w hw⟩
theorem iw_X1 : ∀ w ∈ u_ws RX1 TX1 12, w ∈ tb := fun w hw => List.mem_filter.mpr ⟨(by decide +kernel : ∀ w ∈ u_ws RX1 TX1 12, w ∈ lw_tbl) w hw, List.all_eq_true.mp (by decide +kernel : (u_ws RX1 TX1 12).all goodWord = true) w hw⟩
theorem iw_X2 : ∀ w ∈ u_ws RX2 TX2 2, w ∈ tb := fun w hw => List.mem_filter.mpr ⟨(by decide +kernel : ∀ w ∈ u_ws RX2 TX2 2, w ∈ lw_tbl) w hw, List.all_eq_true.mp (by decide +kernel : (u_ws RX2 TX2 2).all goodWord = true) w hw⟩
theorem iw_X3 : ∀ w ∈ u_ws RX3 TX3 2, w ∈ tb := fun w hw => List.mem_filter.mpr ⟨(by decide +kernel : ∀ w ∈ u_ws RX3 TX3 2, w ∈ lw_tbl) w hw, List.all_eq_true.mp (by decide +kernel : (u_ws RX3 TX3 2).all goodWord = true) w hw⟩
theorem iw_X4 : ∀ w ∈ u_ws RX4 TX4 11, w ∈ tb := fun w hw => List.mem_filter.mpr ⟨(by decide +kernel : ∀ w ∈ u_ws RX4 TX4 11, w ∈ lw_tbl) w hw, List.all_eq_true.mp (by decide +kernel : (u_ws RX4 TX4 11).all goodWord = true) w hw⟩
theorem iw_X5 : ∀ w ∈ u_ws RX5 TX5 2, w ∈ tb := fun w hw => List.mem_filter.mpr ⟨(by decide +kernel : ∀ w ∈ u_ws RX5 TX5 2, w ∈ lw_tbl) w hw, List.all_eq_true.mp (by decide +kernel : (u_ws RX5 TX5 2).all goodWord = true) w hw⟩
theorem iw_X6 : ∀ w ∈ u_ws RX6 TX6 3, w ∈ tb := fun w hw => List.mem_filter.mpr ⟨(by decide +kernel : ∀ w ∈ u_ws RX6 TX6 3, w ∈ lw_tbl) w hw, List.all_eq_true.mp (by decide +kernel : (u_ws RX6 TX6 3).all goodWord = true) w hw⟩
theorem iw_X7 : ∀ w ∈ u_ws RX7 TX7 2, w ∈ tb := fun w hw => List.mem_filter.mpr ⟨(by decide +kernel : ∀ w ∈ u_ws RX7 TX7 2, w ∈ lw_tbl) w hw, List.all_eq_true.mp (by decide +kernel : (u_ws RX7 TX7 2).all goodWord = true) w hw⟩
theorem iw_X8 : ∀ w ∈ u_ws RX8 TX8 11, w ∈ tb := fun w hw => List.mem_filter.mpr ⟨(by decide +kernel : ∀ w ∈ u_ws RX8 TX8 11, w ∈ lw_tbl) w hw, List.all_eq_true.mp (by decide +kernel : (u_ws RX8 TX8 11).all goodWord = true) w hw⟩
theorem iw_X9 : ∀ w ∈ u_ws RX9 TX9 30, w ∈ tb := fun w hw => List.mem_filter.mpr ⟨(by decide +kernel : ∀ w ∈ u_ws RX9 TX9 30, w ∈ lw_tbl) w hw, List.all_eq_true.mp (by decide +kernel : (u_ws RX9 TX9 30).all goodWord = true) w hw⟩
