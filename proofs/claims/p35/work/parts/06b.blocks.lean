theorem va_nd_nodup : ∀ {l : List Nat}, l.Nodup → va_nd l = true
  | [], _ => rfl
  | a :: l, h => by
    rw [List.nodup_cons] at h
    simp only [va_nd, Bool.and_eq_true, decide_eq_true_eq]
    exact ⟨h.1, va_nd_nodup h.2⟩
theorem map_last (ws0 : va_W) (y : va_W) : (List.range ws0.length).map (fun i => (ws0 ++ y)[i]?) = ws0.map some := by
  apply List.ext_getElem?
  intro i
  by_cases h : i < ws0.length
  · simp [List.getElem?_map, List.getElem?_range h, List.getElem?_append_left h]
    rw [List.getElem?_eq_getElem h]; rfl
  · simp [h]
/-! CALLS OVER BLOCKS: a large world is a row of bundles; a call takes some of them -/
theorem perm_idx {α : Type} {Bs Bs2 : List α} {is : List Nat} (h : is.map (fun i => Bs[i]?) = Bs2.map some) (hn : is.Perm (List.range Bs.length)) : Bs2.Perm Bs := by
  have e1 : (is.map (fun i => Bs[i]?)).Perm ((List.range Bs.length).map (fun i => Bs[i]?)) := hn.map _
  have e2 : (List.range Bs.length).map (fun i => Bs[i]?) = Bs.map some := by
    apply List.ext_getElem?
    intro i
    by_cases hi : i < Bs.length
    · simp [List.getElem?_map, List.getElem?_range hi]
      rw [List.getElem?_eq_getElem hi]; rfl
    · simp [hi]
  rw [h, e2] at e1
  have e3 := e1.filterMap id
  simpa [List.filterMap_map] using e3
theorem perm_flat {α : Type} {Bs Bs2 : List (List α)} (h : Bs2.Perm Bs) : Bs2.flatten.Perm Bs.flatten := by
  induction h with
  | nil => exact List.Perm.refl _
  | cons x _ ih => simpa using ih.append_left x
  | swap x y l =>
    simp only [List.flatten_cons]
    rw [← List.append_assoc, ← List.append_assoc]
    exact (List.perm_append_comm).append_right _
  | trans _ _ ih1 ih2 => exact ih1.trans ih2
theorem va_P.perm {D : va_G} {cl : List vw_C} {ws ws' : va_W} {H : Heap} (h : va_P D cl ws H) (p : ws'.Perm ws) : va_P D cl ws' H := by
  intro k q hk
  obtain ⟨i, hi⟩ := List.getElem?_of_mem (p.mem_iff.mp (List.mem_of_getElem? hk))
  exact h i q hi
theorem va_D_iff {A : Nat → Prop} {ws : va_W} : va_D A ws ↔ (ws.map Prod.fst).Nodup ∧ ∀ a ∈ ws.map Prod.fst, A a := by
  constructor
  · intro h
    refine ⟨?_, ?_⟩
    · rw [List.Nodup, List.pairwise_iff_getElem]
      intro i j hi hj hij e
      rw [List.length_map] at hi hj
      rw [List.getElem_map, List.getElem_map] at e
      have := h.1 i j ws[i] ws[j] (List.getElem?_eq_getElem hi) (List.getElem?_eq_getElem hj) e
      omega
    · intro a ha
      obtain ⟨q, hq, rfl⟩ := List.mem_map.mp ha
      obtain ⟨i, hi⟩ := List.getElem?_of_mem hq
      exact h.2 i q hi
  · intro ⟨h1, h2⟩
    refine ⟨?_, fun k q hk => h2 _ (List.mem_map.mpr ⟨q, List.mem_of_getElem? hk, rfl⟩)⟩
    intro i j p q hi hj e
    rw [List.Nodup, List.pairwise_iff_getElem] at h1
    obtain ⟨hi', ei⟩ := List.getElem?_eq_some_iff.mp hi
    obtain ⟨hj', ej⟩ := List.getElem?_eq_some_iff.mp hj
    rcases Nat.lt_trichotomy i j with h | h | h
    · exact absurd (by rw [List.getElem_map, List.getElem_map, ei, ej]; exact e) (h1 i j (by rw [List.length_map]; exact hi') (by rw [List.length_map]; exact hj') h)
    · exact h
    · exact absurd (by rw [List.getElem_map, List.getElem_map, ei, ej]; exact e.symm) (h1 j i (by rw [List.length_map]; exact hj') (by rw [List.length_map]; exact hi') h)
theorem va_D.perm {A : Nat → Prop} {ws ws' : va_W} (h : va_D A ws) (p : ws'.Perm ws) : va_D A ws' := by
  rw [va_D_iff] at h ⊢
  have pm := p.map Prod.fst
  exact ⟨pm.nodup_iff.mpr h.1, fun a ha => h.2 a (pm.mem_iff.mp ha)⟩
theorem Sp_app (wr wc wc' : va_W) : Sp (wr ++ wc) wc wc' (wr ++ wc') (List.range' wr.length wc.length) (List.range wr.length) (List.range (wr ++ wc').length) := by
  refine ⟨?_, va_nd_nodup List.nodup_range', ?_, va_nd_nodup List.nodup_range, ?_, ?_, va_nd_nodup List.nodup_range⟩
  · apply List.ext_getElem?
    intro i
    by_cases h : i < wc.length
    · simp [List.getElem?_map, List.getElem?_range', h, List.getElem?_append]
    · simp [h]
  · simp; omega
  · simp; omega
  · rw [fm_of (map_last wr wc)]
    have := map_last (wr ++ wc') []
    rwa [List.append_nil] at this
theorem Sp_all (wc wc' : va_W) : Sp wc wc wc' wc' (List.range' 0 wc.length) [] (List.range wc'.length) := Sp_app [] wc wc'
theorem Sp_none (ws : va_W) : Sp ws [] [] ws (List.range' ws.length 0) (List.range ws.length) (List.range ws.length) := by
  have h := Sp_app ws [] []
  rw [List.append_nil] at h
  exact h
section RB
variable {K : Kx} {cc : ByteArray} {nL : Nat} {own : String} {l : Launch} {R : Room} {E : va_G} {cy : Nat → ClassId} {ws ws' wc wc' : va_W} {pc : Nat} {lv : List (Nat × Value)} {rest st As : List Value} {y : MethodName} {cc' : ByteArray} {nL' fr lo idx n : Nat} {ret : Option FieldType} {C : String} {b : Nat}
theorem V.permP (p : ws'.Perm ws) (n : V K ws' pc lv rest) : V K ws pc lv rest := by
  obtain ⟨p0, l, e, R, s, m, args, below, meth, c, cc, nL, own, E, cy, A, Q, cs⟩ := K
  exact fun H locs ls hP hD hS hl => n H locs ls (hP.perm p) (hD.perm p) hS hl
/-- the blocks of a call: all (Bs), those left (Rs), the callee's before and behind (Cs, Cs'), all behind (Bs') -/
def SB (ws wc wc' ws' : va_W) (Bs Rs Cs Cs' Bs' : List va_W) (is1 is2 : List Nat) : Prop := Bs.flatten = ws ∧ Cs.flatten = wc ∧ Cs'.flatten = wc' ∧ Bs'.flatten = ws' ∧ is1.map (fun i => Bs[i]?) = (Rs ++ Cs).map some ∧ is1.Perm (List.range Bs.length) ∧ is2.map (fun i => (Rs ++ Cs')[i]?) = Bs'.map some ∧ is2.Perm (List.range (Rs ++ Cs').length)
theorem r_callVBi (hc : Cq K cc nL own l R E cy) {r : Int32} (hM : Ci l y cc' nL' ret fr lo E cy (.ref b :: As) wc r wc') (hk : KV C y cc' nL' ret n) (hm : Cond.methodLink own idx y ∈ tb) (q0 : Nat) {ci N : Nat} {T : u_T} {fs : List Value} (he : wc[q0]? = some (b, .inr (ci, fs))) (hcl : vwCl[ci]? = some (C, T, N)) (Bs Rs Cs Cs' Bs' : List va_W) (is1 is2 : List Nat) (sb : SB ws wc wc' ws' Bs Rs Cs Cs' Bs' is1 is2) (hn : As.length = n) (hst : st = As.reverse ++ .ref b :: rest) (hroom : (rest.map fun v => v.category).sum ≤ 8) (hrm : fr + 1 ≤ R.frames ∧ 8 + (nL' + 11) + lo ≤ R.locals) (hd : decode cc pc = .ok (.invokevirtual idx, 3)) (nx : V K ws' (pc + 3) lv (.int r :: rest)) : V K ws pc lv st := by
  obtain ⟨rfl, rfl, rfl, rfl, h1, p1, h2, p2⟩ := sb
  refine V.permP (perm_flat (perm_idx h1 p1)) ?_
  rw [List.flatten_append]
  refine r_callVi (ws' := Rs.flatten ++ Cs'.flatten) hc hM hk hm q0 he hcl _ _ _ (Sp_app Rs.flatten Cs.flatten Cs'.flatten) hn hst hroom hrm hd ?_
  rw [← List.flatten_append]
  exact V.permP (perm_flat (perm_idx h2 p2)) nx
theorem r_callVBl (hc : Cq K cc nL own l R E cy) {r : Int64} (hM : Cl l y cc' nL' ret fr lo E cy (.ref b :: As) wc r wc') (hk : KV C y cc' nL' ret n) (hm : Cond.methodLink own idx y ∈ tb) (q0 : Nat) {ci N : Nat} {T : u_T} {fs : List Value} (he : wc[q0]? = some (b, .inr (ci, fs))) (hcl : vwCl[ci]? = some (C, T, N)) (Bs Rs Cs Cs' Bs' : List va_W) (is1 is2 : List Nat) (sb : SB ws wc wc' ws' Bs Rs Cs Cs' Bs' is1 is2) (hn : As.length = n) (hst : st = As.reverse ++ .ref b :: rest) (hroom : (rest.map fun v => v.category).sum ≤ 8) (hrm : fr + 1 ≤ R.frames ∧ 8 + (nL' + 11) + lo ≤ R.locals) (hd : decode cc pc = .ok (.invokevirtual idx, 3)) (nx : V K ws' (pc + 3) lv (.long r :: rest)) : V K ws pc lv st := by
  obtain ⟨rfl, rfl, rfl, rfl, h1, p1, h2, p2⟩ := sb
  refine V.permP (perm_flat (perm_idx h1 p1)) ?_
  rw [List.flatten_append]
  refine r_callVl (ws' := Rs.flatten ++ Cs'.flatten) hc hM hk hm q0 he hcl _ _ _ (Sp_app Rs.flatten Cs.flatten Cs'.flatten) hn hst hroom hrm hd ?_
  rw [← List.flatten_append]
  exact V.permP (perm_flat (perm_idx h2 p2)) nx
theorem r_callVBv (hc : Cq K cc nL own l R E cy)  (hM : Cv l y cc' nL' ret fr lo E cy (.ref b :: As) wc  wc') (hk : KV C y cc' nL' ret n) (hm : Cond.methodLink own idx y ∈ tb) (q0 : Nat) {ci N : Nat} {T : u_T} {fs : List Value} (he : wc[q0]? = some (b, .inr (ci, fs))) (hcl : vwCl[ci]? = some (C, T, N)) (Bs Rs Cs Cs' Bs' : List va_W) (is1 is2 : List Nat) (sb : SB ws wc wc' ws' Bs Rs Cs Cs' Bs' is1 is2) (hn : As.length = n) (hst : st = As.reverse ++ .ref b :: rest) (hroom : (rest.map fun v => v.category).sum ≤ 8) (hrm : fr + 1 ≤ R.frames ∧ 8 + (nL' + 11) + lo ≤ R.locals) (hd : decode cc pc = .ok (.invokevirtual idx, 3)) (nx : V K ws' (pc + 3) lv rest) : V K ws pc lv st := by
  obtain ⟨rfl, rfl, rfl, rfl, h1, p1, h2, p2⟩ := sb
  refine V.permP (perm_flat (perm_idx h1 p1)) ?_
  rw [List.flatten_append]
  refine r_callVv (ws' := Rs.flatten ++ Cs'.flatten) hc hM hk hm q0 he hcl _ _ _ (Sp_app Rs.flatten Cs.flatten Cs'.flatten) hn hst hroom hrm hd ?_
  rw [← List.flatten_append]
  exact V.permP (perm_flat (perm_idx h2 p2)) nx
end RB
