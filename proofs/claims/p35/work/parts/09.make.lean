/-! MAKING: new objects and arrays; constructors' contracts -/
def Kcs : Kx → Nat × Nat → Kx
  | (p, l, e, R, s, m, args, below, meth, c, cc, nL, own, E, cy, A, Q, _), x => (p, l, e, R, s, m, args, below, meth, c, cc, nL, own, E, cy, A, Q, x)
abbrev Kc (K : Kx) : Nat × Nat := K.2.2.2.2.2.2.2.2.2.2.2.2.2.2.2.2.2
abbrev Kmeth (K : Kx) : Method := K.2.2.2.2.2.2.2.2.1
theorem Kcs_self {K : Kx} {x : Nat × Nat} (h : Kc K = x) : Kcs K x = K := by
  subst h
  obtain ⟨p, l, e, R, s, m, args, below, meth, c, cc, nL, own, E, cy, A, Q, cs⟩ := K
  rfl
theorem Cq.cs {K : Kx} {cc : ByteArray} {nL : Nat} {own : String} {l : Launch} {R : Room} {E : va_G} {cy : Nat → ClassId} (hc : Cq K cc nL own l R E cy) (x : Nat × Nat) (h1 : x.1 ≤ R.cells) (h2 : x.2 ≤ R.slots) : Cq (Kcs K x) cc nL own l R E cy := by
  obtain ⟨h, rfl, rfl, rfl, rfl, rfl, rfl, rfl⟩ := hc
  obtain ⟨p, l, e, R, s, m, args, below, meth, c, cc, nL, own, E, cy, A, Q, cs⟩ := K
  exact ⟨⟨h.1, h.2.1, h.2.2.1, h.2.2.2.1, h.2.2.2.2.1, h.2.2.2.2.2.1, h.2.2.2.2.2.2.1, h1, h2, h.2.2.2.2.2.2.2.2.2⟩, rfl, rfl, rfl, rfl, rfl, rfl, rfl⟩
theorem ra_uniq {s : State} {a b : ClassId} {n : String} (h1 : s.vm.findClass n = some a) (h2 : s.vm.findClass n = some b) : a = b := Option.some.inj (h1.symm.trans h2)
def adr (l : List Nat) : Nat → Nat := fun i => l.getD i 0
section R9
variable {K : Kx} {cc : ByteArray} {nL : Nat} {own : String} {l : Launch} {R : Room} {E : va_G} {cy : Nat → ClassId} {ws ws' : va_W} {pc : Nat} {lv lv' : List (Nat × Value)} {rest : List Value}
theorem r_newI (hc : Cq K cc nL own l R E cy) (c1 c2 : Nat) {n : Int32} (N : Nat) (hn : ¬ n < 0) (hN : n.toNatClampNeg = N) (hb : N * componentBytes .int ≤ 536870912) (h1 : c1 + 1 ≤ R.cells) (h2 : c2 + N ≤ R.slots) (hm : Cond.arrayClass .int ∈ tb) (hd : decode cc pc = .ok (.newarray .int, 2)) (nx : ∀ q : Nat, V (Kcs K (c1 + 1, c2 + N)) (ws ++ [(q, .inl (cy 0, N, .inl (fun _ => 0)))]) (pc + 2) lv (.ref q :: rest)) : V (Kcs K (c1, c2)) ws pc lv (.int n :: rest) := by
  obtain ⟨hc, rfl, rfl, rfl, rfl, rfl, rfl, rfl⟩ := hc
  obtain ⟨p, l, e, R, s, m, args, below, meth, c, cc, nL, own, E, cy, A, Q, cs⟩ := K
  intro H locs ls hP hD hS hl
  refine va_newa (atype := .int) (a0 := (N, .inl (fun _ => 0))) (ty := .int) hc.1 hc.2.1 (hc.2.2.2.2.1 _ hm) rfl hc.2.2.2.2.2.1 hP hD hS hc.2.2.2.2.2.2.1 (fun _ => rfl) hn hN hb h1 h2 hd (fun q cA H1 hK' hP' hD' hS' => ?_)
  have e1 := (hK'.2 4 (cA, .int) rfl).2
  have e2 := (hc.2.2.2.2.2.1.2 0 (cy 0, .int) rfl).2
  obtain rfl : cA = cy 0 := ra_uniq e1 e2
  exact nx q H1 locs ls hP' hD' hS' hl
theorem r_newJ (hc : Cq K cc nL own l R E cy) (c1 c2 : Nat) {n : Int32} (N : Nat) (hn : ¬ n < 0) (hN : n.toNatClampNeg = N) (hb : N * componentBytes .long ≤ 536870912) (h1 : c1 + 1 ≤ R.cells) (h2 : c2 + N ≤ R.slots) (hm : Cond.arrayClass .long ∈ tb) (hd : decode cc pc = .ok (.newarray .long, 2)) (nx : ∀ q : Nat, V (Kcs K (c1 + 1, c2 + N)) (ws ++ [(q, .inl (cy 1, N, .inr (.inl (fun _ => 0))))]) (pc + 2) lv (.ref q :: rest)) : V (Kcs K (c1, c2)) ws pc lv (.int n :: rest) := by
  obtain ⟨hc, rfl, rfl, rfl, rfl, rfl, rfl, rfl⟩ := hc
  obtain ⟨p, l, e, R, s, m, args, below, meth, c, cc, nL, own, E, cy, A, Q, cs⟩ := K
  intro H locs ls hP hD hS hl
  refine va_newa (atype := .long) (a0 := (N, .inr (.inl (fun _ => 0)))) (ty := .long) hc.1 hc.2.1 (hc.2.2.2.2.1 _ hm) rfl hc.2.2.2.2.2.1 hP hD hS hc.2.2.2.2.2.2.1 (fun _ => rfl) hn hN hb h1 h2 hd (fun q cA H1 hK' hP' hD' hS' => ?_)
  have e1 := (hK'.2 4 (cA, .long) rfl).2
  have e2 := (hc.2.2.2.2.2.1.2 1 (cy 1, .long) rfl).2
  obtain rfl : cA = cy 1 := ra_uniq e1 e2
  exact nx q H1 locs ls hP' hD' hS' hl
theorem r_newZ (hc : Cq K cc nL own l R E cy) (c1 c2 : Nat) {n : Int32} (N : Nat) (hn : ¬ n < 0) (hN : n.toNatClampNeg = N) (hb : N * componentBytes .boolean ≤ 536870912) (h1 : c1 + 1 ≤ R.cells) (h2 : c2 + N ≤ R.slots) (hm : Cond.arrayClass .boolean ∈ tb) (hd : decode cc pc = .ok (.newarray .boolean, 2)) (nx : ∀ q : Nat, V (Kcs K (c1 + 1, c2 + N)) (ws ++ [(q, .inl (cy 2, N, .inl (fun _ => 0)))]) (pc + 2) lv (.ref q :: rest)) : V (Kcs K (c1, c2)) ws pc lv (.int n :: rest) := by
  obtain ⟨hc, rfl, rfl, rfl, rfl, rfl, rfl, rfl⟩ := hc
  obtain ⟨p, l, e, R, s, m, args, below, meth, c, cc, nL, own, E, cy, A, Q, cs⟩ := K
  intro H locs ls hP hD hS hl
  refine va_newa (atype := .boolean) (a0 := (N, .inl (fun _ => 0))) (ty := .boolean) hc.1 hc.2.1 (hc.2.2.2.2.1 _ hm) rfl hc.2.2.2.2.2.1 hP hD hS hc.2.2.2.2.2.2.1 (fun _ => rfl) hn hN hb h1 h2 hd (fun q cA H1 hK' hP' hD' hS' => ?_)
  have e1 := (hK'.2 4 (cA, .boolean) rfl).2
  have e2 := (hc.2.2.2.2.2.1.2 2 (cy 2, .boolean) rfl).2
  obtain rfl : cA = cy 2 := ra_uniq e1 e2
  exact nx q H1 locs ls hP' hD' hS' hl
theorem r_newR (hc : Cq K cc nL own l R E cy) (c1 c2 : Nat) {n : Int32} {index : Nat} (N : Nat) (hn : ¬ n < 0) (hN : n.toNatClampNeg = N) (hb : N * 4 ≤ 536870912) (h1 : c1 + 1 ≤ R.cells) (h2 : c2 + N ≤ R.slots) (hm : Cond.classLink own index "KitchenDrift$House" ∈ tb) (hd : decode cc pc = .ok (.anewarray index, 3)) (nx : ∀ q : Nat, V (Kcs K (c1 + 1, c2 + N)) (ws ++ [(q, .inl (cy 3, N, .inr (.inr (.inr (.inr (fun _ => none))))))]) (pc + 3) lv (.ref q :: rest)) : V (Kcs K (c1, c2)) ws pc lv (.int n :: rest) := by
  obtain ⟨hc, rfl, rfl, rfl, rfl, rfl, rfl, rfl⟩ := hc
  obtain ⟨p, l, e, R, s, m, args, below, meth, c, cc, nL, own, E, cy, A, Q, cs⟩ := K
  intro H locs ls hP hD hS hl
  refine va_newq (C := "KitchenDrift$House") hc.1 hc.2.1 hc.2.2.2.1 (hc.2.2.2.2.1 _ hm) hc.2.2.2.2.2.2.2.2.2.2 hc.2.2.2.2.2.1 hP hD hS hc.2.2.2.2.2.2.1 hn hN hb h1 h2 hd (fun q cA H1 hK' hP' hD' hS' => ?_)
  obtain ⟨kA, comp, -, -, -, e1⟩ := (hK'.2 4 (cA, .object "KitchenDrift$House") rfl).2
  obtain ⟨kA2, comp2, -, -, -, e2⟩ := (hc.2.2.2.2.2.1.2 3 (cy 3, .object "KitchenDrift$House") rfl).2
  obtain rfl : cA = cy 3 := ra_uniq e1 e2
  exact nx q H1 locs ls hP' hD' hS' hl
theorem r_rast (hc : Cq K cc nL own l R E cy) (q0 qk ci : Nat) {a n v N : Nat} {T : u_T} {vs : List Value} {f : Nat → Option Nat} (ha : ws[q0]? = some (a, .inl (cy 3, n, .inr (.inr (.inr (.inr f)))))) (hv : ws[qk]? = some (v, .inr (ci, vs))) (hcl : vwCl[ci]? = some ("KitchenDrift$House", T, N)) {i : Int32} (hin : vp_in i n) (hd : decode cc pc = .ok (.aastore, 1)) (f1 : Nat → Option Nat) (hf1 : f1 = va_up f i.toNatClampNeg (some v)) (ws' : va_W) (hw : ws.set q0 (a, .inl (cy 3, n, .inr (.inr (.inr (.inr f1))))) = ws') (nx : V K ws' (pc + 1) lv rest) : V K ws pc lv (.ref v :: .int i :: .ref a :: rest) := by
  obtain ⟨hc, rfl, rfl, rfl, rfl, rfl, rfl, rfl⟩ := hc
  obtain ⟨p, l, e, R, s, m, args, below, meth, c, cc, nL, own, E, cy, A, Q, cs⟩ := K
  subst hw
  subst hf1
  exact fun H locs ls hP hD hS hl => va_astq hc.1 hc.2.1 hc.2.2.2.2.2.1 hP hD hS q0 3 qk ci ha rfl hv hcl hin hd (fun H1 locs1 hP1 hD1 hS1 => nx H1 locs1 ls hP1 hD1 hS1 hl)
theorem r_new (hc : Cq K cc nL own l R E cy) (c1 c2 : Nat) {C : String} {T : u_T} {N ci index : Nat} (hin : ∀ w ∈ u_ws C T N, w ∈ tb) (ty0 : Nat → FieldType) (hty : ∀ k, k < N → parseFieldDescriptor (T k).2.2.1 = some (ty0 k)) (hcl : vwCl[ci]? = some (C, T, N)) (fs : List Value) (hfs : ∀ j, j < N → defaultValue (ty0 j) = vp_V fs j) (h1 : c1 + 1 ≤ R.cells) (h2 : c2 + N ≤ R.slots) (hm : Cond.classLink own index C ∈ tb) (hm2 : Cond.instantiable C N ∈ tb) (hm3 : Cond.initialized C ∈ tb) (hd : decode cc pc = .ok (.new index, 3)) (nx : ∀ q : Nat, V (Kcs K (c1 + 1, c2 + N)) (ws ++ [(q, .inr (ci, fs))]) (pc + 3) lv (.ref q :: rest)) : V (Kcs K (c1, c2)) ws pc lv rest := by
  obtain ⟨hc, rfl, rfl, rfl, rfl, rfl, rfl, rfl⟩ := hc
  obtain ⟨p, l, e, R, s, m, args, below, meth, c, cc, nL, own, E, cy, A, Q, cs⟩ := K
  intro H locs ls hP hD hS hl
  exact va_new hc.1 hc.2.1 hc.2.2.2.2.1 hin ty0 hty hc.2.2.2.1 (hc.2.2.2.2.1 _ hm) (hc.2.2.2.2.1 _ hm2) (hc.2.2.2.2.1 _ hm3) hc.2.2.2.2.2.1 hP hD hS hc.2.2.2.2.2.2.1 hcl hfs h1 h2 hd (fun q H1 hP1 hD1 hS1 => nx q H1 locs ls hP1 hD1 hS1 hl)
theorem r_putF (hc : Cq K cc nL own l R E cy) (hname : (Kmeth K).name = "<init>") {C : String} {T : u_T} {N ci index : Nat} (hin : ∀ w ∈ u_ws C T N, w ∈ tb) (ty0 : Nat → FieldType) (hty : ∀ k, k < N → parseFieldDescriptor (T k).2.2.1 = some (ty0 k)) (hnm : ∀ a, a < N → ∀ b, b < N → a ≠ b → (T a).2.1 ≠ (T b).2.1) (q0 : Nat) {a : Nat} {fs : List Value} (he : ws[q0]? = some (a, .inr (ci, fs))) (hcl : vwCl[ci]? = some (C, T, N)) (k : Nat) (hk : k < N) (hm : Cond.fieldLink own index (T k).1 (T k).2.1 (T k).2.2.1 ∈ tb) (hfin : (T k).2.2.2 = true) (hdecl : (T k).1 = own) {v : Value} (hn : narrow (ty0 k) v = v) (hfit : fits (ty0 k) v = true) (hlen : k < fs.length) (hd : decode cc pc = .ok (.putfield index, 3)) (ws' : va_W) (hw : ws.set q0 (a, .inr (ci, fs.set k v)) = ws') (nx : V K ws' (pc + 3) lv rest) : V K ws pc lv (v :: .ref a :: rest) := by
  obtain ⟨hc, rfl, rfl, rfl, rfl, rfl, rfl, rfl⟩ := hc
  obtain ⟨p, l, e, R, s, m, args, below, meth, c, cc, nL, own, E, cy, A, Q, cs⟩ := K
  subst hw
  exact fun H locs ls hP hD hS hl => va_putF hc.1 hc.2.1 hc.2.2.2.2.1 hin ty0 hty hnm hc.2.2.2.1 hc.2.2.2.2.2.1 hP hD hS q0 he hcl k hk (hc.2.2.2.2.1 _ hm) (fun _ h9 => h9) hfin hname hdecl (hty k hk) hn hfit hlen hd (fun H1 locs1 hP1 hD1 hS1 => nx H1 locs1 ls hP1 hD1 hS1 hl)
theorem r_objInit (hc : Cq K cc nL own l R E cy) {idx a : Nat} (hm : Cond.methodLink own idx objectInit ∈ tb) (hm2 : Cond.instanceMethod objectInit ∈ tb) (hm3 : Cond.code objectInit ⟨#[0xb1]⟩ 1 none ∈ tb) (hfr : 1 ≤ R.frames) (hlo : (rest.map fun v => v.category).sum + 12 ≤ R.locals) (hd : decode cc pc = .ok (.invokespecial idx, 3)) (nx : V K ws (pc + 3) lv rest) : V K ws pc lv (.ref a :: rest) := by
  obtain ⟨hc, rfl, rfl, rfl, rfl, rfl, rfl, rfl⟩ := hc
  obtain ⟨p, l, e, R, s, m, args, below, meth, c, cc, nL, own, E, cy, A, Q, cs⟩ := K
  intro H locs ls hP hD hS hl
  refine W.objInit hc.1 hc.2.1 hc.2.2.2.1 (hc.2.2.2.2.1 _ hm) (hc.2.2.2.2.1 _ hm2) (hc.2.2.2.2.1 _ hm3) rfl (hl.1.trans hc.2.2.1.symm) rfl hd hfr ?_ ?_
  · simpa [JFrame.monitorRoom] using hlo
  · exact nx H locs ls hP hD hS hl
end R9
/-- a constructor's contract: what it makes, and the world behind it -/
abbrev Rn (fr lo mc ms : Nat) : Room := { frames := fr, cells := mc, slots := ms, locals := lo }
def Cn {S : Type} (l : Launch) (y : MethodName) (cc : ByteArray) (nL : Nat) (fr lo mc ms : Nat) (E : va_G) (cy : Nat → ClassId) (av : List Value) (ws : va_W) (post : S → Prop) (W' : S → va_W) : Prop :=
  ∀ sz, Met l y (.code y cc nL none :: tb) (Rn fr lo mc ms) (va_Pc av (Wl E cy ws sz)) (va_Qv post (fun u => We E cy (va_A ws sz) (W' u)) (va_A ws sz)) mc ms (va_A ws sz)
def Zn {S : Type} (below : List Frame) (E : va_G) (cy : Nat → ClassId) (args : Array Value) (s : State) (A : Nat → Prop) (mc ms : Nat) (post : S → Prop) (W' : S → va_W) : State → Prop := MQ below (va_Qv post (fun u => We E cy A (W' u)) A) args s mc ms A
def Kn {S : Type} (l : Launch) (cc : ByteArray) (nL : Nat) (fr lo mc ms : Nat) (own : String) (E : va_G) (cy : Nat → ClassId) (post : S → Prop) (W' : S → va_W) (K : Kx) : Prop :=
  ∃ p e s m args below meth c A, K = (p, l, e, Rn fr lo mc ms, s, m, args, below, meth, c, cc, nL, own, E, cy, A, Zn below E cy args s A mc ms post W', (0, 0)) ∧ Cx K ∧ meth.sig.returnType = none ∧ meth.locks = false ∧ meth.name = "<init>"
theorem Kn.cq {S : Type} {l : Launch} {cc : ByteArray} {nL : Nat} {fr lo mc ms : Nat} {own : String} {E : va_G} {cy : Nat → ClassId} {post : S → Prop} {W' : S → va_W} {K : Kx} (h : Kn l cc nL fr lo mc ms own E cy post W' K) : Cq K cc nL own l (Rn fr lo mc ms) E cy := by
  obtain ⟨p, e, s, m, args, below, meth, c, A, rfl, h1, h2, h3⟩ := h
  exact ⟨h1, rfl, rfl, rfl, rfl, rfl, rfl, rfl⟩
theorem Kn.name {S : Type} {l : Launch} {cc : ByteArray} {nL : Nat} {fr lo mc ms : Nat} {own : String} {E : va_G} {cy : Nat → ClassId} {post : S → Prop} {W' : S → va_W} {K : Kx} (h : Kn l cc nL fr lo mc ms own E cy post W' K) (x : Nat × Nat) : (Kmeth (Kcs K x)).name = "<init>" := by
  obtain ⟨p, e, s, m, args, below, meth, c, A, rfl, h1, h2, h3, h4⟩ := h
  exact h4
theorem Cn.of {S : Type} {l : Launch} {y : MethodName} {cc : ByteArray} {nL : Nat} {fr lo mc ms : Nat} {E : va_G} {cy : Nat → ClassId} {av : List Value} {ws : va_W} {post : S → Prop} {W' : S → va_W} (own : String) (hy : plainName y.cls = true) (hown : y.cls = own) (hname : y.name = "<init>") (hlen : (lg_sl av).length ≤ nL) (body : ∀ K : Kx, Kn l cc nL fr lo mc ms own E cy post W' K → V (Kcs K (0, 0)) ws 0 (lv_args 0 av) []) : Cn l y cc nL fr lo mc ms E cy av ws post W' := by
  intro sz
  refine Met.ofW (cc := cc) (maxL := nL) (ret := none) hy rfl ?_
  intro p e s m args below meth c s₁ B hml hv
  obtain ⟨rfl, hsz, hP, hK, hD0, hnw⟩ := hv
  have hts := atoms_spec (ws := .code y cc nL none :: tb) B.pre
  have hfc : s.vm.findClass own = some m.cls := by rw [← hown]; exact findClass_of_methodNamed B.named
  have hin : meth.name = "<init>" := ((name_of_methodNamed B.named B.method).1).trans hname
  subst hsz
  have hD := hD0.self (sz := s.heap.size)
  generalize hAe : va_A ws s.heap.size = A at hD ⊢
  have hA : ∀ q : Nat, s.heap.size ≤ q → A q := fun q h => by rw [← hAe]; exact Or.inr h
  have hS : va_S A s.heap s.heap [] := va_S.rf
  have hl := lv_entry av (n := nL) hlen
  rw [lg_entry_eq]
  generalize (lg_sl av ++ List.replicate (nL - (lg_sl av).length) Slot.unset).toArray = ls at hl ⊢
  exact body (p, l, e, Rn fr lo mc ms, s, m, av.toArray, below, meth, c, cc, nL, own, E, cy, A, Zn below E cy av.toArray s A mc ms post W', (0, 0)) ⟨p, e, s, m, _, below, meth, c, A, rfl, ⟨B.exec, B.bytes, hml, hfc, fun w h => hts w (List.mem_cons_of_mem _ h), hK, hA, Nat.zero_le _, Nat.zero_le _, hnw⟩, B.returns, B.notSynchronized, hin⟩ s.heap [] ls hP hD hS hl
theorem r_nret {S : Type} {l : Launch} {cc : ByteArray} {nL : Nat} {fr lo mc ms : Nat} {own : String} {E : va_G} {cy : Nat → ClassId} {post : S → Prop} {W' : S → va_W} {ws : va_W} {K : Kx} {pc : Nat} {lv : List (Nat × Value)} (h : Kn l cc nL fr lo mc ms own E cy post W' K) (u : S) (hu : post u) (hw : ws = W' u) (hd : decode cc pc = .ok (.return_, 1)) : V (Kcs K (mc, ms)) ws pc lv [] := by
  obtain ⟨p, e, s, m, args, below, meth, c, A, rfl, hc, hr, hlocks, -⟩ := h
  subst hw
  intro H locs ls hP hD hS hl
  exact W.vret hc.1 hc.2.1 hr (fun t ht hW => ⟨⟨u, rfl, hu, by rw [ht]; exact hP, va_K.moved hW.alike hc.2.2.2.2.2.1, hD⟩, hS.F ht⟩) hS.2.2 hd hlocks
def KI (y : MethodName) (cc : ByteArray) (nL : Nat) : Prop := Cond.instanceMethod y ∈ tb ∧ Cond.initialized y.cls ∈ tb ∧ Cond.code y cc nL none ∈ tb ∧ y.name = "<init>" ∧ (y.cls ≠ "java/lang/invoke/MethodHandle" ∧ y.cls ≠ "java/lang/invoke/VarHandle" ∧ (parseMethodDescriptor y.desc).map (fun d => d.parameters.length) = some 0)
theorem KI.good {y : MethodName} {cc : ByteArray} {nL : Nat} (h : KI y cc nL) : GoodIn tb (Cond.code y cc nL none :: tb) := by
  intro w hw
  rcases List.mem_cons.mp hw with rfl | h'
  · exact tb_good _ h.2.2.1
  · exact tb_good _ h'
section R9b
variable {K : Kx} {cc : ByteArray} {nL : Nat} {own : String} {l : Launch} {R : Room} {E : va_G} {cy : Nat → ClassId} {ws wc : va_W} {pc : Nat} {lv : List (Nat × Value)} {rest : List Value} {y : MethodName} {cc' : ByteArray} {nL' fr lo mc ms idx b : Nat} {S : Type} {post : S → Prop} {W' : S → va_W}
theorem r_callN (hc : Cq K cc nL own l R E cy) (c1 c2 : Nat) (hM : Cn l y cc' nL' fr lo mc ms E cy [.ref b] wc post W') (hk : KI y cc' nL') (hnest : (own, idx, y, "KitchenDrift") ∈ nws) (isC isR : List Nat) (hC : isC.map (fun i => ws[i]?) = wc.map some) (hCn : va_nd isC = true) (hRa : isR.all (fun i => decide (i < ws.length)) = true) (hRn : va_nd isR = true) (hdis : isR.all (fun i => decide (i ∉ isC)) = true) (hroom : (rest.map fun v => v.category).sum ≤ 8) (hrm : fr + 1 ≤ R.frames ∧ 8 + (nL' + 11) + lo ≤ R.locals) (h1 : c1 + mc ≤ R.cells) (h2 : c2 + ms ≤ R.slots) (hd : decode cc pc = .ok (.invokespecial idx, 3)) (nx : ∀ u : S, post u → V (Kcs K (c1 + mc, c2 + ms)) (isR.filterMap (fun i => ws[i]?) ++ W' u) (pc + 3) lv rest) : V (Kcs K (c1, c2)) ws pc lv (.ref b :: rest) := by
  obtain ⟨hc, rfl, rfl, rfl, rfl, rfl, rfl, rfl⟩ := hc
  obtain ⟨p, l, e, R, s, m, args, below, meth, c, cc, nL, own, E, cy, A, Q, cs⟩ := K
  intro H locs ls hP hD hS hl
  have hPc := hP.sub (ws' := wc) isC (fm_of hC)
  have hDc := hD.sub (ws' := wc) isC hCn hC
  have hFc := va_free (wc := wc) hD hS hc.2.2.2.2.2.2.1 isC hC
  refine va_callv (va_runIN (As := []) (rest := rest) ⟨hc.1, hc.2.1, hc.2.2.1, hc.2.2.2.1, hc.2.2.2.2.1⟩ (hM H.size) ⟨va_cnB 0 hc.2.2.2.2.1 hk.good rfl rfl rfl (hc.2.2.2.2.2.2.2.2.2.1 _ hnest) (hc.2.2.2.2.1 _ hk.2.1) hk.2.2.2.2 hrm, hk.2.2.2.1, hc.2.2.2.2.1 _ hk.1⟩ ⟨fun a U g mk q => by obtain ⟨q0, q1, qP, qK, qD, qN⟩ := q; exact ⟨q0, q1, qP, va_K.moved (u := U) (U := U.calling g mk a) (Vm.Alike.refl U.vm) qK, qD, Nw.same (u := U) (U := U.calling g mk a) rfl qN⟩, fun U hU hW => ⟨rfl, by rw [hU], by rw [hU]; exact hPc, va_K.moved hW.alike hc.2.2.2.2.2.1, hDc.weaken (fun _ _ _ _ => trivial), Nw.warm hW hc.2.2.2.2.2.2.2.2.2⟩⟩ rfl rfl hl.1 rfl (lv_room hroom) hd ⟨h1, h2⟩) hS (fun q _ h => hFc q h) hFc (fun u t H1 locs1 ht hvm hw hB hz1 hk1 hS1 => ?_)
  · obtain ⟨hP1, hK1, hD1⟩ := hB
    rw [ht] at hP1
    obtain ⟨hP2, hD2⟩ := va_join hP hD isC isR hC (fm_all hRa) hRn (va_nd_dis hdis) hk1 hFc hP1 hD1
    exact nx u hw H1 locs1 ls hP2 hD2 hS1 hl
theorem r_callNI (hc : Cq K cc nL own l R E cy) (c1 c2 : Nat) (hM : Cn l y cc' nL' fr lo mc ms E cy [.ref b] wc post W') (hk : KI y cc' nL') (hm : Cond.methodLink own idx y ∈ tb) (isC isR : List Nat) (hC : isC.map (fun i => ws[i]?) = wc.map some) (hCn : va_nd isC = true) (hRa : isR.all (fun i => decide (i < ws.length)) = true) (hRn : va_nd isR = true) (hdis : isR.all (fun i => decide (i ∉ isC)) = true) (hroom : (rest.map fun v => v.category).sum ≤ 8) (hrm : fr + 1 ≤ R.frames ∧ 8 + (nL' + 11) + lo ≤ R.locals) (h1 : c1 + mc ≤ R.cells) (h2 : c2 + ms ≤ R.slots) (hd : decode cc pc = .ok (.invokespecial idx, 3)) (nx : ∀ u : S, post u → V (Kcs K (c1 + mc, c2 + ms)) (isR.filterMap (fun i => ws[i]?) ++ W' u) (pc + 3) lv rest) : V (Kcs K (c1, c2)) ws pc lv (.ref b :: rest) := by
  obtain ⟨hc, rfl, rfl, rfl, rfl, rfl, rfl, rfl⟩ := hc
  obtain ⟨p, l, e, R, s, m, args, below, meth, c, cc, nL, own, E, cy, A, Q, cs⟩ := K
  intro H locs ls hP hD hS hl
  have hPc := hP.sub (ws' := wc) isC (fm_of hC)
  have hDc := hD.sub (ws' := wc) isC hCn hC
  have hFc := va_free (wc := wc) hD hS hc.2.2.2.2.2.2.1 isC hC
  refine va_callv (va_runI (As := []) (rest := rest) ⟨hc.1, hc.2.1, hc.2.2.1, hc.2.2.2.1, hc.2.2.2.2.1⟩ (hM H.size) (cwI 0 hc.2.2.2.2.1 hk.good rfl rfl rfl (hc.2.2.2.2.1 _ hk.2.1) (hc.2.2.2.2.1 _ hm) (hc.2.2.2.2.1 _ hk.1) hk.2.2.2.1 hk.2.2.2.2 hrm) ⟨fun a U g mk q => by obtain ⟨q0, q1, qP, qK, qD, qN⟩ := q; exact ⟨q0, q1, qP, va_K.moved (u := U) (U := U.calling g mk a) (Vm.Alike.refl U.vm) qK, qD, Nw.same (u := U) (U := U.calling g mk a) rfl qN⟩, fun U hU hW => ⟨rfl, by rw [hU], by rw [hU]; exact hPc, va_K.moved hW.alike hc.2.2.2.2.2.1, hDc.weaken (fun _ _ _ _ => trivial), Nw.warm hW hc.2.2.2.2.2.2.2.2.2⟩⟩ rfl rfl hl.1 rfl (lv_room hroom) hd ⟨h1, h2⟩) hS (fun q _ h => hFc q h) hFc (fun u t H1 locs1 ht hvm hw hB hz1 hk1 hS1 => ?_)
  · obtain ⟨hP1, hK1, hD1⟩ := hB
    rw [ht] at hP1
    obtain ⟨hP2, hD2⟩ := va_join hP hD isC isR hC (fm_all hRa) hRn (va_nd_dis hdis) hk1 hFc hP1 hD1
    exact nx u hw H1 locs1 ls hP2 hD2 hS1 hl
end R9b
