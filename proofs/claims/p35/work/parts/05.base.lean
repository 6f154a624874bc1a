/-! THE ABSTRACT MACHINE: V K ws pc lv st: from the world ws, at pc with the locals lv and the stack st, the method comes to its end with Q. Each row of the kit once more, over such states. -/
abbrev TY (cy : Nat → ClassId) : List (ClassId × FieldType) := [(cy 0, .int), (cy 1, .long), (cy 2, .boolean), (cy 3, .object "KitchenDrift$House")]
abbrev Kx : Type := Program × Launch × Env × Room × State × MethodId × Array Value × List Frame × Method × Code × ByteArray × Nat × String × va_G × (Nat → ClassId) × (Nat → Prop) × (State → Prop) × (Nat × Nat)
/-- the private methods across the nest that calls of ours name; the class of the array of Houses -/
def nws : List (String × Nat × MethodName × String) := [(RX8, 9, yX1_init, "KitchenDrift"), (RX8, 26, yX2_init, "KitchenDrift"), (RX8, 33, yX0_init, "KitchenDrift"), (RX0, 11, yX1_init, "KitchenDrift"), (RX8, 40, yX3_init, "KitchenDrift"), (RX8, 47, yX4_init, "KitchenDrift"), (RX8, 54, yX5_init, "KitchenDrift"), (RX8, 61, yX6_init, "KitchenDrift"), (RX8, 68, yX7_init, "KitchenDrift"), (RX4, 49, yX8_isIn, "KitchenDrift")]
def Nw (U : State) : Prop := (∀ q ∈ nws, va_Nw (.methodLinkNest q.1 q.2.1 q.2.2.1 q.2.2.2) U) ∧ va_AO "KitchenDrift$House" U
theorem Nw.warm {s U : State} (hW : s.WarmedH U.vm) (h : Nw s) : Nw U := ⟨fun q hq => va_Nw.warmM hW (h.1 q hq), va_AO.moved hW.alike h.2⟩
theorem Nw.same {u U : State} (e : u.vm = U.vm) (h : Nw u) : Nw U := ⟨fun q hq => va_Nw.same rfl e (h.1 q hq), va_AO.moved (by rw [e]; exact Vm.Alike.refl _) h.2⟩
def Cx : Kx → Prop
  | (p, _, _, R, s, m, args, _, _, c, cc, nL, own, E, cy, A, _, cs) => p.tables.exec = Jvm.exec ∧ c.code = cc ∧ c.maxLocals = nL ∧ s.vm.findClass own = some m.cls ∧ (∀ w ∈ tb, w.before args s = true) ∧ va_K E vwCl (TY cy) s ∧ (∀ q, s.heap.size ≤ q → A q) ∧ cs.1 ≤ R.cells ∧ cs.2 ≤ R.slots ∧ Nw s
def V : Kx → va_W → Nat → List (Nat × Value) → List Value → Prop
  | (p, l, e, R, s, m, args, below, meth, c, _, nL, _, E, _, A, Q, cs), ws, pc, lv, st => ∀ (H : Heap) (locs : List Loc) (ls : Array Slot), va_P E vwCl ws H → va_D A ws → va_S A s.heap H locs → lv_has ls nL lv → W p l e R s m args below meth c H locs cs.1 cs.2 Q (F0 m pc ls st)
abbrev Kcc (K : Kx) : ByteArray := K.2.2.2.2.2.2.2.2.2.2.1
abbrev KnL (K : Kx) : Nat := K.2.2.2.2.2.2.2.2.2.2.2.1
abbrev Kown (K : Kx) : String := K.2.2.2.2.2.2.2.2.2.2.2.2.1
abbrev KE (K : Kx) : va_G := K.2.2.2.2.2.2.2.2.2.2.2.2.2.1
abbrev Kcy (K : Kx) : Nat → ClassId := K.2.2.2.2.2.2.2.2.2.2.2.2.2.2.1
abbrev Kl (K : Kx) : Launch := K.2.1
abbrev KR (K : Kx) : Room := K.2.2.2.1
abbrev Kret (K : Kx) : Option FieldType := K.2.2.2.2.2.2.2.2.1.sig.returnType
abbrev Klk (K : Kx) : Bool := K.2.2.2.2.2.2.2.2.1.locks
/-- K's parts by their names -/
def Cq (K : Kx) (cc : ByteArray) (nL : Nat) (own : String) (l : Launch) (R : Room) (E : va_G) (cy : Nat → ClassId) : Prop := Cx K ∧ Kcc K = cc ∧ KnL K = nL ∧ Kown K = own ∧ Kl K = l ∧ KR K = R ∧ KE K = E ∧ Kcy K = cy
section R5
variable {K : Kx} {cc : ByteArray} {nL : Nat} {own : String} {l : Launch} {R : Room} {E : va_G} {cy : Nat → ClassId} {ws ws' : va_W} {pc : Nat} {lv lv' : List (Nat × Value)} {rest : List Value}
theorem r_iload (hc : Cq K cc nL own l R E cy) (k : Nat) {i : Nat} {x : Int32} (hd : decode cc pc = .ok (.iload i, 2)) (hk : lv[k]? = some (i, .int x)) (n : V K ws (pc + 2) lv (.int x :: rest)) : V K ws pc lv rest := by
  obtain ⟨hc, rfl, rfl, rfl, rfl, rfl, rfl, rfl⟩ := hc
  obtain ⟨p, l, e, R, s, m, args, below, meth, c, cc, nL, own, E, cy, A, Q, cs⟩ := K
  exact fun H locs ls hP hD hS hl => lv_iload hc.1 hc.2.1 hd (lv_at hl k hk) (n H locs ls hP hD hS hl)
theorem r_iload_n (hc : Cq K cc nL own l R E cy) (k : Nat) {i : Fin 4} {x : Int32} (hd : decode cc pc = .ok (.iload_n i, 1)) (hk : lv[k]? = some (i.val, .int x)) (n : V K ws (pc + 1) lv (.int x :: rest)) : V K ws pc lv rest := by
  obtain ⟨hc, rfl, rfl, rfl, rfl, rfl, rfl, rfl⟩ := hc
  obtain ⟨p, l, e, R, s, m, args, below, meth, c, cc, nL, own, E, cy, A, Q, cs⟩ := K
  exact fun H locs ls hP hD hS hl => lv_iload_n hc.1 hc.2.1 hd rfl (lv_at hl k hk) (n H locs ls hP hD hS hl)
theorem r_lload (hc : Cq K cc nL own l R E cy) (k : Nat) {i : Nat} {x : Int64} (hd : decode cc pc = .ok (.lload i, 2)) (hk : lv[k]? = some (i, .long x)) (n : V K ws (pc + 2) lv (.long x :: rest)) : V K ws pc lv rest := by
  obtain ⟨hc, rfl, rfl, rfl, rfl, rfl, rfl, rfl⟩ := hc
  obtain ⟨p, l, e, R, s, m, args, below, meth, c, cc, nL, own, E, cy, A, Q, cs⟩ := K
  exact fun H locs ls hP hD hS hl => lv_lload hc.1 hc.2.1 hd (lv_at hl k hk) (n H locs ls hP hD hS hl)
theorem r_lload_n (hc : Cq K cc nL own l R E cy) (k : Nat) {i : Fin 4} {x : Int64} (hd : decode cc pc = .ok (.lload_n i, 1)) (hk : lv[k]? = some (i.val, .long x)) (n : V K ws (pc + 1) lv (.long x :: rest)) : V K ws pc lv rest := by
  obtain ⟨hc, rfl, rfl, rfl, rfl, rfl, rfl, rfl⟩ := hc
  obtain ⟨p, l, e, R, s, m, args, below, meth, c, cc, nL, own, E, cy, A, Q, cs⟩ := K
  exact fun H locs ls hP hD hS hl => lv_lload_n hc.1 hc.2.1 hd rfl (lv_at hl k hk) (n H locs ls hP hD hS hl)
theorem r_aload (hc : Cq K cc nL own l R E cy) (k : Nat) {i : Nat} {x : Nat} (hd : decode cc pc = .ok (.aload i, 2)) (hk : lv[k]? = some (i, .ref x)) (n : V K ws (pc + 2) lv (.ref x :: rest)) : V K ws pc lv rest := by
  obtain ⟨hc, rfl, rfl, rfl, rfl, rfl, rfl, rfl⟩ := hc
  obtain ⟨p, l, e, R, s, m, args, below, meth, c, cc, nL, own, E, cy, A, Q, cs⟩ := K
  exact fun H locs ls hP hD hS hl => lv_aload hc.1 hc.2.1 hd (lv_at hl k hk) (n H locs ls hP hD hS hl)
theorem r_aload_n (hc : Cq K cc nL own l R E cy) (k : Nat) {i : Fin 4} {x : Nat} (hd : decode cc pc = .ok (.aload_n i, 1)) (hk : lv[k]? = some (i.val, .ref x)) (n : V K ws (pc + 1) lv (.ref x :: rest)) : V K ws pc lv rest := by
  obtain ⟨hc, rfl, rfl, rfl, rfl, rfl, rfl, rfl⟩ := hc
  obtain ⟨p, l, e, R, s, m, args, below, meth, c, cc, nL, own, E, cy, A, Q, cs⟩ := K
  exact fun H locs ls hP hD hS hl => lv_aload_n hc.1 hc.2.1 hd rfl (lv_at hl k hk) (n H locs ls hP hD hS hl)
theorem r_istore (hc : Cq K cc nL own l R E cy) (lv' : List (Nat × Value)) {i : Nat} {x : Int32} (hd : decode cc pc = .ok (.istore i, 2)) (hn : i < nL) (hl' : (i, Value.int x) :: lv.filter (fun q => !(q.1 == i) && !(q.1 + 1 == i && q.2.category == 2)) = lv') (n : V K ws (pc + 2) lv' rest) : V K ws pc lv (.int x :: rest) := by
  obtain ⟨hc, rfl, rfl, rfl, rfl, rfl, rfl, rfl⟩ := hc
  obtain ⟨p, l, e, R, s, m, args, below, meth, c, cc, nL, own, E, cy, A, Q, cs⟩ := K
  exact fun H locs ls hP hD hS hl => lv_istore hc.1 hc.2.1 hd hl hn hl' (fun ls' h => n H locs ls' hP hD hS h)
theorem r_istore_n (hc : Cq K cc nL own l R E cy) (lv' : List (Nat × Value)) {i : Fin 4} {x : Int32} (hd : decode cc pc = .ok (.istore_n i, 1)) (hn : i.val < nL) (hl' : (i.val, Value.int x) :: lv.filter (fun q => !(q.1 == i.val) && !(q.1 + 1 == i.val && q.2.category == 2)) = lv') (n : V K ws (pc + 1) lv' rest) : V K ws pc lv (.int x :: rest) := by
  obtain ⟨hc, rfl, rfl, rfl, rfl, rfl, rfl, rfl⟩ := hc
  obtain ⟨p, l, e, R, s, m, args, below, meth, c, cc, nL, own, E, cy, A, Q, cs⟩ := K
  exact fun H locs ls hP hD hS hl => lv_istore_n hc.1 hc.2.1 hd rfl hl hn hl' (fun ls' h => n H locs ls' hP hD hS h)
theorem r_lstore (hc : Cq K cc nL own l R E cy) (lv' : List (Nat × Value)) {i : Nat} {x : Int64} (hd : decode cc pc = .ok (.lstore i, 2)) (hn : i + 1 < nL) (hl' : (i, Value.long x) :: lv.filter (fun q => !(q.1 == i) && (!(q.1 == i + 1) && !(q.1 + 1 == i && q.2.category == 2))) = lv') (n : V K ws (pc + 2) lv' rest) : V K ws pc lv (.long x :: rest) := by
  obtain ⟨hc, rfl, rfl, rfl, rfl, rfl, rfl, rfl⟩ := hc
  obtain ⟨p, l, e, R, s, m, args, below, meth, c, cc, nL, own, E, cy, A, Q, cs⟩ := K
  exact fun H locs ls hP hD hS hl => lv_lstore hc.1 hc.2.1 hd hl hn hl' (fun ls' h => n H locs ls' hP hD hS h)
theorem r_lstore_n (hc : Cq K cc nL own l R E cy) (lv' : List (Nat × Value)) {i : Fin 4} {x : Int64} (hd : decode cc pc = .ok (.lstore_n i, 1)) (hn : i.val + 1 < nL) (hl' : (i.val, Value.long x) :: lv.filter (fun q => !(q.1 == i.val) && (!(q.1 == i.val + 1) && !(q.1 + 1 == i.val && q.2.category == 2))) = lv') (n : V K ws (pc + 1) lv' rest) : V K ws pc lv (.long x :: rest) := by
  obtain ⟨hc, rfl, rfl, rfl, rfl, rfl, rfl, rfl⟩ := hc
  obtain ⟨p, l, e, R, s, m, args, below, meth, c, cc, nL, own, E, cy, A, Q, cs⟩ := K
  exact fun H locs ls hP hD hS hl => lv_lstore_n hc.1 hc.2.1 hd rfl hl hn hl' (fun ls' h => n H locs ls' hP hD hS h)
theorem r_astore (hc : Cq K cc nL own l R E cy) (lv' : List (Nat × Value)) {i : Nat} {x : Nat} (hd : decode cc pc = .ok (.astore i, 2)) (hn : i < nL) (hl' : (i, Value.ref x) :: lv.filter (fun q => !(q.1 == i) && !(q.1 + 1 == i && q.2.category == 2)) = lv') (n : V K ws (pc + 2) lv' rest) : V K ws pc lv (.ref x :: rest) := by
  obtain ⟨hc, rfl, rfl, rfl, rfl, rfl, rfl, rfl⟩ := hc
  obtain ⟨p, l, e, R, s, m, args, below, meth, c, cc, nL, own, E, cy, A, Q, cs⟩ := K
  exact fun H locs ls hP hD hS hl => lv_astore hc.1 hc.2.1 hd hl hn hl' (fun ls' h => n H locs ls' hP hD hS h)
theorem r_astore_n (hc : Cq K cc nL own l R E cy) (lv' : List (Nat × Value)) {i : Fin 4} {x : Nat} (hd : decode cc pc = .ok (.astore_n i, 1)) (hn : i.val < nL) (hl' : (i.val, Value.ref x) :: lv.filter (fun q => !(q.1 == i.val) && !(q.1 + 1 == i.val && q.2.category == 2)) = lv') (n : V K ws (pc + 1) lv' rest) : V K ws pc lv (.ref x :: rest) := by
  obtain ⟨hc, rfl, rfl, rfl, rfl, rfl, rfl, rfl⟩ := hc
  obtain ⟨p, l, e, R, s, m, args, below, meth, c, cc, nL, own, E, cy, A, Q, cs⟩ := K
  exact fun H locs ls hP hD hS hl => lv_astore_n hc.1 hc.2.1 hd rfl hl hn hl' (fun ls' h => n H locs ls' hP hD hS h)
theorem r_iinc (hc : Cq K cc nL own l R E cy) (k : Nat) (lv' : List (Nat × Value)) {i : Nat} {nn : Int} {x : Int32} (v : Int32) (hd : decode cc pc = .ok (.iinc i nn, 3)) (hk : lv[k]? = some (i, .int x)) (hv : x + Int32.ofInt nn = v) (hn : i < nL) (hl' : (i, Value.int v) :: lv.filter (fun q => !(q.1 == i) && !(q.1 + 1 == i && q.2.category == 2)) = lv') (n : V K ws (pc + 3) lv' rest) : V K ws pc lv rest := by
  obtain ⟨hc, rfl, rfl, rfl, rfl, rfl, rfl, rfl⟩ := hc
  obtain ⟨p, l, e, R, s, m, args, below, meth, c, cc, nL, own, E, cy, A, Q, cs⟩ := K
  exact fun H locs ls hP hD hS hl => lv_iinc hc.1 hc.2.1 hd hl hk hv hn hl' (fun ls' h => n H locs ls' hP hD hS h)
theorem r_iconst (hc : Cq K cc nL own l R E cy) {nn : Int} (v : Int32) (hd : decode cc pc = .ok (.iconst nn, 1)) (hv : Int32.ofInt nn = v) (n : V K ws (pc + 1) lv (.int v :: rest)) : V K ws pc lv rest := by
  obtain ⟨hc, rfl, rfl, rfl, rfl, rfl, rfl, rfl⟩ := hc
  obtain ⟨p, l, e, R, s, m, args, below, meth, c, cc, nL, own, E, cy, A, Q, cs⟩ := K
  exact fun H locs ls hP hD hS hl => lv_iconst hc.1 hc.2.1 hd hv (n H locs ls hP hD hS hl)
theorem r_bipush (hc : Cq K cc nL own l R E cy) {nn : Int} (v : Int32) (hd : decode cc pc = .ok (.bipush nn, 2)) (hv : (Int8.ofInt nn).toInt32 = v) (n : V K ws (pc + 2) lv (.int v :: rest)) : V K ws pc lv rest := by
  obtain ⟨hc, rfl, rfl, rfl, rfl, rfl, rfl, rfl⟩ := hc
  obtain ⟨p, l, e, R, s, m, args, below, meth, c, cc, nL, own, E, cy, A, Q, cs⟩ := K
  exact fun H locs ls hP hD hS hl => lv_bipush hc.1 hc.2.1 hd hv (n H locs ls hP hD hS hl)
theorem r_sipush (hc : Cq K cc nL own l R E cy) {nn : Int} (v : Int32) (hd : decode cc pc = .ok (.sipush nn, 3)) (hv : (Int16.ofInt nn).toInt32 = v) (n : V K ws (pc + 3) lv (.int v :: rest)) : V K ws pc lv rest := by
  obtain ⟨hc, rfl, rfl, rfl, rfl, rfl, rfl, rfl⟩ := hc
  obtain ⟨p, l, e, R, s, m, args, below, meth, c, cc, nL, own, E, cy, A, Q, cs⟩ := K
  exact fun H locs ls hP hD hS hl => lv_sipush hc.1 hc.2.1 hd hv (n H locs ls hP hD hS hl)
theorem r_lconst (hc : Cq K cc nL own l R E cy) {nn : Fin 2} (v : Int64) (hd : decode cc pc = .ok (.lconst nn, 1)) (hv : Int64.ofNat (nn : Nat) = v) (n : V K ws (pc + 1) lv (.long v :: rest)) : V K ws pc lv rest := by
  obtain ⟨hc, rfl, rfl, rfl, rfl, rfl, rfl, rfl⟩ := hc
  obtain ⟨p, l, e, R, s, m, args, below, meth, c, cc, nL, own, E, cy, A, Q, cs⟩ := K
  exact fun H locs ls hP hD hS hl => lv_lconst hc.1 hc.2.1 hd hv (n H locs ls hP hD hS hl)
theorem r_ldc (hc : Cq K cc nL own l R E cy) {index : Nat} {v : Int32} (hm : Cond.constant own index v ∈ tb) (hd : decode cc pc = .ok (.ldc index, 2)) (n : V K ws (pc + 2) lv (.int v :: rest)) : V K ws pc lv rest := by
  obtain ⟨hc, rfl, rfl, rfl, rfl, rfl, rfl, rfl⟩ := hc
  obtain ⟨p, l, e, R, s, m, args, below, meth, c, cc, nL, own, E, cy, A, Q, cs⟩ := K
  exact fun H locs ls hP hD hS hl => lv_ldc hc.1 hc.2.1 hc.2.2.2.1 (hc.2.2.2.2.1 _ hm) hd (n H locs ls hP hD hS hl)
theorem r_ldcw (hc : Cq K cc nL own l R E cy) {index : Nat} {v : Int32} (hm : Cond.constant own index v ∈ tb) (hd : decode cc pc = .ok (.ldc_w index, 3)) (n : V K ws (pc + 3) lv (.int v :: rest)) : V K ws pc lv rest := by
  obtain ⟨hc, rfl, rfl, rfl, rfl, rfl, rfl, rfl⟩ := hc
  obtain ⟨p, l, e, R, s, m, args, below, meth, c, cc, nL, own, E, cy, A, Q, cs⟩ := K
  exact fun H locs ls hP hD hS hl => lv_ldcw hc.1 hc.2.1 hc.2.2.2.1 (hc.2.2.2.2.1 _ hm) hd (n H locs ls hP hD hS hl)
theorem r_ldc2 (hc : Cq K cc nL own l R E cy) {index : Nat} {v : Int64} (hm : Cond.constantLong own index v ∈ tb) (hd : decode cc pc = .ok (.ldc2_w index, 3)) (n : V K ws (pc + 3) lv (.long v :: rest)) : V K ws pc lv rest := by
  obtain ⟨hc, rfl, rfl, rfl, rfl, rfl, rfl, rfl⟩ := hc
  obtain ⟨p, l, e, R, s, m, args, below, meth, c, cc, nL, own, E, cy, A, Q, cs⟩ := K
  exact fun H locs ls hP hD hS hl => lv_ldc2 hc.1 hc.2.1 hc.2.2.2.1 (hc.2.2.2.2.1 _ hm) hd (n H locs ls hP hD hS hl)
theorem r_iadd (hc : Cq K cc nL own l R E cy) {x y : Int32} (hd : decode cc pc = .ok (.iadd, 1)) (n : V K ws (pc + 1) lv (.int (x + y) :: rest)) : V K ws pc lv (.int y :: .int x :: rest) := by
  obtain ⟨hc, rfl, rfl, rfl, rfl, rfl, rfl, rfl⟩ := hc
  obtain ⟨p, l, e, R, s, m, args, below, meth, c, cc, nL, own, E, cy, A, Q, cs⟩ := K
  exact fun H locs ls hP hD hS hl => lv_iadd hc.1 hc.2.1 hd (n H locs ls hP hD hS hl)
theorem r_isub (hc : Cq K cc nL own l R E cy) {x y : Int32} (hd : decode cc pc = .ok (.isub, 1)) (n : V K ws (pc + 1) lv (.int (x - y) :: rest)) : V K ws pc lv (.int y :: .int x :: rest) := by
  obtain ⟨hc, rfl, rfl, rfl, rfl, rfl, rfl, rfl⟩ := hc
  obtain ⟨p, l, e, R, s, m, args, below, meth, c, cc, nL, own, E, cy, A, Q, cs⟩ := K
  exact fun H locs ls hP hD hS hl => lv_isub hc.1 hc.2.1 hd (n H locs ls hP hD hS hl)
theorem r_imul (hc : Cq K cc nL own l R E cy) {x y : Int32} (hd : decode cc pc = .ok (.imul, 1)) (n : V K ws (pc + 1) lv (.int (x * y) :: rest)) : V K ws pc lv (.int y :: .int x :: rest) := by
  obtain ⟨hc, rfl, rfl, rfl, rfl, rfl, rfl, rfl⟩ := hc
  obtain ⟨p, l, e, R, s, m, args, below, meth, c, cc, nL, own, E, cy, A, Q, cs⟩ := K
  exact fun H locs ls hP hD hS hl => lv_imul hc.1 hc.2.1 hd (n H locs ls hP hD hS hl)
theorem r_iand (hc : Cq K cc nL own l R E cy) {x y : Int32} (hd : decode cc pc = .ok (.iand, 1)) (n : V K ws (pc + 1) lv (.int (x &&& y) :: rest)) : V K ws pc lv (.int y :: .int x :: rest) := by
  obtain ⟨hc, rfl, rfl, rfl, rfl, rfl, rfl, rfl⟩ := hc
  obtain ⟨p, l, e, R, s, m, args, below, meth, c, cc, nL, own, E, cy, A, Q, cs⟩ := K
  exact fun H locs ls hP hD hS hl => lv_iand hc.1 hc.2.1 hd (n H locs ls hP hD hS hl)
theorem r_ior (hc : Cq K cc nL own l R E cy) {x y : Int32} (hd : decode cc pc = .ok (.ior, 1)) (n : V K ws (pc + 1) lv (.int (x ||| y) :: rest)) : V K ws pc lv (.int y :: .int x :: rest) := by
  obtain ⟨hc, rfl, rfl, rfl, rfl, rfl, rfl, rfl⟩ := hc
  obtain ⟨p, l, e, R, s, m, args, below, meth, c, cc, nL, own, E, cy, A, Q, cs⟩ := K
  exact fun H locs ls hP hD hS hl => lv_ior hc.1 hc.2.1 hd (n H locs ls hP hD hS hl)
theorem r_ixor (hc : Cq K cc nL own l R E cy) {x y : Int32} (hd : decode cc pc = .ok (.ixor, 1)) (n : V K ws (pc + 1) lv (.int (x ^^^ y) :: rest)) : V K ws pc lv (.int y :: .int x :: rest) := by
  obtain ⟨hc, rfl, rfl, rfl, rfl, rfl, rfl, rfl⟩ := hc
  obtain ⟨p, l, e, R, s, m, args, below, meth, c, cc, nL, own, E, cy, A, Q, cs⟩ := K
  exact fun H locs ls hP hD hS hl => lv_ixor hc.1 hc.2.1 hd (n H locs ls hP hD hS hl)
theorem r_ishl (hc : Cq K cc nL own l R E cy) {x y : Int32} (hd : decode cc pc = .ok (.ishl, 1)) (n : V K ws (pc + 1) lv (.int (x <<< (y &&& 31)) :: rest)) : V K ws pc lv (.int y :: .int x :: rest) := by
  obtain ⟨hc, rfl, rfl, rfl, rfl, rfl, rfl, rfl⟩ := hc
  obtain ⟨p, l, e, R, s, m, args, below, meth, c, cc, nL, own, E, cy, A, Q, cs⟩ := K
  exact fun H locs ls hP hD hS hl => lv_ishl hc.1 hc.2.1 hd (n H locs ls hP hD hS hl)
theorem r_ishr (hc : Cq K cc nL own l R E cy) {x y : Int32} (hd : decode cc pc = .ok (.ishr, 1)) (n : V K ws (pc + 1) lv (.int (x >>> (y &&& 31)) :: rest)) : V K ws pc lv (.int y :: .int x :: rest) := by
  obtain ⟨hc, rfl, rfl, rfl, rfl, rfl, rfl, rfl⟩ := hc
  obtain ⟨p, l, e, R, s, m, args, below, meth, c, cc, nL, own, E, cy, A, Q, cs⟩ := K
  exact fun H locs ls hP hD hS hl => lv_ishr hc.1 hc.2.1 hd (n H locs ls hP hD hS hl)
theorem r_idiv (hc : Cq K cc nL own l R E cy) {x y : Int32} (hd : decode cc pc = .ok (.idiv, 1)) (hne : ¬ y = 0) (n : V K ws (pc + 1) lv (.int (x / y) :: rest)) : V K ws pc lv (.int y :: .int x :: rest) := by
  obtain ⟨hc, rfl, rfl, rfl, rfl, rfl, rfl, rfl⟩ := hc
  obtain ⟨p, l, e, R, s, m, args, below, meth, c, cc, nL, own, E, cy, A, Q, cs⟩ := K
  exact fun H locs ls hP hD hS hl => lv_idiv hc.1 hc.2.1 hd hne (n H locs ls hP hD hS hl)
theorem r_irem (hc : Cq K cc nL own l R E cy) {x y : Int32} (hd : decode cc pc = .ok (.irem, 1)) (hne : ¬ y = 0) (n : V K ws (pc + 1) lv (.int (x - x / y * y) :: rest)) : V K ws pc lv (.int y :: .int x :: rest) := by
  obtain ⟨hc, rfl, rfl, rfl, rfl, rfl, rfl, rfl⟩ := hc
  obtain ⟨p, l, e, R, s, m, args, below, meth, c, cc, nL, own, E, cy, A, Q, cs⟩ := K
  exact fun H locs ls hP hD hS hl => lv_irem hc.1 hc.2.1 hd hne (n H locs ls hP hD hS hl)
theorem r_iushr (hc : Cq K cc nL own l R E cy) {x y : Int32} (hd : decode cc pc = .ok (.iushr, 1)) (n : V K ws (pc + 1) lv (.int ((x.toUInt32 >>> (y.toUInt32 &&& Int32.toUInt32 31)).toInt32) :: rest)) : V K ws pc lv (.int y :: .int x :: rest) := by
  obtain ⟨hc, rfl, rfl, rfl, rfl, rfl, rfl, rfl⟩ := hc
  obtain ⟨p, l, e, R, s, m, args, below, meth, c, cc, nL, own, E, cy, A, Q, cs⟩ := K
  exact fun H locs ls hP hD hS hl => lv_iushr hc.1 hc.2.1 hd rfl (n H locs ls hP hD hS hl)
theorem r_ladd (hc : Cq K cc nL own l R E cy) {x y : Int64} (hd : decode cc pc = .ok (.ladd, 1)) (n : V K ws (pc + 1) lv (.long (x + y) :: rest)) : V K ws pc lv (.long y :: .long x :: rest) := by
  obtain ⟨hc, rfl, rfl, rfl, rfl, rfl, rfl, rfl⟩ := hc
  obtain ⟨p, l, e, R, s, m, args, below, meth, c, cc, nL, own, E, cy, A, Q, cs⟩ := K
  exact fun H locs ls hP hD hS hl => lv_ladd hc.1 hc.2.1 hd (n H locs ls hP hD hS hl)
theorem r_lmul (hc : Cq K cc nL own l R E cy) {x y : Int64} (hd : decode cc pc = .ok (.lmul, 1)) (n : V K ws (pc + 1) lv (.long (x * y) :: rest)) : V K ws pc lv (.long y :: .long x :: rest) := by
  obtain ⟨hc, rfl, rfl, rfl, rfl, rfl, rfl, rfl⟩ := hc
  obtain ⟨p, l, e, R, s, m, args, below, meth, c, cc, nL, own, E, cy, A, Q, cs⟩ := K
  exact fun H locs ls hP hD hS hl => lv_lmul hc.1 hc.2.1 hd (n H locs ls hP hD hS hl)
theorem r_lor (hc : Cq K cc nL own l R E cy) {x y : Int64} (hd : decode cc pc = .ok (.lor, 1)) (n : V K ws (pc + 1) lv (.long (x ||| y) :: rest)) : V K ws pc lv (.long y :: .long x :: rest) := by
  obtain ⟨hc, rfl, rfl, rfl, rfl, rfl, rfl, rfl⟩ := hc
  obtain ⟨p, l, e, R, s, m, args, below, meth, c, cc, nL, own, E, cy, A, Q, cs⟩ := K
  exact fun H locs ls hP hD hS hl => lv_lor hc.1 hc.2.1 hd (n H locs ls hP hD hS hl)
theorem r_ldiv (hc : Cq K cc nL own l R E cy) {x y : Int64} (hd : decode cc pc = .ok (.ldiv, 1)) (hne : ¬ y = 0) (n : V K ws (pc + 1) lv (.long (x / y) :: rest)) : V K ws pc lv (.long y :: .long x :: rest) := by
  obtain ⟨hc, rfl, rfl, rfl, rfl, rfl, rfl, rfl⟩ := hc
  obtain ⟨p, l, e, R, s, m, args, below, meth, c, cc, nL, own, E, cy, A, Q, cs⟩ := K
  exact fun H locs ls hP hD hS hl => lv_ldiv hc.1 hc.2.1 hd hne (n H locs ls hP hD hS hl)
theorem r_lrem (hc : Cq K cc nL own l R E cy) {x y : Int64} (hd : decode cc pc = .ok (.lrem, 1)) (hne : ¬ y = 0) (n : V K ws (pc + 1) lv (.long (x - x / y * y) :: rest)) : V K ws pc lv (.long y :: .long x :: rest) := by
  obtain ⟨hc, rfl, rfl, rfl, rfl, rfl, rfl, rfl⟩ := hc
  obtain ⟨p, l, e, R, s, m, args, below, meth, c, cc, nL, own, E, cy, A, Q, cs⟩ := K
  exact fun H locs ls hP hD hS hl => lv_lrem hc.1 hc.2.1 hd hne (n H locs ls hP hD hS hl)
theorem r_lshl (hc : Cq K cc nL own l R E cy) {x : Int64} {y : Int32} (hd : decode cc pc = .ok (.lshl, 1)) (n : V K ws (pc + 1) lv (.long (x <<< (y.toInt64 &&& 63)) :: rest)) : V K ws pc lv (.int y :: .long x :: rest) := by
  obtain ⟨hc, rfl, rfl, rfl, rfl, rfl, rfl, rfl⟩ := hc
  obtain ⟨p, l, e, R, s, m, args, below, meth, c, cc, nL, own, E, cy, A, Q, cs⟩ := K
  exact fun H locs ls hP hD hS hl => lv_lshl hc.1 hc.2.1 hd rfl (n H locs ls hP hD hS hl)
theorem r_i2l (hc : Cq K cc nL own l R E cy) {x : Int32} (hd : decode cc pc = .ok (.i2l, 1)) (n : V K ws (pc + 1) lv (.long x.toInt64 :: rest)) : V K ws pc lv (.int x :: rest) := by
  obtain ⟨hc, rfl, rfl, rfl, rfl, rfl, rfl, rfl⟩ := hc
  obtain ⟨p, l, e, R, s, m, args, below, meth, c, cc, nL, own, E, cy, A, Q, cs⟩ := K
  exact fun H locs ls hP hD hS hl => lv_i2l hc.1 hc.2.1 hd rfl (n H locs ls hP hD hS hl)
theorem r_lcmp (hc : Cq K cc nL own l R E cy) {x y : Int64} (hd : decode cc pc = .ok (.lcmp, 1)) (n : V K ws (pc + 1) lv (.int (lg_cmp x y) :: rest)) : V K ws pc lv (.long y :: .long x :: rest) := by
  obtain ⟨hc, rfl, rfl, rfl, rfl, rfl, rfl, rfl⟩ := hc
  obtain ⟨p, l, e, R, s, m, args, below, meth, c, cc, nL, own, E, cy, A, Q, cs⟩ := K
  exact fun H locs ls hP hD hS hl => W.lcmp hc.1 hc.2.1 hd (n H locs ls hP hD hS hl)
theorem r_dup (hc : Cq K cc nL own l R E cy) {va : Value} (hd : decode cc pc = .ok (.dup, 1)) (hva : va.category = 1) (n : V K ws (pc + 1) lv (va :: va :: rest)) : V K ws pc lv (va :: rest) := by
  obtain ⟨hc, rfl, rfl, rfl, rfl, rfl, rfl, rfl⟩ := hc
  obtain ⟨p, l, e, R, s, m, args, below, meth, c, cc, nL, own, E, cy, A, Q, cs⟩ := K
  exact fun H locs ls hP hD hS hl => lv_dup hc.1 hc.2.1 hd hva (n H locs ls hP hD hS hl)
theorem r_dup2_11 (hc : Cq K cc nL own l R E cy) {va vb : Value} (hd : decode cc pc = .ok (.dup2, 1)) (hva : va.category = 1) (hvb : vb.category = 1) (n : V K ws (pc + 1) lv (va :: vb :: va :: vb :: rest)) : V K ws pc lv (va :: vb :: rest) := by
  obtain ⟨hc, rfl, rfl, rfl, rfl, rfl, rfl, rfl⟩ := hc
  obtain ⟨p, l, e, R, s, m, args, below, meth, c, cc, nL, own, E, cy, A, Q, cs⟩ := K
  exact fun H locs ls hP hD hS hl => lv_dup2_11 hc.1 hc.2.1 hd hva hvb (n H locs ls hP hD hS hl)
theorem r_dup2_2 (hc : Cq K cc nL own l R E cy) {va : Value} (hd : decode cc pc = .ok (.dup2, 1)) (hva : va.category = 2) (n : V K ws (pc + 1) lv (va :: va :: rest)) : V K ws pc lv (va :: rest) := by
  obtain ⟨hc, rfl, rfl, rfl, rfl, rfl, rfl, rfl⟩ := hc
  obtain ⟨p, l, e, R, s, m, args, below, meth, c, cc, nL, own, E, cy, A, Q, cs⟩ := K
  exact fun H locs ls hP hD hS hl => lv_dup2_2 hc.1 hc.2.1 hd hva (n H locs ls hP hD hS hl)
theorem r_pop (hc : Cq K cc nL own l R E cy) {va : Value} (hd : decode cc pc = .ok (.pop, 1)) (hva : va.category = 1) (n : V K ws (pc + 1) lv rest) : V K ws pc lv (va :: rest) := by
  obtain ⟨hc, rfl, rfl, rfl, rfl, rfl, rfl, rfl⟩ := hc
  obtain ⟨p, l, e, R, s, m, args, below, meth, c, cc, nL, own, E, cy, A, Q, cs⟩ := K
  exact fun H locs ls hP hD hS hl => lv_pop hc.1 hc.2.1 hd hva (n H locs ls hP hD hS hl)
theorem r_icmp_eq (hc : Cq K cc nL own l R E cy) (tgt : Nat) {x y : Int32} {off : Int} (hd : decode cc pc = .ok (.if_icmp .eq off, 3)) (ht : (pc : Int) + off = (tgt : Int)) (kt : x = y → V K ws tgt lv rest) (kf : ¬ (x = y) → V K ws (pc + 3) lv rest) : V K ws pc lv (.int y :: .int x :: rest) := by
  obtain ⟨hc, rfl, rfl, rfl, rfl, rfl, rfl, rfl⟩ := hc
  obtain ⟨p, l, e, R, s, m, args, below, meth, c, cc, nL, own, E, cy, A, Q, cs⟩ := K
  exact fun H locs ls hP hD hS hl => lv_icmp_eq hc.1 hc.2.1 hd ht (fun h => kt h H locs ls hP hD hS hl) (fun h => kf h H locs ls hP hD hS hl)
theorem r_if_eq (hc : Cq K cc nL own l R E cy) (tgt : Nat) {x : Int32} {off : Int} (hd : decode cc pc = .ok (.ifCond .eq off, 3)) (ht : (pc : Int) + off = (tgt : Int)) (kt : x = 0 → V K ws tgt lv rest) (kf : ¬ (x = 0) → V K ws (pc + 3) lv rest) : V K ws pc lv (.int x :: rest) := by
  obtain ⟨hc, rfl, rfl, rfl, rfl, rfl, rfl, rfl⟩ := hc
  obtain ⟨p, l, e, R, s, m, args, below, meth, c, cc, nL, own, E, cy, A, Q, cs⟩ := K
  exact fun H locs ls hP hD hS hl => lv_if_eq hc.1 hc.2.1 hd ht (fun h => kt h H locs ls hP hD hS hl) (fun h => kf h H locs ls hP hD hS hl)
theorem r_icmp_ne (hc : Cq K cc nL own l R E cy) (tgt : Nat) {x y : Int32} {off : Int} (hd : decode cc pc = .ok (.if_icmp .ne off, 3)) (ht : (pc : Int) + off = (tgt : Int)) (kt : ¬ x = y → V K ws tgt lv rest) (kf : x = y → V K ws (pc + 3) lv rest) : V K ws pc lv (.int y :: .int x :: rest) := by
  obtain ⟨hc, rfl, rfl, rfl, rfl, rfl, rfl, rfl⟩ := hc
  obtain ⟨p, l, e, R, s, m, args, below, meth, c, cc, nL, own, E, cy, A, Q, cs⟩ := K
  exact fun H locs ls hP hD hS hl => lv_icmp_ne hc.1 hc.2.1 hd ht (fun h => kt h H locs ls hP hD hS hl) (fun h => kf h H locs ls hP hD hS hl)
theorem r_if_ne (hc : Cq K cc nL own l R E cy) (tgt : Nat) {x : Int32} {off : Int} (hd : decode cc pc = .ok (.ifCond .ne off, 3)) (ht : (pc : Int) + off = (tgt : Int)) (kt : ¬ x = 0 → V K ws tgt lv rest) (kf : x = 0 → V K ws (pc + 3) lv rest) : V K ws pc lv (.int x :: rest) := by
  obtain ⟨hc, rfl, rfl, rfl, rfl, rfl, rfl, rfl⟩ := hc
  obtain ⟨p, l, e, R, s, m, args, below, meth, c, cc, nL, own, E, cy, A, Q, cs⟩ := K
  exact fun H locs ls hP hD hS hl => lv_if_ne hc.1 hc.2.1 hd ht (fun h => kt h H locs ls hP hD hS hl) (fun h => kf h H locs ls hP hD hS hl)
theorem r_icmp_lt (hc : Cq K cc nL own l R E cy) (tgt : Nat) {x y : Int32} {off : Int} (hd : decode cc pc = .ok (.if_icmp .lt off, 3)) (ht : (pc : Int) + off = (tgt : Int)) (kt : x < y → V K ws tgt lv rest) (kf : ¬ (x < y) → V K ws (pc + 3) lv rest) : V K ws pc lv (.int y :: .int x :: rest) := by
  obtain ⟨hc, rfl, rfl, rfl, rfl, rfl, rfl, rfl⟩ := hc
  obtain ⟨p, l, e, R, s, m, args, below, meth, c, cc, nL, own, E, cy, A, Q, cs⟩ := K
  exact fun H locs ls hP hD hS hl => lv_icmp_lt hc.1 hc.2.1 hd ht (fun h => kt h H locs ls hP hD hS hl) (fun h => kf h H locs ls hP hD hS hl)
theorem r_if_lt (hc : Cq K cc nL own l R E cy) (tgt : Nat) {x : Int32} {off : Int} (hd : decode cc pc = .ok (.ifCond .lt off, 3)) (ht : (pc : Int) + off = (tgt : Int)) (kt : x < 0 → V K ws tgt lv rest) (kf : ¬ (x < 0) → V K ws (pc + 3) lv rest) : V K ws pc lv (.int x :: rest) := by
  obtain ⟨hc, rfl, rfl, rfl, rfl, rfl, rfl, rfl⟩ := hc
  obtain ⟨p, l, e, R, s, m, args, below, meth, c, cc, nL, own, E, cy, A, Q, cs⟩ := K
  exact fun H locs ls hP hD hS hl => lv_if_lt hc.1 hc.2.1 hd ht (fun h => kt h H locs ls hP hD hS hl) (fun h => kf h H locs ls hP hD hS hl)
theorem r_icmp_ge (hc : Cq K cc nL own l R E cy) (tgt : Nat) {x y : Int32} {off : Int} (hd : decode cc pc = .ok (.if_icmp .ge off, 3)) (ht : (pc : Int) + off = (tgt : Int)) (kt : y ≤ x → V K ws tgt lv rest) (kf : ¬ (y ≤ x) → V K ws (pc + 3) lv rest) : V K ws pc lv (.int y :: .int x :: rest) := by
  obtain ⟨hc, rfl, rfl, rfl, rfl, rfl, rfl, rfl⟩ := hc
  obtain ⟨p, l, e, R, s, m, args, below, meth, c, cc, nL, own, E, cy, A, Q, cs⟩ := K
  exact fun H locs ls hP hD hS hl => lv_icmp_ge hc.1 hc.2.1 hd ht (fun h => kt h H locs ls hP hD hS hl) (fun h => kf h H locs ls hP hD hS hl)
theorem r_if_ge (hc : Cq K cc nL own l R E cy) (tgt : Nat) {x : Int32} {off : Int} (hd : decode cc pc = .ok (.ifCond .ge off, 3)) (ht : (pc : Int) + off = (tgt : Int)) (kt : 0 ≤ x → V K ws tgt lv rest) (kf : ¬ (0 ≤ x) → V K ws (pc + 3) lv rest) : V K ws pc lv (.int x :: rest) := by
  obtain ⟨hc, rfl, rfl, rfl, rfl, rfl, rfl, rfl⟩ := hc
  obtain ⟨p, l, e, R, s, m, args, below, meth, c, cc, nL, own, E, cy, A, Q, cs⟩ := K
  exact fun H locs ls hP hD hS hl => lv_if_ge hc.1 hc.2.1 hd ht (fun h => kt h H locs ls hP hD hS hl) (fun h => kf h H locs ls hP hD hS hl)
theorem r_icmp_gt (hc : Cq K cc nL own l R E cy) (tgt : Nat) {x y : Int32} {off : Int} (hd : decode cc pc = .ok (.if_icmp .gt off, 3)) (ht : (pc : Int) + off = (tgt : Int)) (kt : y < x → V K ws tgt lv rest) (kf : ¬ (y < x) → V K ws (pc + 3) lv rest) : V K ws pc lv (.int y :: .int x :: rest) := by
  obtain ⟨hc, rfl, rfl, rfl, rfl, rfl, rfl, rfl⟩ := hc
  obtain ⟨p, l, e, R, s, m, args, below, meth, c, cc, nL, own, E, cy, A, Q, cs⟩ := K
  exact fun H locs ls hP hD hS hl => lv_icmp_gt hc.1 hc.2.1 hd ht (fun h => kt h H locs ls hP hD hS hl) (fun h => kf h H locs ls hP hD hS hl)
theorem r_if_gt (hc : Cq K cc nL own l R E cy) (tgt : Nat) {x : Int32} {off : Int} (hd : decode cc pc = .ok (.ifCond .gt off, 3)) (ht : (pc : Int) + off = (tgt : Int)) (kt : 0 < x → V K ws tgt lv rest) (kf : ¬ (0 < x) → V K ws (pc + 3) lv rest) : V K ws pc lv (.int x :: rest) := by
  obtain ⟨hc, rfl, rfl, rfl, rfl, rfl, rfl, rfl⟩ := hc
  obtain ⟨p, l, e, R, s, m, args, below, meth, c, cc, nL, own, E, cy, A, Q, cs⟩ := K
  exact fun H locs ls hP hD hS hl => lv_if_gt hc.1 hc.2.1 hd ht (fun h => kt h H locs ls hP hD hS hl) (fun h => kf h H locs ls hP hD hS hl)
theorem r_icmp_le (hc : Cq K cc nL own l R E cy) (tgt : Nat) {x y : Int32} {off : Int} (hd : decode cc pc = .ok (.if_icmp .le off, 3)) (ht : (pc : Int) + off = (tgt : Int)) (kt : x ≤ y → V K ws tgt lv rest) (kf : ¬ (x ≤ y) → V K ws (pc + 3) lv rest) : V K ws pc lv (.int y :: .int x :: rest) := by
  obtain ⟨hc, rfl, rfl, rfl, rfl, rfl, rfl, rfl⟩ := hc
  obtain ⟨p, l, e, R, s, m, args, below, meth, c, cc, nL, own, E, cy, A, Q, cs⟩ := K
  exact fun H locs ls hP hD hS hl => lv_icmp_le hc.1 hc.2.1 hd ht (fun h => kt h H locs ls hP hD hS hl) (fun h => kf h H locs ls hP hD hS hl)
theorem r_if_le (hc : Cq K cc nL own l R E cy) (tgt : Nat) {x : Int32} {off : Int} (hd : decode cc pc = .ok (.ifCond .le off, 3)) (ht : (pc : Int) + off = (tgt : Int)) (kt : x ≤ 0 → V K ws tgt lv rest) (kf : ¬ (x ≤ 0) → V K ws (pc + 3) lv rest) : V K ws pc lv (.int x :: rest) := by
  obtain ⟨hc, rfl, rfl, rfl, rfl, rfl, rfl, rfl⟩ := hc
  obtain ⟨p, l, e, R, s, m, args, below, meth, c, cc, nL, own, E, cy, A, Q, cs⟩ := K
  exact fun H locs ls hP hD hS hl => lv_if_le hc.1 hc.2.1 hd ht (fun h => kt h H locs ls hP hD hS hl) (fun h => kf h H locs ls hP hD hS hl)
theorem r_goto (hc : Cq K cc nL own l R E cy) (tgt : Nat) {off : Int} (hd : decode cc pc = .ok (.goto off, 3)) (ht : (pc : Int) + off = (tgt : Int)) (n : V K ws tgt lv rest) : V K ws pc lv rest := by
  obtain ⟨hc, rfl, rfl, rfl, rfl, rfl, rfl, rfl⟩ := hc
  obtain ⟨p, l, e, R, s, m, args, below, meth, c, cc, nL, own, E, cy, A, Q, cs⟩ := K
  exact fun H locs ls hP hD hS hl => lv_goto hc.1 hc.2.1 hd ht (n H locs ls hP hD hS hl)
theorem r_get (hc : Cq K cc nL own l R E cy) {C : String} {T : u_T} {N ci index : Nat} (hin : ∀ w ∈ u_ws C T N, w ∈ tb) (q0 : Nat) {a : Nat} {fs : List Value} (he : ws[q0]? = some (a, .inr (ci, fs))) (hcl : vwCl[ci]? = some (C, T, N)) (k : Nat) (hk : k < N) (hm : Cond.fieldLink own index (T k).1 (T k).2.1 (T k).2.2.1 ∈ tb) {v : Value} (hv : fs[k]? = some v) (hd : decode cc pc = .ok (.getfield index, 3)) (n : V K ws (pc + 3) lv (v :: rest)) : V K ws pc lv (.ref a :: rest) := by
  obtain ⟨hc, rfl, rfl, rfl, rfl, rfl, rfl, rfl⟩ := hc
  obtain ⟨p, l, e, R, s, m, args, below, meth, c, cc, nL, own, E, cy, A, Q, cs⟩ := K
  exact fun H locs ls hP hD hS hl => va_get hc.1 hc.2.1 hc.2.2.2.2.1 hin hc.2.2.2.1 hc.2.2.2.2.2.1 hP q0 he hcl k hk (hc.2.2.2.2.1 _ hm) (fun _ h9 => h9) hv hd (n H locs ls hP hD hS hl)
theorem r_put (hc : Cq K cc nL own l R E cy) {C : String} {T : u_T} {N ci index : Nat} (hin : ∀ w ∈ u_ws C T N, w ∈ tb) (ty0 : Nat → FieldType) (hty : ∀ k, k < N → parseFieldDescriptor (T k).2.2.1 = some (ty0 k)) (hnm : ∀ a, a < N → ∀ b, b < N → a ≠ b → (T a).2.1 ≠ (T b).2.1) (q0 : Nat) {a : Nat} {fs : List Value} (he : ws[q0]? = some (a, .inr (ci, fs))) (hcl : vwCl[ci]? = some (C, T, N)) (k : Nat) (hk : k < N) (hm : Cond.fieldLink own index (T k).1 (T k).2.1 (T k).2.2.1 ∈ tb) (hfin : (T k).2.2.2 = false) {v : Value} (hn : narrow (ty0 k) v = v) (hfit : fits (ty0 k) v = true) (hlen : k < fs.length) (hd : decode cc pc = .ok (.putfield index, 3)) (ws' : va_W) (hw : ws.set q0 (a, .inr (ci, fs.set k v)) = ws') (n : V K ws' (pc + 3) lv rest) : V K ws pc lv (v :: .ref a :: rest) := by
  obtain ⟨hc, rfl, rfl, rfl, rfl, rfl, rfl, rfl⟩ := hc
  obtain ⟨p, l, e, R, s, m, args, below, meth, c, cc, nL, own, E, cy, A, Q, cs⟩ := K
  subst hw
  exact fun H locs ls hP hD hS hl => va_put hc.1 hc.2.1 hc.2.2.2.2.1 hin ty0 hty hnm hc.2.2.2.1 hc.2.2.2.2.2.1 hP hD hS q0 he hcl k hk (hc.2.2.2.2.1 _ hm) (fun _ h9 => h9) hfin (hty k hk) hn hfit hlen hd (fun H1 locs1 hP1 hD1 hS1 => n H1 locs1 ls hP1 hD1 hS1 hl)
theorem r_iald (hc : Cq K cc nL own l R E cy) (q0 : Nat) {a n : Nat} {f : Nat → Int32} (ha : ws[q0]? = some (a, .inl (cy 0, n, .inl f))) {i : Int32} (hin : vp_in i n) (hd : decode cc pc = .ok (.iaload, 1)) (nx : V K ws (pc + 1) lv (.int (f i.toNatClampNeg) :: rest)) : V K ws pc lv (.int i :: .ref a :: rest) := by
  obtain ⟨hc, rfl, rfl, rfl, rfl, rfl, rfl, rfl⟩ := hc
  obtain ⟨p, l, e, R, s, m, args, below, meth, c, cc, nL, own, E, cy, A, Q, cs⟩ := K
  exact fun H locs ls hP hD hS hl => va_iald hc.1 hc.2.1 hc.2.2.2.2.2.1 hP q0 0 ha rfl hin hd (nx H locs ls hP hD hS hl)
theorem r_lald (hc : Cq K cc nL own l R E cy) (q0 : Nat) {a n : Nat} {f : Nat → Int64} (ha : ws[q0]? = some (a, .inl (cy 1, n, .inr (.inl f)))) {i : Int32} (hin : vp_in i n) (hd : decode cc pc = .ok (.laload, 1)) (nx : V K ws (pc + 1) lv (.long (f i.toNatClampNeg) :: rest)) : V K ws pc lv (.int i :: .ref a :: rest) := by
  obtain ⟨hc, rfl, rfl, rfl, rfl, rfl, rfl, rfl⟩ := hc
  obtain ⟨p, l, e, R, s, m, args, below, meth, c, cc, nL, own, E, cy, A, Q, cs⟩ := K
  exact fun H locs ls hP hD hS hl => va_lald hc.1 hc.2.1 hc.2.2.2.2.2.1 hP q0 1 ha rfl hin hd (nx H locs ls hP hD hS hl)
theorem r_zald (hc : Cq K cc nL own l R E cy) (q0 : Nat) {a n : Nat} {f : Nat → Int32} (ha : ws[q0]? = some (a, .inl (cy 2, n, .inl f))) {i : Int32} (hin : vp_in i n) (hd : decode cc pc = .ok (.baload, 1)) (nx : V K ws (pc + 1) lv (.int (f i.toNatClampNeg) :: rest)) : V K ws pc lv (.int i :: .ref a :: rest) := by
  obtain ⟨hc, rfl, rfl, rfl, rfl, rfl, rfl, rfl⟩ := hc
  obtain ⟨p, l, e, R, s, m, args, below, meth, c, cc, nL, own, E, cy, A, Q, cs⟩ := K
  exact fun H locs ls hP hD hS hl => va_zald hc.1 hc.2.1 hc.2.2.2.2.2.1 hP q0 2 ha rfl hin hd (nx H locs ls hP hD hS hl)
theorem r_rald (hc : Cq K cc nL own l R E cy) (q0 : Nat) {a n : Nat} {f : Nat → Option Nat} (ha : ws[q0]? = some (a, .inl (cy 3, n, .inr (.inr (.inr (.inr f)))))) {i : Int32} (hin : vp_in i n) (hd : decode cc pc = .ok (.aaload, 1)) (nx : V K ws (pc + 1) lv (va_rf (f i.toNatClampNeg) :: rest)) : V K ws pc lv (.int i :: .ref a :: rest) := by
  obtain ⟨hc, rfl, rfl, rfl, rfl, rfl, rfl, rfl⟩ := hc
  obtain ⟨p, l, e, R, s, m, args, below, meth, c, cc, nL, own, E, cy, A, Q, cs⟩ := K
  exact fun H locs ls hP hD hS hl => va_aldq hc.1 hc.2.1 hc.2.2.2.2.2.1 hP q0 3 ha rfl hin hd (nx H locs ls hP hD hS hl)
theorem r_iast (hc : Cq K cc nL own l R E cy) (q0 : Nat) {a n : Nat} {f : Nat → Int32} (ha : ws[q0]? = some (a, .inl (cy 0, n, .inl f))) {i x : Int32} (hin : vp_in i n) (hd : decode cc pc = .ok (.iastore, 1)) (f1 : Nat → Int32) (hf1 : f1 = upd f i.toNatClampNeg x) (ws' : va_W) (hw : ws.set q0 (a, .inl (cy 0, n, .inl f1)) = ws') (nx : V K ws' (pc + 1) lv rest) : V K ws pc lv (.int x :: .int i :: .ref a :: rest) := by
  obtain ⟨hc, rfl, rfl, rfl, rfl, rfl, rfl, rfl⟩ := hc
  obtain ⟨p, l, e, R, s, m, args, below, meth, c, cc, nL, own, E, cy, A, Q, cs⟩ := K
  subst hw
  subst hf1
  exact fun H locs ls hP hD hS hl => va_iast hc.1 hc.2.1 hc.2.2.2.2.2.1 hP hD hS q0 0 ha rfl hin hd (fun H1 locs1 hP1 hD1 hS1 => nx H1 locs1 ls hP1 hD1 hS1 hl)
theorem r_last (hc : Cq K cc nL own l R E cy) (q0 : Nat) {a n : Nat} {f : Nat → Int64} (ha : ws[q0]? = some (a, .inl (cy 1, n, .inr (.inl f)))) {i : Int32} {x : Int64} (hin : vp_in i n) (hd : decode cc pc = .ok (.lastore, 1)) (f1 : Nat → Int64) (hf1 : f1 = vp_updL f i.toNatClampNeg x) (ws' : va_W) (hw : ws.set q0 (a, .inl (cy 1, n, .inr (.inl f1))) = ws') (nx : V K ws' (pc + 1) lv rest) : V K ws pc lv (.long x :: .int i :: .ref a :: rest) := by
  obtain ⟨hc, rfl, rfl, rfl, rfl, rfl, rfl, rfl⟩ := hc
  obtain ⟨p, l, e, R, s, m, args, below, meth, c, cc, nL, own, E, cy, A, Q, cs⟩ := K
  subst hw
  subst hf1
  exact fun H locs ls hP hD hS hl => va_last hc.1 hc.2.1 hc.2.2.2.2.2.1 hP hD hS q0 1 ha rfl hin hd (fun H1 locs1 hP1 hD1 hS1 => nx H1 locs1 ls hP1 hD1 hS1 hl)
theorem r_zast (hc : Cq K cc nL own l R E cy) (q0 : Nat) {a n : Nat} {f : Nat → Int32} (ha : ws[q0]? = some (a, .inl (cy 2, n, .inl f))) {i x : Int32} (hin : vp_in i n) (hd : decode cc pc = .ok (.bastore, 1)) (f1 : Nat → Int32) (hf1 : f1 = upd f i.toNatClampNeg (vp_nar .boolean x)) (ws' : va_W) (hw : ws.set q0 (a, .inl (cy 2, n, .inl f1)) = ws') (nx : V K ws' (pc + 1) lv rest) : V K ws pc lv (.int x :: .int i :: .ref a :: rest) := by
  obtain ⟨hc, rfl, rfl, rfl, rfl, rfl, rfl, rfl⟩ := hc
  obtain ⟨p, l, e, R, s, m, args, below, meth, c, cc, nL, own, E, cy, A, Q, cs⟩ := K
  subst hw
  subst hf1
  exact fun H locs ls hP hD hS hl => va_zast hc.1 hc.2.1 hc.2.2.2.2.2.1 hP hD hS q0 2 ha rfl hin hd (fun H1 locs1 hP1 hD1 hS1 => nx H1 locs1 ls hP1 hD1 hS1 hl)
theorem r_alen (hc : Cq K cc nL own l R E cy) (q0 t0 : Nat) {a : Nat} {cA : ClassId} {x : vp_A} (ha : ws[q0]? = some (a, .inl (cA, x))) {ty : FieldType} (ht : (TY cy)[t0]? = some (cA, ty)) (v : Int32) (hv : Int32.ofNat x.1 = v) (hd : decode cc pc = .ok (.arraylength, 1)) (nx : V K ws (pc + 1) lv (.int v :: rest)) : V K ws pc lv (.ref a :: rest) := by
  obtain ⟨hc, rfl, rfl, rfl, rfl, rfl, rfl, rfl⟩ := hc
  obtain ⟨p, l, e, R, s, m, args, below, meth, c, cc, nL, own, E, cy, A, Q, cs⟩ := K
  exact fun H locs ls hP hD hS hl => va_alen hc.1 hc.2.1 hc.2.2.2.2.2.1 hP q0 t0 ha ht hv hd (nx H locs ls hP hD hS hl)
theorem r_copyi (hc : Cq K cc nL own l R E cy) (q0 q1 : Nat) {a0 a index n0 n1 : Nat} {f g : Nat → Int32} (ha0 : ws[q0]? = some (a0, .inl (cy 0, n0, .inl f))) (ha1 : ws[q1]? = some (a, .inl (cy 0, n1, .inl g))) {sp dp n : Int32} (h1 : ¬ sp < 0) (h2 : ¬ dp < 0) (h3 : ¬ n < 0) (h4 : sp.toNatClampNeg + n.toNatClampNeg ≤ n0) (h5 : dp.toNatClampNeg + n.toNatClampNeg ≤ n1) (hm : Cond.methodLink own index arraycopyName ∈ tb) (hm2 : Cond.native arraycopyName ∈ tb) (hm3 : Cond.static arraycopyName ∈ tb) (hm4 : Cond.initialized "java/lang/System" ∈ tb) (hfr : 1 ≤ R.frames) (hlo : (rest.map fun v => v.category).sum + (nativeFrameWords "java/lang/System" "arraycopy" 5 + 11) ≤ R.locals) (hd : decode cc pc = .ok (.invokestatic index, 3)) (f1 : Nat → Int32) (hf1 : f1 = va_cpy f g sp.toNatClampNeg dp.toNatClampNeg n.toNatClampNeg) (ws' : va_W) (hw : ws.set q1 (a, .inl (cy 0, n1, .inl f1)) = ws') (nx : V K ws' (pc + 3) lv rest) : V K ws pc lv (.int n :: .int dp :: .ref a :: .int sp :: .ref a0 :: rest) := by
  obtain ⟨hc, rfl, rfl, rfl, rfl, rfl, rfl, rfl⟩ := hc
  obtain ⟨p, l, e, R, s, m, args, below, meth, c, cc, nL, own, E, cy, A, Q, cs⟩ := K
  subst hw
  subst hf1
  exact fun H locs ls hP hD hS hl => va_copyi hc.1 hc.2.1 (hc.2.2.1.trans hl.1.symm) hc.2.2.2.1 (hc.2.2.2.2.1 _ hm) (hc.2.2.2.2.1 _ hm2) (hc.2.2.2.2.1 _ hm3) (hc.2.2.2.2.1 _ hm4) hc.2.2.2.2.2.1 hP hD hS q0 q1 0 0 ha0 ha1 rfl rfl rfl h1 h2 h3 h4 h5 (fun _ _ => rfl) hfr hlo hd (fun H1 locs1 hP1 hD1 hS1 => nx H1 locs1 ls hP1 hD1 hS1 hl)
theorem r_mmax (hc : Cq K cc nL own l R E cy) {index : Nat} (hm : Cond.methodLink own index Lib.Math.max.name ∈ tb) (hm2 : Cond.static Lib.Math.max.name ∈ tb) (hm3 : Cond.initialized "java/lang/Math" ∈ tb) (hm4 : Cond.code Lib.Math.max.name Lib.Math.max.code 2 (some .int) ∈ tb) (hfr : 1 ≤ R.frames) (hlo : (rest.map fun v => v.category).sum + 13 ≤ R.locals) {x y : Int32} (hd : decode cc pc = .ok (.invokestatic index, 3)) (nx : V K ws (pc + 3) lv (.int (if x < y then y else x) :: rest)) : V K ws pc lv (.int y :: .int x :: rest) := by
  obtain ⟨hc, rfl, rfl, rfl, rfl, rfl, rfl, rfl⟩ := hc
  obtain ⟨p, l, e, R, s, m, args, below, meth, c, cc, nL, own, E, cy, A, Q, cs⟩ := K
  exact fun H locs ls hP hD hS hl => va_mmax hc.1 hc.2.1 (hc.2.2.1.trans hl.1.symm) hc.2.2.2.1 (hc.2.2.2.2.1 _ hm) (hc.2.2.2.2.1 _ hm2) (hc.2.2.2.2.1 _ hm3) (hc.2.2.2.2.1 _ hm4) hfr hlo hc.2.2.2.2.2.2.2.1 hc.2.2.2.2.2.2.2.2.1 hd (nx H locs ls hP hD hS hl)
theorem r_mmin (hc : Cq K cc nL own l R E cy) {index : Nat} (hm : Cond.methodLink own index Lib.Math.min.name ∈ tb) (hm2 : Cond.static Lib.Math.min.name ∈ tb) (hm3 : Cond.initialized "java/lang/Math" ∈ tb) (hm4 : Cond.code Lib.Math.min.name Lib.Math.min.code 2 (some .int) ∈ tb) (hfr : 1 ≤ R.frames) (hlo : (rest.map fun v => v.category).sum + 13 ≤ R.locals) {x y : Int32} (hd : decode cc pc = .ok (.invokestatic index, 3)) (nx : V K ws (pc + 3) lv (.int (if y < x then y else x) :: rest)) : V K ws pc lv (.int y :: .int x :: rest) := by
  obtain ⟨hc, rfl, rfl, rfl, rfl, rfl, rfl, rfl⟩ := hc
  obtain ⟨p, l, e, R, s, m, args, below, meth, c, cc, nL, own, E, cy, A, Q, cs⟩ := K
  exact fun H locs ls hP hD hS hl => va_mmin hc.1 hc.2.1 (hc.2.2.1.trans hl.1.symm) hc.2.2.2.1 (hc.2.2.2.2.1 _ hm) (hc.2.2.2.2.1 _ hm2) (hc.2.2.2.2.1 _ hm3) (hc.2.2.2.2.1 _ hm4) hfr hlo hc.2.2.2.2.2.2.2.1 hc.2.2.2.2.2.2.2.2.1 hd (nx H locs ls hP hD hS hl)
theorem V.eqw (hw : ws = ws') (n : V K ws' pc lv rest) : V K ws pc lv rest := hw ▸ n
theorem V.eqs {st st' : List Value} (hw : st = st') (n : V K ws pc lv st') : V K ws pc lv st := hw ▸ n
theorem V.sub (ks : List Nat) (hl' : lv_pick lv ks = lv') (n : V K ws pc lv' rest) : V K ws pc lv rest := by
  obtain ⟨p, l, e, R, s, m, args, below, meth, c, cc, nL, own, E, cy, A, Q, cs⟩ := K
  exact fun H locs ls hP hD hS hl => n H locs ls hP hD hS (lv_sub hl ks hl')
theorem r_tabIn (hc : Cq K cc nL own l R E cy) {dflt lo hi : Int} {offs : Array Int} {len : Nat} {x : Int32} {off : Int} (tgt : Nat) (hd : decode cc pc = .ok (.tableswitch dflt lo hi offs, len)) (h1 : ¬ x.toInt < lo) (h2 : ¬ hi < x.toInt) (ho : offs[(x.toInt - lo).toNat]? = some off) (ht : (pc : Int) + off = (tgt : Int)) (n : V K ws tgt lv rest) : V K ws pc lv (.int x :: rest) := by
  obtain ⟨hc, rfl, rfl, rfl, rfl, rfl, rfl, rfl⟩ := hc
  obtain ⟨p, l, e, R, s, m, args, below, meth, c, cc, nL, own, E, cy, A, Q, cs⟩ := K
  exact fun H locs ls hP hD hS hl => lv_tableIn hc.1 hc.2.1 hd h1 h2 ho ht (n H locs ls hP hD hS hl)
theorem r_tabOut (hc : Cq K cc nL own l R E cy) {dflt lo hi : Int} {offs : Array Int} {len : Nat} {x : Int32} (tgt : Nat) (hd : decode cc pc = .ok (.tableswitch dflt lo hi offs, len)) (h : x.toInt < lo ∨ hi < x.toInt) (ht : (pc : Int) + dflt = (tgt : Int)) (n : V K ws tgt lv rest) : V K ws pc lv (.int x :: rest) := by
  obtain ⟨hc, rfl, rfl, rfl, rfl, rfl, rfl, rfl⟩ := hc
  obtain ⟨p, l, e, R, s, m, args, below, meth, c, cc, nL, own, E, cy, A, Q, cs⟩ := K
  exact fun H locs ls hP hD hS hl => lv_tableOut hc.1 hc.2.1 hd h ht (n H locs ls hP hD hS hl)
end R5
/-! CONTRACTS: what a method answers, and its world behind it -/
abbrev Wl (E : va_G) (cy : Nat → ClassId) (ws : va_W) (sz : Nat) (U : State) : Prop := U.heap.size = sz ∧ va_P E vwCl ws U.heap ∧ va_K E vwCl (TY cy) U ∧ va_D (fun _ => True) ws ∧ Nw U
abbrev We (E : va_G) (cy : Nat → ClassId) (A : Nat → Prop) (ws' : va_W) (t : State) : Prop := va_P E vwCl ws' t.heap ∧ va_K E vwCl (TY cy) t ∧ va_D A ws'
abbrev Rm (fr lo : Nat) : Room := { frames := fr, cells := 0, slots := 0, locals := lo }
def Ci (l : Launch) (y : MethodName) (cc : ByteArray) (nL : Nat) (ret : Option FieldType) (fr lo : Nat) (E : va_G) (cy : Nat → ClassId) (av : List Value) (ws : va_W) (r : Int32) (ws' : va_W) : Prop :=
  ∀ sz, Met l y (.code y cc nL ret :: tb) (Rm fr lo) (va_Pc av (Wl E cy ws sz)) (va_Qi (fun (r' : Int32) (_ : Unit) => r' = r) (fun _ => We E cy (va_A ws sz) ws') (va_A ws sz)) 0 0 (va_A ws sz)
def Cl (l : Launch) (y : MethodName) (cc : ByteArray) (nL : Nat) (ret : Option FieldType) (fr lo : Nat) (E : va_G) (cy : Nat → ClassId) (av : List Value) (ws : va_W) (r : Int64) (ws' : va_W) : Prop :=
  ∀ sz, Met l y (.code y cc nL ret :: tb) (Rm fr lo) (va_Pc av (Wl E cy ws sz)) (va_Ql (fun (r' : Int64) (_ : Unit) => r' = r) (fun _ => We E cy (va_A ws sz) ws') (va_A ws sz)) 0 0 (va_A ws sz)
def Cv (l : Launch) (y : MethodName) (cc : ByteArray) (nL : Nat) (ret : Option FieldType) (fr lo : Nat) (E : va_G) (cy : Nat → ClassId) (av : List Value) (ws : va_W) (ws' : va_W) : Prop :=
  ∀ sz, Met l y (.code y cc nL ret :: tb) (Rm fr lo) (va_Pc av (Wl E cy ws sz)) (va_Qv (fun (_ : Unit) => True) (fun _ => We E cy (va_A ws sz) ws') (va_A ws sz)) 0 0 (va_A ws sz)
def Zi (below : List Frame) (E : va_G) (cy : Nat → ClassId) (args : Array Value) (s : State) (A : Nat → Prop) (r : Int32) (ws' : va_W) : State → Prop := MQ below (va_Qi (fun (r' : Int32) (_ : Unit) => r' = r) (fun _ => We E cy A ws') A) args s 0 0 A
def Zl (below : List Frame) (E : va_G) (cy : Nat → ClassId) (args : Array Value) (s : State) (A : Nat → Prop) (r : Int64) (ws' : va_W) : State → Prop := MQ below (va_Ql (fun (r' : Int64) (_ : Unit) => r' = r) (fun _ => We E cy A ws') A) args s 0 0 A
def Zv (below : List Frame) (E : va_G) (cy : Nat → ClassId) (args : Array Value) (s : State) (A : Nat → Prop) (ws' : va_W) : State → Prop := MQ below (va_Qv (fun (_ : Unit) => True) (fun _ => We E cy A ws') A) args s 0 0 A
/-- K is a method's context, with this end -/
def Ki (l : Launch) (cc : ByteArray) (nL : Nat) (ret : Option FieldType) (fr lo : Nat) (own : String) (E : va_G) (cy : Nat → ClassId) (r : Int32) (ws' : va_W) (K : Kx) : Prop :=
  ∃ p e s m args below meth c A, K = (p, l, e, Rm fr lo, s, m, args, below, meth, c, cc, nL, own, E, cy, A, Zi below E cy args s A r ws', (0, 0)) ∧ Cx K ∧ meth.sig.returnType = ret ∧ meth.locks = false
def Kll (l : Launch) (cc : ByteArray) (nL : Nat) (ret : Option FieldType) (fr lo : Nat) (own : String) (E : va_G) (cy : Nat → ClassId) (r : Int64) (ws' : va_W) (K : Kx) : Prop :=
  ∃ p e s m args below meth c A, K = (p, l, e, Rm fr lo, s, m, args, below, meth, c, cc, nL, own, E, cy, A, Zl below E cy args s A r ws', (0, 0)) ∧ Cx K ∧ meth.sig.returnType = ret ∧ meth.locks = false
def Kv (l : Launch) (cc : ByteArray) (nL : Nat) (ret : Option FieldType) (fr lo : Nat) (own : String) (E : va_G) (cy : Nat → ClassId) (ws' : va_W) (K : Kx) : Prop :=
  ∃ p e s m args below meth c A, K = (p, l, e, Rm fr lo, s, m, args, below, meth, c, cc, nL, own, E, cy, A, Zv below E cy args s A ws', (0, 0)) ∧ Cx K ∧ meth.sig.returnType = ret ∧ meth.locks = false
theorem Ci.of {l : Launch} {y : MethodName} {cc : ByteArray} {nL : Nat} {ret : Option FieldType} {fr lo : Nat} {E : va_G} {cy : Nat → ClassId} {av : List Value} {ws : va_W} {r : Int32} {ws' : va_W} (own : String) (hy : plainName y.cls = true) (hown : y.cls = own) (hlen : (lg_sl av).length ≤ nL) (body : ∀ K : Kx, Ki l cc nL ret fr lo own E cy r ws' K → V K ws 0 (lv_args 0 av) []) : Ci l y cc nL ret fr lo E cy av ws r ws' := by
  intro sz
  refine Met.ofW (cc := cc) (maxL := nL) (ret := ret) hy rfl ?_
  intro p e s m args below meth c s₁ B hml hv
  obtain ⟨rfl, hsz, hP, hK, hD0, hnw⟩ := hv
  have hts := atoms_spec (ws := .code y cc nL ret :: tb) B.pre
  have hfc : s.vm.findClass own = some m.cls := by rw [← hown]; exact findClass_of_methodNamed B.named
  subst hsz
  have hD := hD0.self (sz := s.heap.size)
  generalize hAe : va_A ws s.heap.size = A at hD ⊢
  have hA : ∀ q : Nat, s.heap.size ≤ q → A q := fun q h => by rw [← hAe]; exact Or.inr h
  have hS : va_S A s.heap s.heap [] := va_S.rf
  have hl := lv_entry av (n := nL) hlen
  rw [lg_entry_eq]
  generalize (lg_sl av ++ List.replicate (nL - (lg_sl av).length) Slot.unset).toArray = ls at hl ⊢
  exact body (p, l, e, Rm fr lo, s, m, av.toArray, below, meth, c, cc, nL, own, E, cy, A, Zi below E cy av.toArray s A r ws', (0, 0)) ⟨p, e, s, m, _, below, meth, c, A, rfl, ⟨B.exec, B.bytes, hml, hfc, fun w h => hts w (List.mem_cons_of_mem _ h), hK, hA, Nat.zero_le _, Nat.zero_le _, hnw⟩, B.returns, B.notSynchronized⟩ s.heap [] ls hP hD hS hl
theorem Cl.of {l : Launch} {y : MethodName} {cc : ByteArray} {nL : Nat} {ret : Option FieldType} {fr lo : Nat} {E : va_G} {cy : Nat → ClassId} {av : List Value} {ws : va_W} {r : Int64} {ws' : va_W} (own : String) (hy : plainName y.cls = true) (hown : y.cls = own) (hlen : (lg_sl av).length ≤ nL) (body : ∀ K : Kx, Kll l cc nL ret fr lo own E cy r ws' K → V K ws 0 (lv_args 0 av) []) : Cl l y cc nL ret fr lo E cy av ws r ws' := by
  intro sz
  refine Met.ofW (cc := cc) (maxL := nL) (ret := ret) hy rfl ?_
  intro p e s m args below meth c s₁ B hml hv
  obtain ⟨rfl, hsz, hP, hK, hD0, hnw⟩ := hv
  have hts := atoms_spec (ws := .code y cc nL ret :: tb) B.pre
  have hfc : s.vm.findClass own = some m.cls := by rw [← hown]; exact findClass_of_methodNamed B.named
  subst hsz
  have hD := hD0.self (sz := s.heap.size)
  generalize hAe : va_A ws s.heap.size = A at hD ⊢
  have hA : ∀ q : Nat, s.heap.size ≤ q → A q := fun q h => by rw [← hAe]; exact Or.inr h
  have hS : va_S A s.heap s.heap [] := va_S.rf
  have hl := lv_entry av (n := nL) hlen
  rw [lg_entry_eq]
  generalize (lg_sl av ++ List.replicate (nL - (lg_sl av).length) Slot.unset).toArray = ls at hl ⊢
  exact body (p, l, e, Rm fr lo, s, m, av.toArray, below, meth, c, cc, nL, own, E, cy, A, Zl below E cy av.toArray s A r ws', (0, 0)) ⟨p, e, s, m, _, below, meth, c, A, rfl, ⟨B.exec, B.bytes, hml, hfc, fun w h => hts w (List.mem_cons_of_mem _ h), hK, hA, Nat.zero_le _, Nat.zero_le _, hnw⟩, B.returns, B.notSynchronized⟩ s.heap [] ls hP hD hS hl
theorem Cv.of {l : Launch} {y : MethodName} {cc : ByteArray} {nL : Nat} {ret : Option FieldType} {fr lo : Nat} {E : va_G} {cy : Nat → ClassId} {av : List Value} {ws : va_W}  {ws' : va_W} (own : String) (hy : plainName y.cls = true) (hown : y.cls = own) (hlen : (lg_sl av).length ≤ nL) (body : ∀ K : Kx, Kv l cc nL ret fr lo own E cy  ws' K → V K ws 0 (lv_args 0 av) []) : Cv l y cc nL ret fr lo E cy av ws  ws' := by
  intro sz
  refine Met.ofW (cc := cc) (maxL := nL) (ret := ret) hy rfl ?_
  intro p e s m args below meth c s₁ B hml hv
  obtain ⟨rfl, hsz, hP, hK, hD0, hnw⟩ := hv
  have hts := atoms_spec (ws := .code y cc nL ret :: tb) B.pre
  have hfc : s.vm.findClass own = some m.cls := by rw [← hown]; exact findClass_of_methodNamed B.named
  subst hsz
  have hD := hD0.self (sz := s.heap.size)
  generalize hAe : va_A ws s.heap.size = A at hD ⊢
  have hA : ∀ q : Nat, s.heap.size ≤ q → A q := fun q h => by rw [← hAe]; exact Or.inr h
  have hS : va_S A s.heap s.heap [] := va_S.rf
  have hl := lv_entry av (n := nL) hlen
  rw [lg_entry_eq]
  generalize (lg_sl av ++ List.replicate (nL - (lg_sl av).length) Slot.unset).toArray = ls at hl ⊢
  exact body (p, l, e, Rm fr lo, s, m, av.toArray, below, meth, c, cc, nL, own, E, cy, A, Zv below E cy av.toArray s A ws', (0, 0)) ⟨p, e, s, m, _, below, meth, c, A, rfl, ⟨B.exec, B.bytes, hml, hfc, fun w h => hts w (List.mem_cons_of_mem _ h), hK, hA, Nat.zero_le _, Nat.zero_le _, hnw⟩, B.returns, B.notSynchronized⟩ s.heap [] ls hP hD hS hl
theorem Ki.cx {l : Launch} {cc : ByteArray} {nL : Nat} {ret : Option FieldType} {fr lo : Nat} {own : String} {E : va_G} {cy : Nat → ClassId} {r : Int32} {ws' : va_W} {K : Kx} (h : Ki l cc nL ret fr lo own E cy r ws' K) : Cx K := by
  obtain ⟨p, e, s, m, args, below, meth, c, A, rfl, h1, h2, h3⟩ := h
  exact h1
theorem r_iret {l : Launch} {cc : ByteArray} {nL : Nat} {fr lo : Nat} {own : String} {E : va_G} {cy : Nat → ClassId} {r : Int32} {ws ws' : va_W} {K : Kx} {pc : Nat} {lv : List (Nat × Value)} {v : Int32} (h : Ki l cc nL (some .int) fr lo own E cy r ws' K) (hv : v = r) (hw : ws = ws') (hd : decode cc pc = .ok (.ireturn, 1)) : V K ws pc lv [.int v] := by
  obtain ⟨p, e, s, m, args, below, meth, c, A, rfl, hc, hr, hlocks⟩ := h
  subst hv; subst hw
  intro H locs ls hP hD hS hl
  exact W.iret hc.1 hc.2.1 hr (fun t ht hW => ⟨⟨v, (), rfl, rfl, by rw [ht]; exact hP, va_K.moved hW.alike hc.2.2.2.2.2.1, hD⟩, hS.F ht⟩) hS.2.2 hd hlocks
theorem r_zret {l : Launch} {cc : ByteArray} {nL : Nat} {fr lo : Nat} {own : String} {E : va_G} {cy : Nat → ClassId} {r : Int32} {ws ws' : va_W} {K : Kx} {pc : Nat} {lv : List (Nat × Value)} {v : Int32} (h : Ki l cc nL (some .boolean) fr lo own E cy r ws' K) (hn : narrow .boolean (.int v) = .int v) (hv : v = r) (hw : ws = ws') (hd : decode cc pc = .ok (.ireturn, 1)) : V K ws pc lv [.int v] := by
  obtain ⟨p, e, s, m, args, below, meth, c, A, rfl, hc, hr, hlocks⟩ := h
  subst hv; subst hw
  intro H locs ls hP hD hS hl
  exact W.zret hc.1 hc.2.1 hr hn (fun t ht hW => ⟨⟨v, (), rfl, rfl, by rw [ht]; exact hP, va_K.moved hW.alike hc.2.2.2.2.2.1, hD⟩, hS.F ht⟩) hS.2.2 hd hlocks
theorem r_lret {l : Launch} {cc : ByteArray} {nL : Nat} {fr lo : Nat} {own : String} {E : va_G} {cy : Nat → ClassId} {r : Int64} {ws ws' : va_W} {K : Kx} {pc : Nat} {lv : List (Nat × Value)} {v : Int64} (h : Kll l cc nL (some .long) fr lo own E cy r ws' K) (hv : v = r) (hw : ws = ws') (hd : decode cc pc = .ok (.lreturn, 1)) : V K ws pc lv [.long v] := by
  obtain ⟨p, e, s, m, args, below, meth, c, A, rfl, hc, hr, hlocks⟩ := h
  subst hv; subst hw
  intro H locs ls hP hD hS hl
  exact W.lret hc.1 hc.2.1 hr (fun t ht hW => ⟨⟨v, (), rfl, rfl, by rw [ht]; exact hP, va_K.moved hW.alike hc.2.2.2.2.2.1, hD⟩, hS.F ht⟩) hS.2.2 hd hlocks
theorem r_vret {l : Launch} {cc : ByteArray} {nL : Nat} {fr lo : Nat} {own : String} {E : va_G} {cy : Nat → ClassId} {ws ws' : va_W} {K : Kx} {pc : Nat} {lv : List (Nat × Value)} (h : Kv l cc nL none fr lo own E cy ws' K) (hw : ws = ws') (hd : decode cc pc = .ok (.return_, 1)) : V K ws pc lv [] := by
  obtain ⟨p, e, s, m, args, below, meth, c, A, rfl, hc, hr, hlocks⟩ := h
  subst hw
  intro H locs ls hP hD hS hl
  exact W.vret hc.1 hc.2.1 hr (fun t ht hW => ⟨⟨(), rfl, trivial, by rw [ht]; exact hP, va_K.moved hW.alike hc.2.2.2.2.2.1, hD⟩, hS.F ht⟩) hS.2.2 hd hlocks
theorem Ki.cq {l : Launch} {cc : ByteArray} {nL : Nat} {ret : Option FieldType} {fr lo : Nat} {own : String} {E : va_G} {cy : Nat → ClassId} {r : Int32} {ws' : va_W} {K : Kx} (h : Ki l cc nL ret fr lo own E cy r ws' K) : Cq K cc nL own l (Rm fr lo) E cy := by
  obtain ⟨p, e, s, m, args, below, meth, c, A, rfl, h1, h2, h3⟩ := h
  exact ⟨h1, rfl, rfl, rfl, rfl, rfl, rfl, rfl⟩
theorem Kll.cq {l : Launch} {cc : ByteArray} {nL : Nat} {ret : Option FieldType} {fr lo : Nat} {own : String} {E : va_G} {cy : Nat → ClassId} {r : Int64} {ws' : va_W} {K : Kx} (h : Kll l cc nL ret fr lo own E cy r ws' K) : Cq K cc nL own l (Rm fr lo) E cy := by
  obtain ⟨p, e, s, m, args, below, meth, c, A, rfl, h1, h2, h3⟩ := h
  exact ⟨h1, rfl, rfl, rfl, rfl, rfl, rfl, rfl⟩
theorem Kv.cq {l : Launch} {cc : ByteArray} {nL : Nat} {ret : Option FieldType} {fr lo : Nat} {own : String} {E : va_G} {cy : Nat → ClassId} {ws' : va_W} {K : Kx} (h : Kv l cc nL ret fr lo own E cy ws' K) : Cq K cc nL own l (Rm fr lo) E cy := by
  obtain ⟨p, e, s, m, args, below, meth, c, A, rfl, h1, h2, h3⟩ := h
  exact ⟨h1, rfl, rfl, rfl, rfl, rfl, rfl, rfl⟩
