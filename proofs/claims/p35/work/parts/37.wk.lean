/-- the class' whole world -/
def wK (cy : Nat → ClassId) (A : Nat → Nat) (hn : HS) (pd : PS) (dr : DS) (pl : YS) (rs : TS) (ro : OS) (sg : SS) (yr : US) (kp : Nat → Int32) (en : Nat → Int64) (i0 : HS) (i1 : HS) : va_W := kdo A :: (wH cy (sh A 10) hn ++ [(A 1, .inl (cy 3, 2, .inr (.inr (.inr (.inr (imgG A))))))] ++ wH cy (sh A 20) i0 ++ wH cy (sh A 30) i1 ++ [(A 2, .inl (cy 2, 2, .inl kp))] ++ wP cy (sh A 40) pd ++ wD cy (sh A 50) dr ++ wY cy (sh A 70) pl ++ wT cy (sh A 80) rs ++ wO cy (sh A 90) ro ++ wS cy (sh A 100) sg ++ wU cy (sh A 110) yr ++ [(A 3, .inl (cy 1, 100, .inr (.inl en)))])
def bK (cy : Nat → ClassId) (A : Nat → Nat) (hn : HS) (pd : PS) (dr : DS) (pl : YS) (rs : TS) (ro : OS) (sg : SS) (yr : US) (kp : Nat → Int32) (en : Nat → Int64) (i0 : HS) (i1 : HS) : List va_W := [[kdo A], wH cy (sh A 10) hn, [(A 1, .inl (cy 3, 2, .inr (.inr (.inr (.inr (imgG A))))))], wH cy (sh A 20) i0, wH cy (sh A 30) i1, [(A 2, .inl (cy 2, 2, .inl kp))], wP cy (sh A 40) pd, wD cy (sh A 50) dr, wY cy (sh A 70) pl, wT cy (sh A 80) rs, wO cy (sh A 90) ro, wS cy (sh A 100) sg, wU cy (sh A 110) yr, [(A 3, .inl (cy 1, 100, .inr (.inl en)))]]
theorem bK_flat (cy : Nat → ClassId) (A : Nat → Nat) (hn : HS) (pd : PS) (dr : DS) (pl : YS) (rs : TS) (ro : OS) (sg : SS) (yr : US) (kp : Nat → Int32) (en : Nat → Int64) (i0 : HS) (i1 : HS) : (bK cy A hn pd dr pl rs ro sg yr kp en i0 i1).flatten = wK cy A hn pd dr pl rs ro sg yr kp en i0 i1 := by
  unfold bK wK
  simp only [List.flatten_cons, List.flatten_nil, List.append_nil, List.append_assoc, List.cons_append, List.nil_append]
def bL (cy : Nat → ClassId) (A B : Nat → Nat) (hn : HS) (pd : PS) (dr : DS) (pl : YS) (rs : TS) (ro : OS) (sg : SS) (yr : US) (kp : Nat → Int32) (en : Nat → Int64) (i0 : HS) (i1 : HS) (z : MS) : List va_W := [[kdo A], wH cy (sh A 10) hn, [(A 1, .inl (cy 3, 2, .inr (.inr (.inr (.inr (imgG A))))))], wH cy (sh A 20) i0, wH cy (sh A 30) i1, [(A 2, .inl (cy 2, 2, .inl kp))], wP cy (sh A 40) pd, wD cy (sh A 50) dr, wY cy (sh A 70) pl, wT cy (sh A 80) rs, wO cy (sh A 90) ro, wS cy (sh A 100) sg, wU cy (sh A 110) yr, [(A 3, .inl (cy 1, 100, .inr (.inl en)))], wM cy B z]
theorem bL_flat (cy : Nat → ClassId) (A B : Nat → Nat) (hn : HS) (pd : PS) (dr : DS) (pl : YS) (rs : TS) (ro : OS) (sg : SS) (yr : US) (kp : Nat → Int32) (en : Nat → Int64) (i0 : HS) (i1 : HS) (z : MS) : (bL cy A B hn pd dr pl rs ro sg yr kp en i0 i1 z).flatten = wK cy A hn pd dr pl rs ro sg yr kp en i0 i1 ++ wM cy B z := by
  unfold bL wK
  simp only [List.flatten_cons, List.flatten_nil, List.append_nil, List.append_assoc, List.cons_append, List.nil_append]
theorem wH_adr {cy : Nat → ClassId} {A B : Nat → Nat} {x : HS} (h : ∀ i, i < 10 → A i = B i) : wH cy A x = wH cy B x := by
  unfold wH
  rw [h 0 (by decide), h 1 (by decide), h 2 (by decide), h 3 (by decide), h 4 (by decide), h 5 (by decide), h 6 (by decide), h 7 (by decide), h 8 (by decide), h 9 (by decide)]
theorem wP_adr {cy : Nat → ClassId} {A B : Nat → Nat} {x : PS} (h : ∀ i, i < 2 → A i = B i) : wP cy A x = wP cy B x := by
  unfold wP
  rw [h 0 (by decide), h 1 (by decide)]
theorem wY_adr {cy : Nat → ClassId} {A B : Nat → Nat} {x : YS} (h : ∀ i, i < 1 → A i = B i) : wY cy A x = wY cy B x := by
  unfold wY
  rw [h 0 (by decide)]
theorem wT_adr {cy : Nat → ClassId} {A B : Nat → Nat} {x : TS} (h : ∀ i, i < 8 → A i = B i) : wT cy A x = wT cy B x := by
  unfold wT
  rw [h 0 (by decide), h 1 (by decide), h 2 (by decide), h 3 (by decide), h 4 (by decide), h 5 (by decide), h 6 (by decide), h 7 (by decide)]
theorem wO_adr {cy : Nat → ClassId} {A B : Nat → Nat} {x : OS} (h : ∀ i, i < 3 → A i = B i) : wO cy A x = wO cy B x := by
  unfold wO
  rw [h 0 (by decide), h 1 (by decide), h 2 (by decide)]
theorem wS_adr {cy : Nat → ClassId} {A B : Nat → Nat} {x : SS} (h : ∀ i, i < 3 → A i = B i) : wS cy A x = wS cy B x := by
  unfold wS sw1 sw2
  rw [h 0 (by decide), h 1 (by decide), h 2 (by decide)]
theorem wU_adr {cy : Nat → ClassId} {A B : Nat → Nat} {x : US} (h : ∀ i, i < 1 → A i = B i) : wU cy A x = wU cy B x := by
  unfold wU
  rw [h 0 (by decide)]
theorem wD_adr {cy : Nat → ClassId} {A B : Nat → Nat} {x : DS} (h : ∀ i, i < 15 → A i = B i) : wD cy A x = wD cy B x := by
  unfold wD
  rw [h 0 (by decide), h 1 (by decide), h 2 (by decide), h 3 (by decide), h 4 (by decide), h 5 (by decide), wH_adr (A := sh A 5) (B := sh B 5) (fun i hi => h (5 + i) (by omega))]
