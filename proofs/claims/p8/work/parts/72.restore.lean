/-! restore -/
abbrev MRest : Type := Int32 × (Nat → Int32) × (Nat → Int32) × (Nat → Int32)
def sc_rooms (c : MK) (f : Int32) : MK := (f, c.2.1, c.2.2.1, c.2.2.2.1, c.2.2.2.2.1, c.2.2.2.2.2.1, c.2.2.2.2.2.2.1, c.2.2.2.2.2.2.2.1, c.2.2.2.2.2.2.2.2.1, c.2.2.2.2.2.2.2.2.2.1, c.2.2.2.2.2.2.2.2.2.2.1, c.2.2.2.2.2.2.2.2.2.2.2.1, c.2.2.2.2.2.2.2.2.2.2.2.2)
theorem st_rooms {y y' : MS} {c : MK} {K : MRest} {f : Int32} (h : mkeep y = (c, K)) (e : y' = M_set_rooms y f) : mkeep y' = (sc_rooms c f, K) := by
  rw [e, mk_rooms]; exact congrArg (fun m : MKK => (sc_rooms m.1 f, m.2)) h
theorem gt_rooms {y : MS} {c : MK} {K : MRest} (h : mkeep y = (c, K)) : M_rooms y = c.1 := congrArg (fun m => m.1.1) h
def sc_things (c : MK) (f : Nat → Int32) : MK := (c.1, f, c.2.2.1, c.2.2.2.1, c.2.2.2.2.1, c.2.2.2.2.2.1, c.2.2.2.2.2.2.1, c.2.2.2.2.2.2.2.1, c.2.2.2.2.2.2.2.2.1, c.2.2.2.2.2.2.2.2.2.1, c.2.2.2.2.2.2.2.2.2.2.1, c.2.2.2.2.2.2.2.2.2.2.2.1, c.2.2.2.2.2.2.2.2.2.2.2.2)
theorem st_things {y y' : MS} {c : MK} {K : MRest} {f : Nat → Int32} (h : mkeep y = (c, K)) (e : y' = M_set_things y f) : mkeep y' = (sc_things c f, K) := by
  rw [e, mk_things]; exact congrArg (fun m : MKK => (sc_things m.1 f, m.2)) h
theorem gt_things {y : MS} {c : MK} {K : MRest} (h : mkeep y = (c, K)) : M_things y = c.2.1 := congrArg (fun m => m.1.2.1) h
def sc_size (c : MK) (f : Nat → Int32) : MK := (c.1, c.2.1, f, c.2.2.2.1, c.2.2.2.2.1, c.2.2.2.2.2.1, c.2.2.2.2.2.2.1, c.2.2.2.2.2.2.2.1, c.2.2.2.2.2.2.2.2.1, c.2.2.2.2.2.2.2.2.2.1, c.2.2.2.2.2.2.2.2.2.2.1, c.2.2.2.2.2.2.2.2.2.2.2.1, c.2.2.2.2.2.2.2.2.2.2.2.2)
theorem st_size {y y' : MS} {c : MK} {K : MRest} {f : Nat → Int32} (h : mkeep y = (c, K)) (e : y' = M_set_size y f) : mkeep y' = (sc_size c f, K) := by
  rw [e, mk_size]; exact congrArg (fun m : MKK => (sc_size m.1 f, m.2)) h
theorem gt_size {y : MS} {c : MK} {K : MRest} (h : mkeep y = (c, K)) : M_size y = c.2.2.1 := congrArg (fun m => m.1.2.2.1) h
def sc_chairs (c : MK) (f : Nat → Int32) : MK := (c.1, c.2.1, c.2.2.1, f, c.2.2.2.2.1, c.2.2.2.2.2.1, c.2.2.2.2.2.2.1, c.2.2.2.2.2.2.2.1, c.2.2.2.2.2.2.2.2.1, c.2.2.2.2.2.2.2.2.2.1, c.2.2.2.2.2.2.2.2.2.2.1, c.2.2.2.2.2.2.2.2.2.2.2.1, c.2.2.2.2.2.2.2.2.2.2.2.2)
theorem st_chairs {y y' : MS} {c : MK} {K : MRest} {f : Nat → Int32} (h : mkeep y = (c, K)) (e : y' = M_set_chairs y f) : mkeep y' = (sc_chairs c f, K) := by
  rw [e, mk_chairs]; exact congrArg (fun m : MKK => (sc_chairs m.1 f, m.2)) h
theorem gt_chairs {y : MS} {c : MK} {K : MRest} (h : mkeep y = (c, K)) : M_chairs y = c.2.2.2.1 := congrArg (fun m => m.1.2.2.2.1) h
def sc_width (c : MK) (f : Nat → Int32) : MK := (c.1, c.2.1, c.2.2.1, c.2.2.2.1, f, c.2.2.2.2.2.1, c.2.2.2.2.2.2.1, c.2.2.2.2.2.2.2.1, c.2.2.2.2.2.2.2.2.1, c.2.2.2.2.2.2.2.2.2.1, c.2.2.2.2.2.2.2.2.2.2.1, c.2.2.2.2.2.2.2.2.2.2.2.1, c.2.2.2.2.2.2.2.2.2.2.2.2)
theorem st_width {y y' : MS} {c : MK} {K : MRest} {f : Nat → Int32} (h : mkeep y = (c, K)) (e : y' = M_set_width y f) : mkeep y' = (sc_width c f, K) := by
  rw [e, mk_width]; exact congrArg (fun m : MKK => (sc_width m.1 f, m.2)) h
theorem gt_width {y : MS} {c : MK} {K : MRest} (h : mkeep y = (c, K)) : M_width y = c.2.2.2.2.1 := congrArg (fun m => m.1.2.2.2.2.1) h
def sc_there (c : MK) (f : Int32) : MK := (c.1, c.2.1, c.2.2.1, c.2.2.2.1, c.2.2.2.2.1, f, c.2.2.2.2.2.2.1, c.2.2.2.2.2.2.2.1, c.2.2.2.2.2.2.2.2.1, c.2.2.2.2.2.2.2.2.2.1, c.2.2.2.2.2.2.2.2.2.2.1, c.2.2.2.2.2.2.2.2.2.2.2.1, c.2.2.2.2.2.2.2.2.2.2.2.2)
theorem st_there {y y' : MS} {c : MK} {K : MRest} {f : Int32} (h : mkeep y = (c, K)) (e : y' = M_set_there y f) : mkeep y' = (sc_there c f, K) := by
  rw [e, mk_there]; exact congrArg (fun m : MKK => (sc_there m.1 f, m.2)) h
theorem gt_there {y : MS} {c : MK} {K : MRest} (h : mkeep y = (c, K)) : M_there y = c.2.2.2.2.2.1 := congrArg (fun m => m.1.2.2.2.2.2.1) h
def sc_likes (c : MK) (f : Nat → Int32) : MK := (c.1, c.2.1, c.2.2.1, c.2.2.2.1, c.2.2.2.2.1, c.2.2.2.2.2.1, f, c.2.2.2.2.2.2.2.1, c.2.2.2.2.2.2.2.2.1, c.2.2.2.2.2.2.2.2.2.1, c.2.2.2.2.2.2.2.2.2.2.1, c.2.2.2.2.2.2.2.2.2.2.2.1, c.2.2.2.2.2.2.2.2.2.2.2.2)
theorem st_likes {y y' : MS} {c : MK} {K : MRest} {f : Nat → Int32} (h : mkeep y = (c, K)) (e : y' = M_set_likes y f) : mkeep y' = (sc_likes c f, K) := by
  rw [e, mk_likes]; exact congrArg (fun m : MKK => (sc_likes m.1 f, m.2)) h
theorem gt_likes {y : MS} {c : MK} {K : MRest} (h : mkeep y = (c, K)) : M_likes y = c.2.2.2.2.2.2.1 := congrArg (fun m => m.1.2.2.2.2.2.2.1) h
def sc_place (c : MK) (f : Nat → Int32) : MK := (c.1, c.2.1, c.2.2.1, c.2.2.2.1, c.2.2.2.2.1, c.2.2.2.2.2.1, c.2.2.2.2.2.2.1, f, c.2.2.2.2.2.2.2.2.1, c.2.2.2.2.2.2.2.2.2.1, c.2.2.2.2.2.2.2.2.2.2.1, c.2.2.2.2.2.2.2.2.2.2.2.1, c.2.2.2.2.2.2.2.2.2.2.2.2)
theorem st_place {y y' : MS} {c : MK} {K : MRest} {f : Nat → Int32} (h : mkeep y = (c, K)) (e : y' = M_set_place y f) : mkeep y' = (sc_place c f, K) := by
  rw [e, mk_place]; exact congrArg (fun m : MKK => (sc_place m.1 f, m.2)) h
theorem gt_place {y : MS} {c : MK} {K : MRest} (h : mkeep y = (c, K)) : M_place y = c.2.2.2.2.2.2.2.1 := congrArg (fun m => m.1.2.2.2.2.2.2.2.1) h
def sc_busy (c : MK) (f : Nat → Int32) : MK := (c.1, c.2.1, c.2.2.1, c.2.2.2.1, c.2.2.2.2.1, c.2.2.2.2.2.1, c.2.2.2.2.2.2.1, c.2.2.2.2.2.2.2.1, f, c.2.2.2.2.2.2.2.2.2.1, c.2.2.2.2.2.2.2.2.2.2.1, c.2.2.2.2.2.2.2.2.2.2.2.1, c.2.2.2.2.2.2.2.2.2.2.2.2)
theorem st_busy {y y' : MS} {c : MK} {K : MRest} {f : Nat → Int32} (h : mkeep y = (c, K)) (e : y' = M_set_busy y f) : mkeep y' = (sc_busy c f, K) := by
  rw [e, mk_busy]; exact congrArg (fun m : MKK => (sc_busy m.1 f, m.2)) h
theorem gt_busy {y : MS} {c : MK} {K : MRest} (h : mkeep y = (c, K)) : M_busy y = c.2.2.2.2.2.2.2.2.1 := congrArg (fun m => m.1.2.2.2.2.2.2.2.2.1) h
def sc_with (c : MK) (f : Nat → Int32) : MK := (c.1, c.2.1, c.2.2.1, c.2.2.2.1, c.2.2.2.2.1, c.2.2.2.2.2.1, c.2.2.2.2.2.2.1, c.2.2.2.2.2.2.2.1, c.2.2.2.2.2.2.2.2.1, f, c.2.2.2.2.2.2.2.2.2.2.1, c.2.2.2.2.2.2.2.2.2.2.2.1, c.2.2.2.2.2.2.2.2.2.2.2.2)
theorem st_with {y y' : MS} {c : MK} {K : MRest} {f : Nat → Int32} (h : mkeep y = (c, K)) (e : y' = M_set_with y f) : mkeep y' = (sc_with c f, K) := by
  rw [e, mk_with]; exact congrArg (fun m : MKK => (sc_with m.1 f, m.2)) h
theorem gt_with {y : MS} {c : MK} {K : MRest} (h : mkeep y = (c, K)) : M_with y = c.2.2.2.2.2.2.2.2.2.1 := congrArg (fun m => m.1.2.2.2.2.2.2.2.2.2.1) h
def sc_left (c : MK) (f : Nat → Int32) : MK := (c.1, c.2.1, c.2.2.1, c.2.2.2.1, c.2.2.2.2.1, c.2.2.2.2.2.1, c.2.2.2.2.2.2.1, c.2.2.2.2.2.2.2.1, c.2.2.2.2.2.2.2.2.1, c.2.2.2.2.2.2.2.2.2.1, f, c.2.2.2.2.2.2.2.2.2.2.2.1, c.2.2.2.2.2.2.2.2.2.2.2.2)
theorem st_left {y y' : MS} {c : MK} {K : MRest} {f : Nat → Int32} (h : mkeep y = (c, K)) (e : y' = M_set_left y f) : mkeep y' = (sc_left c f, K) := by
  rw [e, mk_left]; exact congrArg (fun m : MKK => (sc_left m.1 f, m.2)) h
theorem gt_left {y : MS} {c : MK} {K : MRest} (h : mkeep y = (c, K)) : M_left y = c.2.2.2.2.2.2.2.2.2.2.1 := congrArg (fun m => m.1.2.2.2.2.2.2.2.2.2.2.1) h
def sc_sights (c : MK) (f : Int32) : MK := (c.1, c.2.1, c.2.2.1, c.2.2.2.1, c.2.2.2.2.1, c.2.2.2.2.2.1, c.2.2.2.2.2.2.1, c.2.2.2.2.2.2.2.1, c.2.2.2.2.2.2.2.2.1, c.2.2.2.2.2.2.2.2.2.1, c.2.2.2.2.2.2.2.2.2.2.1, f, c.2.2.2.2.2.2.2.2.2.2.2.2)
theorem st_sights {y y' : MS} {c : MK} {K : MRest} {f : Int32} (h : mkeep y = (c, K)) (e : y' = M_set_sights y f) : mkeep y' = (sc_sights c f, K) := by
  rw [e, mk_sights]; exact congrArg (fun m : MKK => (sc_sights m.1 f, m.2)) h
theorem gt_sights {y : MS} {c : MK} {K : MRest} (h : mkeep y = (c, K)) : M_sights y = c.2.2.2.2.2.2.2.2.2.2.2.1 := congrArg (fun m => m.1.2.2.2.2.2.2.2.2.2.2.2.1) h
def sc_sight (c : MK) (f : Nat → Int32) : MK := (c.1, c.2.1, c.2.2.1, c.2.2.2.1, c.2.2.2.2.1, c.2.2.2.2.2.1, c.2.2.2.2.2.2.1, c.2.2.2.2.2.2.2.1, c.2.2.2.2.2.2.2.2.1, c.2.2.2.2.2.2.2.2.2.1, c.2.2.2.2.2.2.2.2.2.2.1, c.2.2.2.2.2.2.2.2.2.2.2.1, f)
theorem st_sight {y y' : MS} {c : MK} {K : MRest} {f : Nat → Int32} (h : mkeep y = (c, K)) (e : y' = M_set_sight y f) : mkeep y' = (sc_sight c f, K) := by
  rw [e, mk_sight]; exact congrArg (fun m : MKK => (sc_sight m.1 f, m.2)) h
theorem gt_sight {y : MS} {c : MK} {K : MRest} (h : mkeep y = (c, K)) : M_sight y = c.2.2.2.2.2.2.2.2.2.2.2.2 := congrArg (fun m => m.1.2.2.2.2.2.2.2.2.2.2.2.2) h
theorem gt_image {y : MS} {c : MK} {K : MRest} (h : mkeep y = (c, K)) : M_image y = K.2.2.1 := congrArg (fun m => m.2.2.2.1) h
/-- so much of the image I at o is restored -/
def Gx (I : Nat → Int32) (o : Nat) (c : MK) (n1 n2 n3 n4 n5 n6 : Nat) : Prop := (∀ k, k < n1 → c.2.1 k = I (o + k)) ∧ (∀ k, k < n2 → c.2.2.2.2.1 k = I (o + 24 + k)) ∧ (∀ k, k < n3 → c.2.2.2.2.2.2.1 k = I (o + 60 + k)) ∧ (∀ k, k < n4 → c.2.2.2.2.2.2.2.1 k = I (o + 100 + k) ∧ c.2.2.2.2.2.2.2.2.1 k = I (o + 108 + k) ∧ c.2.2.2.2.2.2.2.2.2.1 k = I (o + 116 + k) ∧ c.2.2.2.2.2.2.2.2.2.2.1 k = I (o + 124 + k)) ∧ (∀ k, k < n5 → c.2.2.2.2.2.2.2.2.2.2.2.2 k = I (o + 132 + k)) ∧ (∀ k, k < n6 → c.2.2.1 k = I (o + 144 + k) ∧ c.2.2.2.1 k = I (o + 150 + k))
def ResOk (K : MRest) (o : Nat) (r : Option (Int32 × MS)) : Prop := ∃ w c, r = some (1, w) ∧ mkeep w = (c, K) ∧ MKe (mimg K.2.2.1 o) c
theorem up_eq {f : Nat → Int32} {i : Nat} {v : Int32} {g : Nat → Int32} (hv : v = g i) (h : ∀ k, k < i → f k = g k) : ∀ k, k < i + 1 → upd f i v k = g k := by
  intro k hk
  by_cases c : k = i
  · subst c; rw [pk_us, hv]
  · rw [pk_un c]; exact h k (by omega)
theorem restore_6 {K : MRest} {o : Nat} (ho : o + 159 ≤ 400) {N : Nat} (hFU : FU = N) (hN : 60000 < N) (y : MS) (c : MK) (h : mkeep y = (c, K)) (hG : Gx K.2.2.1 o c 24 36 40 8 12 0) : ResOk K o (it X9_restore_B236 (fun _ _ _ => none) N y (nI o) (nI 0)) := by
  refine it_rule (bot := fun _ _ _ => none) 6 (fun i (s : MS × MK) => mkeep s.1 = (s.2, K) ∧ Gx K.2.2.1 o s.2 24 36 40 8 12 i) (fun k i s => ResOk K o (k s.1 (nI o) (nI i))) ?_ ?_ N 0 (y, c) (by omega) (by omega) ⟨h, hG⟩
  · rintro k ⟨y, c⟩ ⟨h, hG⟩
    have h : mkeep y = (c, K) := h
    obtain ⟨f1, f2, f3, f4, f5, f6⟩ : Gx K.2.2.1 o c 24 36 40 8 12 6 := hG
    obtain ⟨y1, e1⟩ : ∃ x, x = M_set_rooms y (M_image y (o + 156)) := ⟨_, rfl⟩
    have h1 := st_rooms h e1
    obtain ⟨y2, e2⟩ : ∃ x, x = M_set_there y1 (M_image y1 (o + 157)) := ⟨_, rfl⟩
    have h2 := st_there h1 e2
    obtain ⟨y3, e3⟩ : ∃ x, x = M_set_sights y2 (M_image y2 (o + 158)) := ⟨_, rfl⟩
    have h3 := st_sights h2 e3
    rw [gt_image h2, gt_image h1, gt_image h] at h3
    refine ⟨y3, _, ?_, h3, rfl, rfl, rfl, f1, f2, f3, f4, f5, f6⟩
    show X9_restore_B236 k y (nI o) (nI 6) = _
    unfold X9_restore_B236
    rw [if_pos (by decide), show (156 : Int32) = nI 156 from rfl, show (157 : Int32) = nI 157 from rfl, show (158 : Int32) = nI 158 from rfl, nI_add, nI_add, nI_add, chk_nI (by omega) (by decide), nI_clamp (by omega), nI_clamp (by omega), nI_clamp (by omega), ltA_eq, ← e1, chk_nI (by omega) (by decide), ltA_eq, ← e2, chk_nI (by omega) (by decide), ltA_eq, ← e3]
  · rintro k i ⟨y, c⟩ hi ⟨h, hG⟩ hk
    have h : mkeep y = (c, K) := h
    obtain ⟨f1, f2, f3, f4, f5, f6⟩ : Gx K.2.2.1 o c 24 36 40 8 12 i := hG
    obtain ⟨y1, e1⟩ : ∃ x, x = M_set_size y (upd (M_size y) i (M_image y (o + 144 + i))) := ⟨_, rfl⟩
    have h1 := st_size h e1
    obtain ⟨y2, e2⟩ : ∃ x, x = M_set_chairs y1 (upd (M_chairs y1) i (M_image y1 (o + 150 + i))) := ⟨_, rfl⟩
    have h2 := st_chairs h1 e2
    have g1 : ∀ k, k < i + 1 → upd (M_size y) i (M_image y (o + 144 + i)) k = K.2.2.1 (o + 144 + k) := up_eq (g := fun k => K.2.2.1 (o + 144 + k)) (by rw [gt_image h]) (fun k hk => by rw [gt_size h]; exact (f6 k hk).1)
    have g2 : ∀ k, k < i + 1 → upd (M_chairs y1) i (M_image y1 (o + 150 + i)) k = K.2.2.1 (o + 150 + k) := up_eq (g := fun k => K.2.2.1 (o + 150 + k)) (by rw [gt_image h1]) (fun k hk => by rw [gt_chairs h1]; exact (f6 k hk).2)
    have := hk (y2, _) ⟨h2, f1, f2, f3, f4, f5, fun k hk => ⟨g1 k hk, g2 k hk⟩⟩
    show ResOk K o (X9_restore_B236 k y (nI o) (nI i))
    unfold X9_restore_B236
    rw [if_neg (show ¬ (6 : Int32) ≤ nI i from nlit (by decide) hi), show (144 : Int32) = nI 144 from rfl, show (150 : Int32) = nI 150 from rfl, ad3, ad3, chk_nI (by omega) (by decide), chk_nI hi (by decide), nI_clamp (by omega), nI_clamp (by omega), nI_clamp (by omega), ltA_eq, ← e1, chk_nI (by omega) (by decide), chk_nI hi (by decide), ltA_eq, ← e2, nI_1]
    exact this
theorem restore_5 {K : MRest} {o : Nat} (ho : o + 159 ≤ 400) {N : Nat} (hFU : FU = N) (hN : 60000 < N) (y : MS) (c : MK) (h : mkeep y = (c, K)) (hG : Gx K.2.2.1 o c 24 36 40 8 0 0) : ResOk K o (it X9_restore_B204 (fun _ _ _ => none) N y (nI o) (nI 0)) := by
  refine it_rule (bot := fun _ _ _ => none) 12 (fun i (s : MS × MK) => mkeep s.1 = (s.2, K) ∧ Gx K.2.2.1 o s.2 24 36 40 8 i 0) (fun k i s => ResOk K o (k s.1 (nI o) (nI i))) ?_ ?_ N 0 (y, c) (by omega) (by omega) ⟨h, hG⟩
  · rintro k ⟨y, c⟩ ⟨h, hG⟩
    show ResOk K o (X9_restore_B204 k y (nI o) (nI 12))
    unfold X9_restore_B204
    rw [if_pos (by decide), hFU]; exact restore_6 ho hFU hN y c h hG
  · rintro k i ⟨y, c⟩ hi ⟨h, hG⟩ hk
    have h : mkeep y = (c, K) := h
    obtain ⟨f1, f2, f3, f4, f5, f6⟩ : Gx K.2.2.1 o c 24 36 40 8 i 0 := hG
    obtain ⟨y1, e1⟩ : ∃ x, x = M_set_sight y (upd (M_sight y) i (M_image y (o + 132 + i))) := ⟨_, rfl⟩
    have h1 := st_sight h e1
    have g1 : ∀ k, k < i + 1 → upd (M_sight y) i (M_image y (o + 132 + i)) k = K.2.2.1 (o + 132 + k) := up_eq (g := fun k => K.2.2.1 (o + 132 + k)) (by rw [gt_image h]) (fun k hk => by rw [gt_sight h]; exact f5 k hk)
    have := hk (y1, _) ⟨h1, f1, f2, f3, f4, g1, f6⟩
    show ResOk K o (X9_restore_B204 k y (nI o) (nI i))
    unfold X9_restore_B204
    rw [if_neg (show ¬ (12 : Int32) ≤ nI i from nlit (by decide) hi), show (132 : Int32) = nI 132 from rfl, ad3, chk_nI (by omega) (by decide), chk_nI hi (by decide), nI_clamp (by omega), nI_clamp (by omega), ltA_eq, ← e1, nI_1]
    exact this
theorem restore_4 {K : MRest} {o : Nat} (ho : o + 159 ≤ 400) {N : Nat} (hFU : FU = N) (hN : 60000 < N) (y : MS) (c : MK) (h : mkeep y = (c, K)) (hG : Gx K.2.2.1 o c 24 36 40 0 0 0) : ResOk K o (it X9_restore_B122 (fun _ _ _ => none) N y (nI o) (nI 0)) := by
  refine it_rule (bot := fun _ _ _ => none) 8 (fun i (s : MS × MK) => mkeep s.1 = (s.2, K) ∧ Gx K.2.2.1 o s.2 24 36 40 i 0 0) (fun k i s => ResOk K o (k s.1 (nI o) (nI i))) ?_ ?_ N 0 (y, c) (by omega) (by omega) ⟨h, hG⟩
  · rintro k ⟨y, c⟩ ⟨h, hG⟩
    show ResOk K o (X9_restore_B122 k y (nI o) (nI 8))
    unfold X9_restore_B122
    rw [if_pos (by decide), hFU]; exact restore_5 ho hFU hN y c h hG
  · rintro k i ⟨y, c⟩ hi ⟨h, hG⟩ hk
    have h : mkeep y = (c, K) := h
    obtain ⟨f1, f2, f3, f4, f5, f6⟩ : Gx K.2.2.1 o c 24 36 40 i 0 0 := hG
    obtain ⟨y1, e1⟩ : ∃ x, x = M_set_place y (upd (M_place y) i (M_image y (o + 100 + i))) := ⟨_, rfl⟩
    have h1 := st_place h e1
    obtain ⟨y2, e2⟩ : ∃ x, x = M_set_busy y1 (upd (M_busy y1) i (M_image y1 (o + 108 + i))) := ⟨_, rfl⟩
    have h2 := st_busy h1 e2
    obtain ⟨y3, e3⟩ : ∃ x, x = M_set_with y2 (upd (M_with y2) i (M_image y2 (o + 116 + i))) := ⟨_, rfl⟩
    have h3 := st_with h2 e3
    obtain ⟨y4, e4⟩ : ∃ x, x = M_set_left y3 (upd (M_left y3) i (M_image y3 (o + 124 + i))) := ⟨_, rfl⟩
    have h4 := st_left h3 e4
    have g1 : ∀ k, k < i + 1 → upd (M_place y) i (M_image y (o + 100 + i)) k = K.2.2.1 (o + 100 + k) := up_eq (g := fun k => K.2.2.1 (o + 100 + k)) (by rw [gt_image h]) (fun k hk => by rw [gt_place h]; exact (f4 k hk).1)
    have g2 : ∀ k, k < i + 1 → upd (M_busy y1) i (M_image y1 (o + 108 + i)) k = K.2.2.1 (o + 108 + k) := up_eq (g := fun k => K.2.2.1 (o + 108 + k)) (by rw [gt_image h1]) (fun k hk => by rw [gt_busy h1]; exact (f4 k hk).2.1)
    have g3 : ∀ k, k < i + 1 → upd (M_with y2) i (M_image y2 (o + 116 + i)) k = K.2.2.1 (o + 116 + k) := up_eq (g := fun k => K.2.2.1 (o + 116 + k)) (by rw [gt_image h2]) (fun k hk => by rw [gt_with h2]; exact (f4 k hk).2.2.1)
    have g4 : ∀ k, k < i + 1 → upd (M_left y3) i (M_image y3 (o + 124 + i)) k = K.2.2.1 (o + 124 + k) := up_eq (g := fun k => K.2.2.1 (o + 124 + k)) (by rw [gt_image h3]) (fun k hk => by rw [gt_left h3]; exact (f4 k hk).2.2.2)
    have := hk (y4, _) ⟨h4, f1, f2, f3, fun k hk => ⟨g1 k hk, g2 k hk, g3 k hk, g4 k hk⟩, f5, f6⟩
    show ResOk K o (X9_restore_B122 k y (nI o) (nI i))
    unfold X9_restore_B122
    rw [if_neg (show ¬ (8 : Int32) ≤ nI i from nlit (by decide) hi), show (100 : Int32) = nI 100 from rfl, show (108 : Int32) = nI 108 from rfl, show (116 : Int32) = nI 116 from rfl, show (124 : Int32) = nI 124 from rfl, ad3, ad3, ad3, ad3, chk_nI (by omega) (by decide), chk_nI hi (by decide), nI_clamp (by omega), nI_clamp (by omega), nI_clamp (by omega), nI_clamp (by omega), nI_clamp (by omega), ltA_eq, ← e1, chk_nI (by omega) (by decide), chk_nI hi (by decide), ltA_eq, ← e2, chk_nI (by omega) (by decide), chk_nI hi (by decide), ltA_eq, ← e3, chk_nI (by omega) (by decide), chk_nI hi (by decide), ltA_eq, ← e4, nI_1]
    exact this
theorem restore_3 {K : MRest} {o : Nat} (ho : o + 159 ≤ 400) {N : Nat} (hFU : FU = N) (hN : 60000 < N) (y : MS) (c : MK) (h : mkeep y = (c, K)) (hG : Gx K.2.2.1 o c 24 36 0 0 0 0) : ResOk K o (it X9_restore_B91 (fun _ _ _ => none) N y (nI o) (nI 0)) := by
  refine it_rule (bot := fun _ _ _ => none) 40 (fun i (s : MS × MK) => mkeep s.1 = (s.2, K) ∧ Gx K.2.2.1 o s.2 24 36 i 0 0 0) (fun k i s => ResOk K o (k s.1 (nI o) (nI i))) ?_ ?_ N 0 (y, c) (by omega) (by omega) ⟨h, hG⟩
  · rintro k ⟨y, c⟩ ⟨h, hG⟩
    show ResOk K o (X9_restore_B91 k y (nI o) (nI 40))
    unfold X9_restore_B91
    rw [if_pos (by decide), hFU]; exact restore_4 ho hFU hN y c h hG
  · rintro k i ⟨y, c⟩ hi ⟨h, hG⟩ hk
    have h : mkeep y = (c, K) := h
    obtain ⟨f1, f2, f3, f4, f5, f6⟩ : Gx K.2.2.1 o c 24 36 i 0 0 0 := hG
    obtain ⟨y1, e1⟩ : ∃ x, x = M_set_likes y (upd (M_likes y) i (M_image y (o + 60 + i))) := ⟨_, rfl⟩
    have h1 := st_likes h e1
    have g1 : ∀ k, k < i + 1 → upd (M_likes y) i (M_image y (o + 60 + i)) k = K.2.2.1 (o + 60 + k) := up_eq (g := fun k => K.2.2.1 (o + 60 + k)) (by rw [gt_image h]) (fun k hk => by rw [gt_likes h]; exact f3 k hk)
    have := hk (y1, _) ⟨h1, f1, f2, g1, f4, f5, f6⟩
    show ResOk K o (X9_restore_B91 k y (nI o) (nI i))
    unfold X9_restore_B91
    rw [if_neg (show ¬ (40 : Int32) ≤ nI i from nlit (by decide) hi), show (60 : Int32) = nI 60 from rfl, ad3, chk_nI (by omega) (by decide), chk_nI hi (by decide), nI_clamp (by omega), nI_clamp (by omega), ltA_eq, ← e1, nI_1]
    exact this
theorem restore_2 {K : MRest} {o : Nat} (ho : o + 159 ≤ 400) {N : Nat} (hFU : FU = N) (hN : 60000 < N) (y : MS) (c : MK) (h : mkeep y = (c, K)) (hG : Gx K.2.2.1 o c 24 0 0 0 0 0) : ResOk K o (it X9_restore_B60 (fun _ _ _ => none) N y (nI o) (nI 0)) := by
  refine it_rule (bot := fun _ _ _ => none) 36 (fun i (s : MS × MK) => mkeep s.1 = (s.2, K) ∧ Gx K.2.2.1 o s.2 24 i 0 0 0 0) (fun k i s => ResOk K o (k s.1 (nI o) (nI i))) ?_ ?_ N 0 (y, c) (by omega) (by omega) ⟨h, hG⟩
  · rintro k ⟨y, c⟩ ⟨h, hG⟩
    show ResOk K o (X9_restore_B60 k y (nI o) (nI 36))
    unfold X9_restore_B60
    rw [if_pos (by decide), hFU]; exact restore_3 ho hFU hN y c h hG
  · rintro k i ⟨y, c⟩ hi ⟨h, hG⟩ hk
    have h : mkeep y = (c, K) := h
    obtain ⟨f1, f2, f3, f4, f5, f6⟩ : Gx K.2.2.1 o c 24 i 0 0 0 0 := hG
    obtain ⟨y1, e1⟩ : ∃ x, x = M_set_width y (upd (M_width y) i (M_image y (o + 24 + i))) := ⟨_, rfl⟩
    have h1 := st_width h e1
    have g1 : ∀ k, k < i + 1 → upd (M_width y) i (M_image y (o + 24 + i)) k = K.2.2.1 (o + 24 + k) := up_eq (g := fun k => K.2.2.1 (o + 24 + k)) (by rw [gt_image h]) (fun k hk => by rw [gt_width h]; exact f2 k hk)
    have := hk (y1, _) ⟨h1, f1, g1, f3, f4, f5, f6⟩
    show ResOk K o (X9_restore_B60 k y (nI o) (nI i))
    unfold X9_restore_B60
    rw [if_neg (show ¬ (36 : Int32) ≤ nI i from nlit (by decide) hi), show (24 : Int32) = nI 24 from rfl, ad3, chk_nI (by omega) (by decide), chk_nI hi (by decide), nI_clamp (by omega), nI_clamp (by omega), ltA_eq, ← e1, nI_1]
    exact this
theorem restore_1 {K : MRest} {o : Nat} (ho : o + 159 ≤ 400) {N : Nat} (hFU : FU = N) (hN : 60000 < N) (y : MS) (c : MK) (h : mkeep y = (c, K)) (hG : Gx K.2.2.1 o c 0 0 0 0 0 0) : ResOk K o (it X9_restore_B32 (fun _ _ _ => none) N y (nI o) (nI 0)) := by
  refine it_rule (bot := fun _ _ _ => none) 24 (fun i (s : MS × MK) => mkeep s.1 = (s.2, K) ∧ Gx K.2.2.1 o s.2 i 0 0 0 0 0) (fun k i s => ResOk K o (k s.1 (nI o) (nI i))) ?_ ?_ N 0 (y, c) (by omega) (by omega) ⟨h, hG⟩
  · rintro k ⟨y, c⟩ ⟨h, hG⟩
    show ResOk K o (X9_restore_B32 k y (nI o) (nI 24))
    unfold X9_restore_B32
    rw [if_pos (by decide), hFU]; exact restore_2 ho hFU hN y c h hG
  · rintro k i ⟨y, c⟩ hi ⟨h, hG⟩ hk
    have h : mkeep y = (c, K) := h
    obtain ⟨f1, f2, f3, f4, f5, f6⟩ : Gx K.2.2.1 o c i 0 0 0 0 0 := hG
    obtain ⟨y1, e1⟩ : ∃ x, x = M_set_things y (upd (M_things y) i (M_image y (o + i))) := ⟨_, rfl⟩
    have h1 := st_things h e1
    have g1 : ∀ k, k < i + 1 → upd (M_things y) i (M_image y (o + i)) k = K.2.2.1 (o + k) := up_eq (g := fun k => K.2.2.1 (o + k)) (by rw [gt_image h]) (fun k hk => by rw [gt_things h]; exact f1 k hk)
    have := hk (y1, _) ⟨h1, g1, f2, f3, f4, f5, f6⟩
    show ResOk K o (X9_restore_B32 k y (nI o) (nI i))
    unfold X9_restore_B32
    rw [if_neg (show ¬ (24 : Int32) ≤ nI i from nlit (by decide) hi), nI_add, chk_nI (by omega) (by decide), chk_nI hi (by decide), nI_clamp (by omega), nI_clamp (by omega), ltA_eq, ← e1, nI_1]
    exact this
theorem restore_spec (z : MS) {n : Nat} (hn : n < 2) : ResOk (M_signs z, M_pad z, M_image z, M_isKept z) (200 * n) (it X9_restore_B32 (fun _ _ _ => none) FU z ((200 : Int32) * nI n) 0) := by
  obtain ⟨N, hN, hFU⟩ := FU_ex
  rw [hFU, show (200 : Int32) * nI n = nI (200 * n) from pk_mul 200 n]
  exact restore_1 (by omega) hFU hN z (mcore z) rfl ⟨fun k hk => absurd hk (Nat.not_lt_zero _), fun k hk => absurd hk (Nat.not_lt_zero _), fun k hk => absurd hk (Nat.not_lt_zero _), fun k hk => absurd hk (Nat.not_lt_zero _), fun k hk => absurd hk (Nat.not_lt_zero _), fun k hk => absurd hk (Nat.not_lt_zero _)⟩
theorem sim_image : Sim_image Rel := by
  intro S z x h
  obtain ⟨⟨a, hI, hH, hM⟩, hp, h0, h1⟩ := id h
  have hH : Hc (K_now S) a := hH
  have hM : Mc (mcore z) a := hM
  rcases num_cases x (n := 2) (by decide) with ⟨n, hn, rfl⟩ | hx
  · obtain ⟨w, F, e1, e2, e3, e4⟩ := image_spec z hn
    have hMF := Mc_congr hI.1.2.2.2 e3 hM
    rcases (show n = 0 ∨ n = 1 by omega) with rfl | rfl
    · obtain ⟨y, c1, c2⟩ := copy_Hc (h := K_img0 S) hI.1.2.2.2 hH
      refine ⟨(1, upd (K_kept S) 0 1, y, K_img1 S), (1, w), ?_, e1, rfl, ?_⟩
      · show f_X8_image (K_now S) (K_kept S) (K_img0 S) (K_img1 S) 0 = _
        unfold f_X8_image
        rw [if_neg (by decide), if_pos (by decide), show chk (0 : Int32) 2 = fun x => x from funext fun x => chk_nI (n := 0) (by decide) (by decide), if_pos rfl, c1, Option.bind_some, ltA_eq]
        rfl
      · unfold Rel
        rw [e2]
        refine ⟨⟨a, hI, hH, hM⟩, hp, ⟨rfl, Or.inr rfl, fun _ => ⟨a, hI, c2, hMF⟩⟩, ?_⟩
        show ImgR (upd (K_kept S) 0 1 1) (upd (M_isKept z) 0 1 1) (K_img1 S) (mimg F 200)
        rw [pk_un (by decide), pk_un (by decide)]
        refine ⟨h1.1, h1.2.1, fun q => ?_⟩
        obtain ⟨b, b1, b2, b3⟩ := h1.2.2 q
        refine ⟨b, b1, b2, Mc_congr b1.1.2.2.2 ?_ b3⟩
        have q : ∀ k, 200 ≤ k → F k = M_image z k := fun k hk => e4 k (Or.inr (by omega))
        exact ⟨q _ (by omega), q _ (by omega), q _ (by omega), fun k hk => q _ (by omega), fun k hk => q _ (by omega), fun k hk => q _ (by omega), fun k hk => ⟨q _ (by omega), q _ (by omega), q _ (by omega), q _ (by omega)⟩, fun k hk => q _ (by omega), fun k hk => ⟨q _ (by omega), q _ (by omega)⟩⟩
    · obtain ⟨y, c1, c2⟩ := copy_Hc (h := K_img1 S) hI.1.2.2.2 hH
      refine ⟨(1, upd (K_kept S) 1 1, K_img0 S, y), (1, w), ?_, e1, rfl, ?_⟩
      · show f_X8_image (K_now S) (K_kept S) (K_img0 S) (K_img1 S) 1 = _
        unfold f_X8_image
        rw [if_neg (by decide), if_pos (by decide), show chk (1 : Int32) 2 = fun x => x from funext fun x => chk_nI (n := 1) (by decide) (by decide), if_neg (by decide), c1, Option.bind_some, ltA_eq]
        rfl
      · unfold Rel
        rw [e2]
        refine ⟨⟨a, hI, hH, hM⟩, hp, ?_, ⟨rfl, Or.inr rfl, fun _ => ⟨a, hI, c2, hMF⟩⟩⟩
        show ImgR (upd (K_kept S) 1 1 0) (upd (M_isKept z) 1 1 0) (K_img0 S) (mimg F 0)
        rw [pk_un (by decide), pk_un (by decide)]
        refine ⟨h0.1, h0.2.1, fun q => ?_⟩
        obtain ⟨b, b1, b2, b3⟩ := h0.2.2 q
        refine ⟨b, b1, b2, Mc_congr b1.1.2.2.2 ?_ b3⟩
        have q : ∀ k, k < 200 → F k = M_image z k := fun k hk => e4 k (Or.inl (by omega))
        exact ⟨q _ (by omega), q _ (by omega), q _ (by omega), fun k hk => q _ (by omega), fun k hk => q _ (by omega), fun k hk => q _ (by omega), fun k hk => ⟨q _ (by omega), q _ (by omega), q _ (by omega), q _ (by omega)⟩, fun k hk => q _ (by omega), fun k hk => ⟨q _ (by omega), q _ (by omega)⟩⟩
  · refine ⟨(-2, K_kept S, K_img0 S, K_img1 S), (-2, z), ?_, ?_, rfl, h⟩
    · unfold f_X8_image
      by_cases c : x < 0
      · rw [if_pos c]
      · rw [if_neg c, if_neg (show ¬ x < (2 : Int32) from Int32.not_lt.mpr (hx.resolve_left c))]
    · unfold f_X9_image; rw [show f_X9_in x 0 1 = some 0 from in_no (n := 2) (by decide) (by decide) hx, Option.bind_some, if_pos rfl]
theorem sim_restore : Sim_restore Rel := by
  intro S z x h
  obtain ⟨⟨a, hI, hH, hM⟩, hp, h0, h1⟩ := id h
  rcases num_cases x (n := 2) (by decide) with ⟨n, hn, rfl⟩ | hx
  · have key : ∀ (ik : HS) (hi : ImgR (K_kept S n) (M_isKept z n) ik (mimg (M_image z) (200 * n))), (∀ y, f_X1_copy (K_now S) ik = some y → K_kept S n ≠ 0 → f_X8_restore (K_now S) (K_kept S) (K_img0 S) (K_img1 S) (nI n) = some (1, y)) → ∃ q w, f_X8_restore (K_now S) (K_kept S) (K_img0 S) (K_img1 S) (nI n) = some q ∧ f_X9_restore z (nI n) = some w ∧ q.1 = w.1 ∧ Rel (K_set_now S q.2) w.2 := by
      intro ik hi hc
      have tin : f_X9_in (nI n) 0 1 = some 1 := in_nI (n := 2) hn (by decide)
      by_cases c : K_kept S n = 0
      · have c2 : M_isKept z n = 0 := hi.1 ▸ c
        refine ⟨(-3, K_now S), (-3, z), ?_, ?_, rfl, h⟩
        · unfold f_X8_restore
          rw [if_neg (nI_pos (by omega)), if_pos (show nI n < (2 : Int32) from nI_lt hn (by decide)), chk_nI hn (by decide), nI_clamp (by omega), if_pos c]
        · unfold f_X9_restore
          rw [tin, Option.bind_some, if_neg (by decide), chk_nI hn (by decide), nI_clamp (by omega), if_pos c2]
      · have c1 : K_kept S n = 1 := hi.2.1.resolve_left c
        have c2 : ¬ M_isKept z n = 0 := fun q => c (hi.1.trans q)
        obtain ⟨b, b1, b2, b3⟩ := hi.2.2 c1
        obtain ⟨y, d1, d2⟩ := copy_Hc (h := K_now S) b1.1.2.2.2 b2
        obtain ⟨w, cc, e1, e2, e3⟩ := restore_spec z hn
        refine ⟨(1, y), (1, w), hc y d1 c, ?_, rfl, ?_⟩
        · unfold f_X9_restore
          rw [tin, Option.bind_some, if_neg (by decide), chk_nI hn (by decide), nI_clamp (by omega), if_neg c2]
          exact e1
        · unfold Rel
          rw [e2]
          exact ⟨⟨b, b1, d2, Mc_congr b1.1.2.2.2 e3 b3⟩, hp, h0, h1⟩
    rcases (show n = 0 ∨ n = 1 by omega) with rfl | rfl
    · refine key (K_img0 S) h0 (fun y hy hc => ?_)
      unfold f_X8_restore
      rw [if_neg (by decide), if_pos (by decide), chk_nI hn (by decide), nI_clamp (by omega), if_neg hc, chk_nI hn (by decide), if_pos (by decide), hy, Option.bind_some]
    · refine key (K_img1 S) h1 (fun y hy hc => ?_)
      unfold f_X8_restore
      rw [if_neg (by decide), if_pos (by decide), chk_nI hn (by decide), nI_clamp (by omega), if_neg hc, chk_nI hn (by decide), if_neg (by decide), hy, Option.bind_some]
  · refine ⟨(-2, K_now S), (-2, z), ?_, ?_, rfl, h⟩
    · unfold f_X8_restore
      by_cases c : x < 0
      · rw [if_pos c]
      · rw [if_neg c, if_neg (show ¬ x < (2 : Int32) from Int32.not_lt.mpr (hx.resolve_left c))]
    · unfold f_X9_restore; rw [show f_X9_in x 0 1 = some 0 from in_no (n := 2) (by decide) (by decide) hx, Option.bind_some, if_pos rfl]
