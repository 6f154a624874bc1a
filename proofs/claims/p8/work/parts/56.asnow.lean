/-- the reference's own present -/
abbrev MSC : Type := (Nat → Int32) × (Nat → Int32) × (Nat → Int32) × (Nat → Int32) × (Nat → Int32) × Int32 × (Nat → Int32)
def msc (z : MS) : MSC := (M_at z, M_busyNow z, M_withNow z, M_leftNow z, M_thingsNow z, M_loose z, M_through z)
theorem ms_at (z : MS) (f : Nat → Int32) : msc (M_set_at z f) = (f, M_busyNow z, M_withNow z, M_leftNow z, M_thingsNow z, M_loose z, M_through z) := rfl
theorem ms_busyNow (z : MS) (f : Nat → Int32) : msc (M_set_busyNow z f) = (M_at z, f, M_withNow z, M_leftNow z, M_thingsNow z, M_loose z, M_through z) := rfl
theorem ms_withNow (z : MS) (f : Nat → Int32) : msc (M_set_withNow z f) = (M_at z, M_busyNow z, f, M_leftNow z, M_thingsNow z, M_loose z, M_through z) := rfl
theorem ms_leftNow (z : MS) (f : Nat → Int32) : msc (M_set_leftNow z f) = (M_at z, M_busyNow z, M_withNow z, f, M_thingsNow z, M_loose z, M_through z) := rfl
theorem ms_thingsNow (z : MS) (f : Nat → Int32) : msc (M_set_thingsNow z f) = (M_at z, M_busyNow z, M_withNow z, M_leftNow z, f, M_loose z, M_through z) := rfl
theorem ms_loose (z : MS) (v : Int32) : msc (M_set_loose z v) = (M_at z, M_busyNow z, M_withNow z, M_leftNow z, M_thingsNow z, v, M_through z) := rfl
theorem ms_through (z : MS) (f : Nat → Int32) : msc (M_set_through z f) = (M_at z, M_busyNow z, M_withNow z, M_leftNow z, M_thingsNow z, M_loose z, f) := rfl
/-- what a set leaves, by its name: the lasting part and the present -/
theorem set_at {z z' : MS} {f : Nat → Int32} (h : z' = M_set_at z f) : mkeep z' = mkeep z ∧ msc z' = (f, (msc z).2) := by subst h; exact ⟨kp_at z f, ms_at z f⟩
theorem set_busyNow {z z' : MS} {f : Nat → Int32} (h : z' = M_set_busyNow z f) : mkeep z' = mkeep z ∧ msc z' = ((msc z).1, f, (msc z).2.2) := by subst h; exact ⟨kp_busyNow z f, ms_busyNow z f⟩
theorem set_withNow {z z' : MS} {f : Nat → Int32} (h : z' = M_set_withNow z f) : mkeep z' = mkeep z ∧ msc z' = ((msc z).1, (msc z).2.1, f, (msc z).2.2.2) := by subst h; exact ⟨kp_withNow z f, ms_withNow z f⟩
theorem set_leftNow {z z' : MS} {f : Nat → Int32} (h : z' = M_set_leftNow z f) : mkeep z' = mkeep z ∧ msc z' = ((msc z).1, (msc z).2.1, (msc z).2.2.1, f, (msc z).2.2.2.2) := by subst h; exact ⟨kp_leftNow z f, ms_leftNow z f⟩
theorem set_thingsNow {z z' : MS} {f : Nat → Int32} (h : z' = M_set_thingsNow z f) : mkeep z' = mkeep z ∧ msc z' = ((msc z).1, (msc z).2.1, (msc z).2.2.1, (msc z).2.2.2.1, f, (msc z).2.2.2.2.2) := by subst h; exact ⟨kp_thingsNow z f, ms_thingsNow z f⟩
theorem set_loose {z z' : MS} {v : Int32} (h : z' = M_set_loose z v) : mkeep z' = mkeep z ∧ msc z' = ((msc z).1, (msc z).2.1, (msc z).2.2.1, (msc z).2.2.2.1, (msc z).2.2.2.2.1, v, (msc z).2.2.2.2.2.2) := by subst h; exact ⟨kp_loose z v, ms_loose z v⟩
theorem set_through {z z' : MS} {f : Nat → Int32} (h : z' = M_set_through z f) : mkeep z' = mkeep z ∧ msc z' = ((msc z).1, (msc z).2.1, (msc z).2.2.1, (msc z).2.2.2.1, (msc z).2.2.2.2.1, (msc z).2.2.2.2.2.1, f) := by subst h; exact ⟨kp_through z f, ms_through z f⟩
def AsN (z0 z : MS) (i j : Nat) : Prop := mkeep z = mkeep z0 ∧ (∀ g, g < i → M_at z g = M_place z0 g ∧ M_busyNow z g = M_busy z0 g ∧ M_withNow z g = M_with z0 g ∧ M_leftNow z g = M_left z0 g) ∧ ∀ k, k < j → M_thingsNow z k = M_things z0 k
theorem asNow_2 {N : Nat} (hN : 60000 < N) (z0 z : MS) (h : AsN z0 z 8 0) : ∃ w, it X9_asNow_B64 (fun _ _ => none) N z (nI 0) = some w ∧ AsN z0 w 8 24 ∧ M_loose w = -6 := by
  refine it_rule (bot := fun _ _ => none) 24 (fun i z => AsN z0 z 8 i) (fun k i z => ∃ w, k z (nI i) = some w ∧ AsN z0 w 8 24 ∧ M_loose w = -6) ?_ ?_ N 0 z (by omega) (by omega) h
  · intro k z hz
    obtain ⟨z1, ez1⟩ : ∃ y, y = M_set_loose z (-6 : Int32) := ⟨_, rfl⟩
    obtain ⟨e1, e2⟩ := set_loose ez1
    refine ⟨z1, ?_, ⟨e1.trans hz.1, ?_, ?_⟩, congrArg (fun m => m.2.2.2.2.2.1) e2⟩
    · unfold X9_asNow_B64; rw [if_pos (by decide), ltA_eq, ← ez1]
    · intro g hg
      have q1 : M_at z1 = M_at z := congrArg (fun m => m.1) e2
      have q2 : M_busyNow z1 = M_busyNow z := congrArg (fun m => m.2.1) e2
      have q3 : M_withNow z1 = M_withNow z := congrArg (fun m => m.2.2.1) e2
      have q4 : M_leftNow z1 = M_leftNow z := congrArg (fun m => m.2.2.2.1) e2
      rw [q1, q2, q3, q4]; exact hz.2.1 g hg
    · intro k hk
      have q5 : M_thingsNow z1 = M_thingsNow z := congrArg (fun m => m.2.2.2.2.1) e2
      rw [q5]; exact hz.2.2 k hk
  · intro k i z hi hz hk
    have t0 : M_things z = M_things z0 := congrArg (fun m => m.1.2.1) hz.1
    obtain ⟨z1, ez1⟩ : ∃ y, y = M_set_thingsNow z (upd (M_thingsNow z) i (M_things z i)) := ⟨_, rfl⟩
    obtain ⟨e1, e2⟩ := set_thingsNow ez1
    obtain ⟨w, hw1, hw2⟩ := hk z1 ⟨e1.trans hz.1, fun g hg => by
      have q1 : M_at z1 = M_at z := congrArg (fun m => m.1) e2
      have q2 : M_busyNow z1 = M_busyNow z := congrArg (fun m => m.2.1) e2
      have q3 : M_withNow z1 = M_withNow z := congrArg (fun m => m.2.2.1) e2
      have q4 : M_leftNow z1 = M_leftNow z := congrArg (fun m => m.2.2.2.1) e2
      rw [q1, q2, q3, q4]; exact hz.2.1 g hg, fun j hj => by
      have q5 : M_thingsNow z1 = upd (M_thingsNow z) i (M_things z i) := congrArg (fun m => m.2.2.2.2.1) e2
      rw [q5]
      by_cases q : j = i
      · subst q; rw [pk_us, t0]
      · rw [pk_un q]; exact hz.2.2 j (by omega)⟩
    refine ⟨w, ?_, hw2⟩
    unfold X9_asNow_B64
    rw [if_neg (show ¬ (24 : Int32) ≤ nI i from nlit (by decide) hi), chk_nI hi (by decide), chk_nI hi (by decide), nI_clamp (by omega), ltA_eq, ← ez1, nI_1]
    exact hw1
theorem asNow_1 {N : Nat} (hFU : FU = N) (hN : 60000 < N) (z : MS) : ∃ w, it X9_asNow_B2 (fun _ _ => none) N z (nI 0) = some w ∧ AsN z w 8 24 ∧ M_loose w = -6 := by
  have z0 := z
  refine it_rule (bot := fun _ _ => none) 8 (fun i z' => AsN z z' i 0) (fun k i z' => ∃ w, k z' (nI i) = some w ∧ AsN z w 8 24 ∧ M_loose w = -6) ?_ ?_ N 0 z (by omega) (by omega) ⟨rfl, fun g hg => absurd hg (Nat.not_lt_zero _), fun k hk => absurd hk (Nat.not_lt_zero _)⟩
  · intro k z1 hz
    obtain ⟨w, hw1, hw2⟩ := asNow_2 hN z z1 hz
    exact ⟨w, by unfold X9_asNow_B2; rw [if_pos (by decide), hFU]; exact hw1, hw2⟩
  · intro k i y hi hy hk
    have p0 : M_place y = M_place z := congrArg (fun m => m.1.2.2.2.2.2.2.2.1) hy.1
    obtain ⟨y1, ey1⟩ : ∃ x, x = M_set_at y (upd (M_at y) i (M_place y i)) := ⟨_, rfl⟩
    obtain ⟨a1, b1⟩ := set_at ey1
    obtain ⟨y2, ey2⟩ : ∃ x, x = M_set_busyNow y1 (upd (M_busyNow y1) i (M_busy y1 i)) := ⟨_, rfl⟩
    obtain ⟨a2, b2⟩ := set_busyNow ey2
    obtain ⟨y3, ey3⟩ : ∃ x, x = M_set_withNow y2 (upd (M_withNow y2) i (M_with y2 i)) := ⟨_, rfl⟩
    obtain ⟨a3, b3⟩ := set_withNow ey3
    obtain ⟨y4, ey4⟩ : ∃ x, x = M_set_leftNow y3 (upd (M_leftNow y3) i (M_left y3 i)) := ⟨_, rfl⟩
    obtain ⟨a4, b4⟩ := set_leftNow ey4
    have k1 := a1.trans hy.1
    have k2 := a2.trans k1
    have k3 := a3.trans k2
    have k4 := a4.trans k3
    have c1 : M_busy y1 = M_busy z := congrArg (fun m => m.1.2.2.2.2.2.2.2.2.1) k1
    have c2 : M_with y2 = M_with z := congrArg (fun m => m.1.2.2.2.2.2.2.2.2.2.1) k2
    have c3 : M_left y3 = M_left z := congrArg (fun m => m.1.2.2.2.2.2.2.2.2.2.2.1) k3
    have b4' : msc y4 = (upd (M_at y) i (M_place z i), upd (M_busyNow y) i (M_busy z i), upd (M_withNow y) i (M_with z i), upd (M_leftNow y) i (M_left z i), M_thingsNow y, M_loose y, M_through y) := by
      have d1 : M_busyNow y1 = M_busyNow y := congrArg (fun m => m.2.1) b1
      have d2 : M_withNow y2 = M_withNow y1 := congrArg (fun m => m.2.2.1) b2
      have d2' : M_withNow y1 = M_withNow y := congrArg (fun m => m.2.2.1) b1
      have d3 : M_leftNow y3 = M_leftNow y2 := congrArg (fun m => m.2.2.2.1) b3
      have d3' : M_leftNow y2 = M_leftNow y1 := congrArg (fun m => m.2.2.2.1) b2
      have d3'' : M_leftNow y1 = M_leftNow y := congrArg (fun m => m.2.2.2.1) b1
      rw [b4, b3, b2, b1, c1, c2, c3, d1, d2, d2', d3, d3', d3'', p0]
      rfl
    obtain ⟨w, hw1, hw2⟩ := hk y4 ⟨k4, fun g hg => by
      have q1 : M_at y4 = upd (M_at y) i (M_place z i) := congrArg (fun m => m.1) b4'
      have q2 : M_busyNow y4 = upd (M_busyNow y) i (M_busy z i) := congrArg (fun m => m.2.1) b4'
      have q3 : M_withNow y4 = upd (M_withNow y) i (M_with z i) := congrArg (fun m => m.2.2.1) b4'
      have q4 : M_leftNow y4 = upd (M_leftNow y) i (M_left z i) := congrArg (fun m => m.2.2.2.1) b4'
      rw [q1, q2, q3, q4]
      by_cases q : g = i
      · subst q; rw [pk_us, pk_us, pk_us, pk_us]; exact ⟨rfl, rfl, rfl, rfl⟩
      · rw [pk_un q, pk_un q, pk_un q, pk_un q]; exact hy.2.1 g (by omega), fun k hk => absurd hk (Nat.not_lt_zero _)⟩
    refine ⟨w, ?_, hw2⟩
    unfold X9_asNow_B2
    rw [if_neg (show ¬ (8 : Int32) ≤ nI i from nlit (by decide) hi), chk_nI hi (by decide), chk_nI hi (by decide), nI_clamp (by omega), ltA_eq, ← ey1, chk_nI hi (by decide), chk_nI hi (by decide), ltA_eq, ← ey2, chk_nI hi (by decide), chk_nI hi (by decide), ltA_eq, ← ey3, chk_nI hi (by decide), chk_nI hi (by decide), ltA_eq, ← ey4, nI_1]
    exact hw1
/-- asNow(): the present is as it is; nothing that lasts changes -/
theorem asNow_spec (z : MS) : ∃ w, f_X9_asNow z = some w ∧ AsN z w 8 24 ∧ M_loose w = -6 := by
  obtain ⟨N, hN, hFU⟩ := FU_ex
  unfold f_X9_asNow
  rw [hFU]
  exact asNow_1 hFU hN z
