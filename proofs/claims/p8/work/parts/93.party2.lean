theorem rev_sx {z z' : MS} {v : Int32} (h : z' = M_set_reason z v) : mkeep z' = mkeep z ∧ msc z' = msc z ∧ M_reason z' = v ∧ M_events z' = M_events z := by
  obtain ⟨a, b, c⟩ := sx_reason h
  exact ⟨a, b, congrArg (fun m => m.1) c, congrArg (fun m => m.2.1) c⟩
theorem eev_sx {z z' : MS} {v : Int32} (h : z' = M_set_events z v) : mkeep z' = mkeep z ∧ msc z' = msc z ∧ M_reason z' = M_reason z ∧ M_events z' = v := by
  obtain ⟨a, b, c⟩ := sx_events h
  exact ⟨a, b, congrArg (fun m => m.1) c, congrArg (fun m => m.2.1) c⟩
/-- the present doesn't change by what is only noted -/
theorem Mx0.sc {w w' : MS} {b : AS} {lo : Nat → Nat → Bool} (h : Mx0 w b lo) (k : mkeep w' = mkeep w) (e : msc w' = msc w) : Mx0 w' b lo := by
  have q1 : M_at w' = M_at w := congrArg (fun m => m.1) e
  have q2 : M_busyNow w' = M_busyNow w := congrArg (fun m => m.2.1) e
  have q3 : M_withNow w' = M_withNow w := congrArg (fun m => m.2.2.1) e
  have q4 : M_leftNow w' = M_leftNow w := congrArg (fun m => m.2.2.2.1) e
  have q5 : M_thingsNow w' = M_thingsNow w := congrArg (fun m => m.2.2.2.2.1) e
  have q6 : M_loose w' = M_loose w := congrArg (fun m => m.2.2.2.2.2.1) e
  exact h.now (Mc_now k h.1 rfl rfl rfl rfl rfl rfl rfl rfl (fun r s hr hs => by rw [q5]; exact gt_th h.1 hr hs) (fun _ _ _ _ _ => rfl) (fun g hg hi => by rw [q1, q2, q3, q4]; exact gt_now h.1 hg hi)) q6
theorem rvx {w w' : MS} (h : mrest w' = mrest w) : M_reason w' = M_reason w ∧ M_events w' = M_events w := ⟨congrArg (fun m => m.1) h, congrArg (fun m => m.2.1) h⟩
theorem it_part {γ : Type} {B : γ → γ} {bot : γ} (P : γ → Prop) (h0 : P bot) (hs : ∀ k, P k → P (B k)) : ∀ n, P (it B bot n)
  | 0 => h0
  | n + 1 => hs _ (it_part P h0 hs n)
theorem chk_so {α : Type} {i : Int32} {n : Nat} {x : Option α} {r : α} (h : chk i n x = some r) : x = some r := by
  unfold chk at h
  split at h
  · exact h
  · cases h
theorem ltA_some {α β : Type} {x : α} {k : α → Option β} {r : β} (h : ltA x k = some r) : k x = some r := by rw [ltA_eq] at h; exact h
/-- minutes leave the party's notes alone -/
theorem shut_rest {z : MS} {r : MS} (h : f_X9_shut z = some r) : mrest r = mrest z := by
  unfold f_X9_shut at h
  refine it_part (B := X9_shut_B2) (bot := fun _ _ => none) (fun k => ∀ z a r, k z a = some r → mrest r = mrest z) (fun _ _ _ h => by cases h) ?_ FU z 0 r h
  intro k hk z a r h
  unfold X9_shut_B2 at h
  split at h
  · cases h; rfl
  · have h := ltA_some (chk_so h)
    obtain ⟨y, ey⟩ : ∃ y, y = M_set_through z (upd (M_through z) a.toNatClampNeg 0) := ⟨_, rfl⟩
    rw [← ey] at h
    exact (hk _ _ _ h).trans (sx_through ey).2.2
theorem pass108_rest {z : MS} {a b : Int32} {r : Int32 × MS} (h : it X9_pass_B108 (fun _ _ _ => none) FU z a b = some r) : mrest r.2 = mrest z := by
  refine it_part (B := X9_pass_B108) (bot := fun _ _ _ => none) (fun k => ∀ z a b r, k z a b = some r → mrest r.2 = mrest z) (fun _ _ _ _ h => by cases h) ?_ FU z a b r h
  intro k hk z a b r h
  unfold X9_pass_B108 X9_pass_J164 X9_pass_J165 at h
  split at h
  · cases h; rfl
  · obtain ⟨q, -, h⟩ := Option.bind_eq_some_iff.mp h
    split at h
    · exact hk _ _ _ _ h
    · have h := chk_so h
      split at h
      · have h := ltA_some (chk_so (chk_so h))
        obtain ⟨y, ey⟩ : ∃ y, y = M_set_leftNow z (upd (M_leftNow z) b.toNatClampNeg (M_leftNow z b.toNatClampNeg - 1)) := ⟨_, rfl⟩
        rw [← ey] at h
        have h := chk_so h
        have e1 := (sx_leftNow ey).2.2
        split at h
        · have h := ltA_some (chk_so h)
          obtain ⟨y2, ey2⟩ : ∃ y2, y2 = M_set_busyNow y (upd (M_busyNow y) b.toNatClampNeg 0) := ⟨_, rfl⟩
          rw [← ey2] at h
          exact ((hk _ _ _ _ h).trans (sx_busyNow ey2).2.2).trans e1
        · have h := ltA_some (chk_so h)
          obtain ⟨y2, ey2⟩ : ∃ y2, y2 = M_set_busyNow y (upd (M_busyNow y) b.toNatClampNeg 1) := ⟨_, rfl⟩
          rw [← ey2] at h
          exact ((hk _ _ _ _ h).trans (sx_busyNow ey2).2.2).trans e1
      · exact hk _ _ _ _ h
theorem pass_rest {z : MS} {r : Int32 × MS} (h : f_X9_pass z = some r) : mrest r.2 = mrest z := by
  unfold f_X9_pass at h
  obtain ⟨q, hq, h⟩ := Option.bind_eq_some_iff.mp h
  refine Eq.trans ?_ (shut_rest hq)
  refine it_part (B := X9_pass_B8) (bot := fun _ _ _ => none) (fun k => ∀ z a b r, k z a b = some r → mrest r.2 = mrest z) (fun _ _ _ _ h => by cases h) ?_ FU q 0 0 r h
  intro k hk z a b r h
  unfold X9_pass_B8 X9_pass_J100 at h
  split at h
  · exact pass108_rest h
  · obtain ⟨q, -, h⟩ := Option.bind_eq_some_iff.mp h
    split at h
    · exact hk _ _ _ _ h
    · have h := chk_so h
      split at h
      · obtain ⟨t, -, h⟩ := Option.bind_eq_some_iff.mp (chk_so h)
        split at h
        · exact hk _ _ _ _ h
        · have h := ltA_some (chk_so (chk_so h))
          generalize ey : M_set_through z (upd (M_through z) (6 * M_at z b.toNatClampNeg + t).toNatClampNeg (M_through z (6 * M_at z b.toNatClampNeg + t).toNatClampNeg + 1)) = y at h
          have h := ltA_some (chk_so (chk_so h))
          generalize ey2 : M_set_through y (upd (M_through y) (6 * t + M_at z b.toNatClampNeg).toNatClampNeg (M_through y (6 * t + M_at z b.toNatClampNeg).toNatClampNeg + 1)) = y2 at h
          have h := ltA_some (chk_so h)
          generalize ey3 : M_set_at y2 (upd (M_at y2) b.toNatClampNeg t) = y3 at h
          exact (((hk _ _ _ _ h).trans (sx_at ey3.symm).2.2).trans (sx_through ey2.symm).2.2).trans (sx_through ey.symm).2.2
      · exact hk _ _ _ _ h
