/-- the reference's present, but for who has gone through -/
def Mx0 (w : MS) (b : AS) (lo : Nat → Nat → Bool) : Prop := Mc (mnow w) b ∧ ∀ r q, r < 6 → q < 6 → ((M_loose w = nI (6 * r + q) ∨ M_loose w = nI (6 * q + r)) ↔ lo r q = true)
theorem Mx.to0 {w : MS} {b : AS} {gn : Nat → Nat → Nat} {lo : Nat → Nat → Bool} (h : Mx w b gn lo) : Mx0 w b lo := ⟨h.1, h.2.2⟩
theorem Mx_shut {w : MS} {b : AS} {lo : Nat → Nat → Bool} (hM : Mx0 w b lo) : ∃ w', f_X9_shut w = some w' ∧ mkeep w' = mkeep w ∧ Mx w' b (fun _ _ => 0) lo := by
  obtain ⟨w', f, e1, e2, e3, e4⟩ := shut_spec w
  have q1 : M_at w' = M_at w := congrArg (fun m => m.1) e3
  have q2 : M_busyNow w' = M_busyNow w := congrArg (fun m => m.2.1) e3
  have q3 : M_withNow w' = M_withNow w := congrArg (fun m => m.2.2.1) e3
  have q4 : M_leftNow w' = M_leftNow w := congrArg (fun m => m.2.2.2.1) e3
  have q5 : M_thingsNow w' = M_thingsNow w := congrArg (fun m => m.2.2.2.2.1) e3
  have q6 : M_loose w' = M_loose w := congrArg (fun m => m.2.2.2.2.2.1) e3
  have q7 : M_through w' = f := congrArg (fun m => m.2.2.2.2.2.2) e3
  refine ⟨w', e1, e2, Mc_now e2 hM.1 rfl rfl rfl rfl rfl rfl rfl rfl (fun r s hr hs => by rw [q5]; exact gt_th hM.1 hr hs) (fun _ _ _ _ _ => rfl) (fun g hg hi => by rw [q1, q2, q3, q4]; exact gt_now hM.1 hg hi), fun r q hr hq => by rw [q7]; exact e4 _ (by omega), fun r q hr hq => by rw [q6]; exact hM.2 r q hr hq⟩
