/-- the reference's leaving off -/
theorem off_spec {a : AS} {z : MS} (hI : Inv a) (hM : Mc (mcore z) a) {g : Nat} (hg : g < 8) : ∃ w bs lf, f_X9_leaveOff z (nI g) = some w ∧ mkeep w = ((M_rooms z, M_things z, M_size z, M_chairs z, M_width z, M_there z, M_likes z, M_place z, bs, M_with z, lf, M_sights z, M_sight z), M_signs z, M_pad z, M_image z, M_isKept z) ∧ ∀ j, j < 8 → bs j = (if offp a g j then 0 else M_busy z j) ∧ lf j = (if offp a g j then 0 else M_left z j) := by
  have hT := hI.1.2.2.1
  have et : M_there z = nI (a_T a) := hM.2.1
  have hb3 := bs_lt hI hg
  have fin : ∀ y : MS, ∀ bs lf, mkeep y = ((M_rooms z, M_things z, M_size z, M_chairs z, M_width z, M_there z, M_likes z, M_place z, bs, M_with z, lf, M_sights z, M_sight z), M_signs z, M_pad z, M_image z, M_isKept z) → (∀ j, j < 8 → j ≠ g → bs j = (if offp a g j then 0 else M_busy z j) ∧ lf j = (if offp a g j then 0 else M_left z j)) → ∃ w bs lf, X9_leaveOff_J45 y (nI g) = some w ∧ mkeep w = ((M_rooms z, M_things z, M_size z, M_chairs z, M_width z, M_there z, M_likes z, M_place z, bs, M_with z, lf, M_sights z, M_sight z), M_signs z, M_pad z, M_image z, M_isKept z) ∧ ∀ j, j < 8 → bs j = (if offp a g j then 0 else M_busy z j) ∧ lf j = (if offp a g j then 0 else M_left z j) := by
    intro y bs lf ky hj
    obtain ⟨y1, ey1⟩ : ∃ x, x = M_set_busy y (upd (M_busy y) g 0) := ⟨_, rfl⟩
    have k1 := mk_busy y (upd (M_busy y) g 0)
    rw [← ey1] at k1
    obtain ⟨y2, ey2⟩ : ∃ x, x = M_set_left y1 (upd (M_left y1) g 0) := ⟨_, rfl⟩
    have k2 := mk_left y1 (upd (M_left y1) g 0)
    rw [← ey2] at k2
    have hb : M_busy y = bs := congrArg (fun m => m.1.2.2.2.2.2.2.2.2.1) ky
    have hl : M_left y1 = lf := (congrArg (fun m => m.1.2.2.2.2.2.2.2.2.2.2.1) k1).trans (congrArg (fun m => m.1.2.2.2.2.2.2.2.2.2.2.1) ky)
    refine ⟨y2, upd bs g 0, upd lf g 0, ?_, ?_, ?_⟩
    · unfold X9_leaveOff_J45
      rw [chk_nI hg (by decide), nI_clamp (by omega), ltA_eq, ← ey1, chk_nI hg (by decide), ltA_eq, ← ey2]
    · rw [k2, hl]
      have q1 := congrArg (fun m : MKK => ((m.1.1, m.1.2.1, m.1.2.2.1, m.1.2.2.2.1, m.1.2.2.2.2.1, m.1.2.2.2.2.2.1, m.1.2.2.2.2.2.2.1, m.1.2.2.2.2.2.2.2.1, m.1.2.2.2.2.2.2.2.2.1, m.1.2.2.2.2.2.2.2.2.2.1, upd lf g 0, m.1.2.2.2.2.2.2.2.2.2.2.2), m.2)) k1
      have q2 := congrArg (fun m : MKK => ((m.1.1, m.1.2.1, m.1.2.2.1, m.1.2.2.2.1, m.1.2.2.2.2.1, m.1.2.2.2.2.2.1, m.1.2.2.2.2.2.2.1, m.1.2.2.2.2.2.2.2.1, upd bs g 0, m.1.2.2.2.2.2.2.2.2.2.1, upd lf g 0, m.1.2.2.2.2.2.2.2.2.2.2.2), m.2)) ky
      rw [hb] at q1
      exact q1.trans q2
    · intro j hj8
      by_cases c : j = g
      · subst c
        have : offp a j j = true := by unfold offp; simp
        rw [this, pk_us, pk_us]; exact ⟨rfl, rfl⟩
      · rw [pk_un c, pk_un c]; exact hj j hj8 c
  have hh : f_X9_has (M_there z) (nI g) = some (if (a_T a).testBit g then 1 else 0) := by rw [et]; exact has_b hT hg
  unfold f_X9_leaveOff
  rw [hh, Option.bind_some]
  cases e : (a_T a).testBit g
  · have e' : a_is a g = false := e
    have hb0 := (hI.2.2.2.2.1 g hg e').2.1
    rw [if_pos (by decide)]
    refine fin z (M_busy z) (M_left z) rfl (fun j hj c => ?_)
    have : offp a g j = false := by unfold offp; simp [c, hb0]
    rw [this]; exact ⟨rfl, rfl⟩
  · have e' : a_is a g = true := e
    obtain ⟨hp, hb, hl, hm, -⟩ := hM.2.2.2.2.2.1 g hg e'
    have hb : M_busy z g = nI (a_bs a g) := hb
    have hm : a_bs a g = 1 ∨ a_bs a g = 3 → M_with z g = Int32.ofInt (a_mt a g) := hm
    rw [if_neg (by decide), chk_nI hg (by decide), nI_clamp (by omega), hb]
    by_cases c : a_bs a g = 1
    · obtain ⟨j, j1, j2, j3, j4, -⟩ := hI.2.2.2.2.2.2.2.1 g hg c
      have hw : M_with z g = nI j := by rw [hm (Or.inl c), j3]; rfl
      obtain ⟨y1, ey1⟩ : ∃ x, x = M_set_busy z (upd (M_busy z) j 0) := ⟨_, rfl⟩
      have k1 := mk_busy z (upd (M_busy z) j 0)
      rw [← ey1] at k1
      obtain ⟨y2, ey2⟩ : ∃ x, x = M_set_left y1 (upd (M_left y1) j 0) := ⟨_, rfl⟩
      have k2 := mk_left y1 (upd (M_left y1) j 0)
      rw [← ey2] at k2
      have hw1 : M_with y1 g = nI j := (congrFun (congrArg (fun m => m.1.2.2.2.2.2.2.2.2.2.1) k1) g).trans hw
      have hl1 : M_left y1 = M_left z := congrArg (fun m => m.1.2.2.2.2.2.2.2.2.2.2.1) k1
      have q1 := congrArg (fun m : MKK => ((m.1.1, m.1.2.1, m.1.2.2.1, m.1.2.2.2.1, m.1.2.2.2.2.1, m.1.2.2.2.2.2.1, m.1.2.2.2.2.2.2.1, m.1.2.2.2.2.2.2.2.1, m.1.2.2.2.2.2.2.2.2.1, m.1.2.2.2.2.2.2.2.2.2.1, upd (M_left z) j 0, m.1.2.2.2.2.2.2.2.2.2.2.2), m.2)) k1
      obtain ⟨w, bs, lf, f1, f2⟩ := fin y2 (upd (M_busy z) j 0) (upd (M_left z) j 0) (by rw [k2, hl1]; exact q1) (fun i hi ci => by
        have ej : ((j : Int) == (i : Int)) = (i == j) := by rw [Bool.eq_iff_iff, beq_iff_eq, beq_iff_eq]; omega
        have eo : offp a g i = (i == j) := by unfold offp; rw [c, j3, ej]; simp [ci]
        rw [eo]
        by_cases q : i = j
        · subst q; rw [pk_us, pk_us]; simp
        · rw [pk_un q, pk_un q]; simp [q])
      refine ⟨w, bs, lf, ?_, f2⟩
      rw [if_pos (show nI (a_bs a g) = (1 : Int32) by rw [c]; rfl), chk_nI hg (by decide), hw, chk_nI j1 (by decide), nI_clamp (by omega), ltA_eq, ← ey1, chk_nI hg (by decide), hw1, chk_nI j1 (by decide), nI_clamp (by omega), ltA_eq, ← ey2]
      exact f1
    · rw [if_neg (show ¬ nI (a_bs a g) = (1 : Int32) from fun q => c ((nI_eq (by omega) (b := 1) (by decide)).mp q))]
      refine fin z (M_busy z) (M_left z) rfl (fun j hj cj => ?_)
      have : offp a g j = false := by unfold offp; simp [c, cj]
      rw [this]; exact ⟨rfl, rfl⟩
