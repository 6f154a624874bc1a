/-! p1: each call, first on a fresh object -/
noncomputable def S0c : KDS := (q0c, zP0, zD0, zY0, zT0, zO0, zS0, zU0, (fun _ => 0), (fun _ => 0), zH0, zH0)
def Rz0 (S : KDS) (z : MS) : Prop := S = S0c ∧ z = w0c
def Rz1 (_ : KDS) (_ : MS) : Prop := True
theorem of_R0 {P : KDS → MS → Prop} {S : KDS} {z : MS} (h : Rz0 S z) (k : P S0c w0c) : P S z := by rw [h.1, h.2]; exact k
theorem Rz0_Rel {S : KDS} {z : MS} (h : Rz0 S z) : Rel S z := by
  refine of_R0 (P := Rel) h ?_
  obtain ⟨q0, w0, e1, e2, h⟩ := init_q
  have a : q0 = q0c := Option.some.inj (e1.symm.trans q0_eq)
  have b : w0 = w0c := Option.some.inj (e2.symm.trans w0_eq)
  rw [a, b] at h; exact h
theorem w0_Fz0 : Fz0 w0c := w0_Mc
def same {α β γ : Type} [DecidableEq γ] (x : Option (γ × α)) (y : Option (γ × β)) : Bool := match x, y with
  | some p, some q => decide (p.1 = q.1)
  | _, _ => false
theorem same_ex {α β γ : Type} [DecidableEq γ] {x : Option (γ × α)} {y : Option (γ × β)} (h : same x y = true) : ∃ q w, x = some q ∧ y = some w ∧ q.1 = w.1 ∧ True := by
  cases x with
  | none => simp [same] at h
  | some p => cases y with
    | none => simp [same] at h
    | some q => exact ⟨p, q, rfl, rfl, of_decide_eq_true h, trivial⟩
theorem p1_rooms : SimN_rooms Rz0 Rz1 := fun S z x h => by obtain ⟨q, w, a, b, c, -⟩ := sim_rooms S z x (Rz0_Rel h); exact ⟨q, w, a, b, c, trivial⟩
theorem p1_room : SimN_room Rz0 Rz1 := fun S z x y v h => by obtain ⟨q, w, a, b, c, -⟩ := sim_room S z x y v (Rz0_Rel h); exact ⟨q, w, a, b, c, trivial⟩
theorem p1_likes : SimN_likes Rz0 Rz1 := fun S z x y v h => by obtain ⟨q, w, a, b, c, -⟩ := sim_likes S z x y v (Rz0_Rel h); exact ⟨q, w, a, b, c, trivial⟩
theorem p1_say : SimN_say Rz0 Rz1 := fun S z x h => by obtain ⟨q, w, a, b, c, -⟩ := sim_say S z x (Rz0_Rel h); exact ⟨q, w, a, b, c, trivial⟩
theorem p1_wipe : SimN_wipe Rz0 Rz1 := fun S z h => by obtain ⟨q, w, a, b, c, -⟩ := sim_wipe S z (Rz0_Rel h); exact ⟨q, w, a, b, c, trivial⟩
theorem p1_state : SimN_state Rz0 Rz1 := fun S z x y h => by obtain ⟨q, w, a, b, c, -⟩ := sim_state S z x y (Rz0_Rel h); exact ⟨q, w, a, b, c, trivial⟩
theorem p1_draw : SimN_draw Rz0 Rz1 := fun S z x y h => by obtain ⟨q, w, a, b, c, -⟩ := sim_draw S z x y (Rz0_Rel h); exact ⟨q, w, a, b, c, trivial⟩
theorem p1_best : SimN_best Rz0 Rz1 := fun S z x h => by obtain ⟨q, w, a, b, c, -⟩ := sim_best S z x (Rz0_Rel h); exact ⟨q, w, a, b, c, trivial⟩
theorem p1_seen : SimN_seen Rz0 Rz1 := fun S z x y h => by obtain ⟨q, w, a, b, c, -⟩ := sim_seen S z x y (Rz0_Rel h); exact ⟨q, w, a, b, c, trivial⟩
theorem p1_forget : SimN_forget Rz0 Rz1 := fun S z h => by obtain ⟨q, w, a, b, c, -⟩ := sim_forget S z (Rz0_Rel h); exact ⟨q, w, a, b, c, trivial⟩
theorem p1_told : SimN_told Rz0 Rz1 := fun S z x h => by obtain ⟨q, w, a, b, c, -⟩ := sim_told S z x (Rz0_Rel h); exact ⟨q, w, a, b, c, trivial⟩
/-! one who isn't there -/
theorem p1_leave : SimN_leave Rz0 Rz1 := by
  intro S z x1 h_R; rw [h_R.1, h_R.2]
  refine ⟨(-1, q0c), (-1, w0c), ?_, ?_, rfl, trivial⟩
  · show f_X8_leave q0c x1 = _; unfold f_X8_leave; rw [isTh_0 q0_Hz0, Option.bind_some, if_pos rfl]
  · unfold f_X9_leave; rw [w0_Fz0.isTh, Option.bind_some, if_pos rfl]
theorem p1_behind : SimN_behind Rz0 Rz1 := by
  intro S z x1 x2 h_R; rw [h_R.1, h_R.2]
  refine ⟨(-1, zD0, zY0), (-1, w0c), ?_, ?_, rfl, trivial⟩
  · show f_X8_behind q0c zP0 zD0 zY0 x1 x2 = _; unfold f_X8_behind; rw [isTh_0 q0_Hz0, Option.bind_some, if_pos rfl]
  · unfold f_X9_behind; rw [w0_Fz0.isTh, Option.bind_some, if_pos rfl]
theorem p1_goes : SimN_goes Rz0 Rz1 := by
  intro S z x1 h_R; rw [h_R.1, h_R.2]
  refine ⟨(-1, zD0), (-1, w0c), ?_, ?_, rfl, trivial⟩
  · show f_X8_goes q0c zD0 x1 = _; unfold f_X8_goes; rw [isTh_0 q0_Hz0, Option.bind_some, if_pos rfl]
  · unfold f_X9_goes; rw [w0_Fz0.isTh, Option.bind_some, if_pos rfl]
theorem p1_after : SimN_after Rz0 Rz1 := by
  intro S z x1 x2 h_R; rw [h_R.1, h_R.2]
  refine ⟨(-1, zD0), (-1, w0c), ?_, ?_, rfl, trivial⟩
  · show f_X8_after q0c zD0 x1 x2 = _; unfold f_X8_after; rw [isTh_0 q0_Hz0, Option.bind_some, if_pos rfl]
  · unfold f_X9_after; rw [w0_Fz0.isTh, Option.bind_some, if_pos rfl]
theorem p1_tastes : SimN_tastes Rz0 Rz1 := by
  intro S z x1 x2 h_R; rw [h_R.1, h_R.2]
  refine ⟨(-1, zD0), (-1, w0c), ?_, ?_, rfl, trivial⟩
  · show f_X8_tastes q0c zD0 x1 x2 = _; unfold f_X8_tastes; rw [isTh_0 q0_Hz0, Option.bind_some, if_pos rfl]
  · unfold f_X9_tastes; rw [w0_Fz0.isTh, Option.bind_some, if_pos rfl]
theorem p1_excuses : SimN_excuses Rz0 Rz1 := by
  intro S z x1 x2 x3 h_R; rw [h_R.1, h_R.2]
  refine ⟨(-1, zO0), (-1, w0c), ?_, ?_, rfl, trivial⟩
  · show f_X8_excuses q0c zO0 x1 x2 x3 = _; unfold f_X8_excuses; rw [isTh_0 q0_Hz0, Option.bind_some, if_pos rfl]
  · unfold f_X9_excuses; rw [w0_Fz0.isTh, Option.bind_some, if_pos rfl]
theorem p1_drunk : SimN_drunk Rz0 Rz1 := by
  intro S z x1 x2 x3 x4 x5 h_R; rw [h_R.1, h_R.2]
  refine ⟨(-1000000000000000001, zS0), (-1000000000000000001, w0c), ?_, ?_, rfl, trivial⟩
  · show f_X8_drunk q0c zS0 x1 x2 x3 x4 x5 = _; unfold f_X8_drunk; rw [isTh_0 q0_Hz0, Option.bind_some, if_pos rfl]
  · unfold f_X9_drunk; rw [w0_Fz0.isTh, Option.bind_some, if_pos rfl]
