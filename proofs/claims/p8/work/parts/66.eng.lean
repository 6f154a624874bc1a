/-! one guest begins to do another thing -/
def eng (a : AS) (g b : Nat) (m : Int) (l : Nat) : AS := (a_R a, a_T a, a_k a, a_th a, a_sz a, a_ch a, a_wd a, a_lk a, a_pl a, (fun j => if j = g then b else a_bs a j), (fun j => if j = g then m else a_mt a j), (fun j => if j = g then l else a_lf a j), a_sg a, a_sr a)
def hEng (h : HS) (g : Nat) (b m l : Int32) : HS := H_set_left (H_set_mate (H_set_busy h (upd (H_busy h) g b)) (upd (H_mate h) g m)) (upd (H_left h) g l)
theorem engage_spec (h : HS) {g : Nat} (hg : g < 8) (b m l : Int32) : f_X1_engage h (nI g) b m l = some (hEng h g b m l) := by
  unfold f_X1_engage hEng
  rw [chk_nI hg (by decide), ltA_eq, chk_nI hg (by decide), ltA_eq, chk_nI hg (by decide), ltA_eq, nI_clamp (by omega)]
theorem Hc_eng {a : AS} {h : HS} (hH : Hc h a) {g : Nat} (b : Nat) (m : Int) (l : Nat) : Hc (hEng h g (nI b) (Int32.ofInt m) (nI l)) (eng a g b m l) := by
  obtain ⟨b1, b2, b3, b4, b5, b6, b7, b8⟩ := hH
  refine ⟨b1, b2, b3, b4, b5, ?_, b7, b8⟩
  intro j hj
  obtain ⟨p1, p2, p3, p4⟩ := b6 j hj
  show H_place h j = nI (a_pl a j) ∧ upd (H_busy h) g (nI b) j = nI (if j = g then b else a_bs a j) ∧ upd (H_mate h) g (Int32.ofInt m) j = Int32.ofInt (if j = g then m else a_mt a j) ∧ upd (H_left h) g (nI l) j = nI (if j = g then l else a_lf a j)
  by_cases c : j = g
  · rw [if_pos c, if_pos c, if_pos c, c, pk_us, pk_us, pk_us, ← c]; exact ⟨p1, rfl, rfl, rfl⟩
  · rw [if_neg c, if_neg c, if_neg c, pk_un c, pk_un c, pk_un c]; exact ⟨p1, p2, p3, p4⟩
theorem mk_busy (z : MS) (f : Nat → Int32) : mkeep (M_set_busy z f) = ((M_rooms z, M_things z, M_size z, M_chairs z, M_width z, M_there z, M_likes z, M_place z, f, M_with z, M_left z, M_sights z, M_sight z), M_signs z, M_pad z, M_image z, M_isKept z) := rfl
theorem mk_left (z : MS) (f : Nat → Int32) : mkeep (M_set_left z f) = ((M_rooms z, M_things z, M_size z, M_chairs z, M_width z, M_there z, M_likes z, M_place z, M_busy z, M_with z, f, M_sights z, M_sight z), M_signs z, M_pad z, M_image z, M_isKept z) := rfl
theorem mk_place (z : MS) (f : Nat → Int32) : mkeep (M_set_place z f) = ((M_rooms z, M_things z, M_size z, M_chairs z, M_width z, M_there z, M_likes z, f, M_busy z, M_with z, M_left z, M_sights z, M_sight z), M_signs z, M_pad z, M_image z, M_isKept z) := rfl
theorem neg6 : (-6 : Int32) = Int32.ofInt (-6) := by decide
theorem Hc_eng' {a : AS} {h : HS} (hH : Hc h a) {g : Nat} {b : Nat} {m : Int} {l : Nat} {x y w : Int32} (hx : x = nI b) (hy : y = Int32.ofInt m) (hw : w = nI l) : Hc (hEng h g x y w) (eng a g b m l) := by
  rw [hx, hy, hw]; exact Hc_eng hH b m l
theorem eng_R (a : AS) (g b : Nat) (m : Int) (l : Nat) : a_R (eng a g b m l) = a_R a := rfl
theorem eng_T (a : AS) (g b : Nat) (m : Int) (l : Nat) : a_T (eng a g b m l) = a_T a := rfl
theorem eng_k (a : AS) (g b : Nat) (m : Int) (l : Nat) : a_k (eng a g b m l) = a_k a := rfl
theorem eng_th (a : AS) (g b : Nat) (m : Int) (l : Nat) : a_th (eng a g b m l) = a_th a := rfl
theorem eng_sz (a : AS) (g b : Nat) (m : Int) (l : Nat) : a_sz (eng a g b m l) = a_sz a := rfl
theorem eng_ch (a : AS) (g b : Nat) (m : Int) (l : Nat) : a_ch (eng a g b m l) = a_ch a := rfl
theorem eng_wd (a : AS) (g b : Nat) (m : Int) (l : Nat) : a_wd (eng a g b m l) = a_wd a := rfl
theorem eng_lk (a : AS) (g b : Nat) (m : Int) (l : Nat) : a_lk (eng a g b m l) = a_lk a := rfl
theorem eng_pl (a : AS) (g b : Nat) (m : Int) (l : Nat) : a_pl (eng a g b m l) = a_pl a := rfl
theorem eng_sg (a : AS) (g b : Nat) (m : Int) (l : Nat) : a_sg (eng a g b m l) = a_sg a := rfl
theorem eng_sr (a : AS) (g b : Nat) (m : Int) (l : Nat) : a_sr (eng a g b m l) = a_sr a := rfl
theorem eng_bs (a : AS) (g b : Nat) (m : Int) (l j : Nat) : a_bs (eng a g b m l) j = if j = g then b else a_bs a j := rfl
theorem eng_mt (a : AS) (g b : Nat) (m : Int) (l j : Nat) : a_mt (eng a g b m l) j = if j = g then m else a_mt a j := rfl
theorem eng_lf (a : AS) (g b : Nat) (m : Int) (l j : Nat) : a_lf (eng a g b m l) j = if j = g then l else a_lf a j := rfl
/-- who is freed when g leaves off -/
def offp (a : AS) (g j : Nat) : Bool := j == g || (a_bs a g == 1 && a_mt a g == (j : Int))
def rs (a : AS) (g : Nat) : AS := (a_R a, a_T a, a_k a, a_th a, a_sz a, a_ch a, a_wd a, a_lk a, a_pl a, (fun j => if offp a g j then 0 else a_bs a j), (fun j => if offp a g j then -6 else a_mt a j), (fun j => if offp a g j then 0 else a_lf a j), a_sg a, a_sr a)
theorem rs_R (a : AS) (g : Nat) : a_R (rs a g) = a_R a := rfl
theorem rs_T (a : AS) (g : Nat) : a_T (rs a g) = a_T a := rfl
theorem rs_k (a : AS) (g : Nat) : a_k (rs a g) = a_k a := rfl
theorem rs_th (a : AS) (g : Nat) : a_th (rs a g) = a_th a := rfl
theorem rs_sz (a : AS) (g : Nat) : a_sz (rs a g) = a_sz a := rfl
theorem rs_ch (a : AS) (g : Nat) : a_ch (rs a g) = a_ch a := rfl
theorem rs_wd (a : AS) (g : Nat) : a_wd (rs a g) = a_wd a := rfl
theorem rs_lk (a : AS) (g : Nat) : a_lk (rs a g) = a_lk a := rfl
theorem rs_pl (a : AS) (g : Nat) : a_pl (rs a g) = a_pl a := rfl
theorem rs_sg (a : AS) (g : Nat) : a_sg (rs a g) = a_sg a := rfl
theorem rs_sr (a : AS) (g : Nat) : a_sr (rs a g) = a_sr a := rfl
theorem rs_bs (a : AS) (g j : Nat) : a_bs (rs a g) j = if offp a g j then 0 else a_bs a j := rfl
theorem rs_mt (a : AS) (g j : Nat) : a_mt (rs a g) j = if offp a g j then -6 else a_mt a j := rfl
theorem rs_lf (a : AS) (g j : Nat) : a_lf (rs a g) j = if offp a g j then 0 else a_lf a j := rfl
theorem rise_spec {a : AS} {h : HS} (hI : Inv a) (hH : Hc h a) {g : Nat} (hg : g < 8) : ∃ h', f_X1_rise h (nI g) = some h' ∧ Hc h' (rs a g) := by
  obtain ⟨p1, p2, p3, p4⟩ := hH.2.2.2.2.2.1 g hg
  have hb := bs_lt hI hg
  unfold f_X1_rise X1_rise_J34
  rw [chk_nI hg (by decide), chk_nI hg (by decide), nI_clamp (by omega), p2, p3]
  by_cases c : a_bs a g = 1
  · obtain ⟨j, j1, j2, j3, j4, -⟩ := hI.2.2.2.2.2.2.2.1 g hg c
    rw [if_pos (show nI (a_bs a g) = (1 : Int32) by rw [c]; rfl), j3, oI_nat, th_at hI hH j1, Option.bind_some, j4, if_neg (by decide), engage_spec _ j1, Option.bind_some, engage_spec _ hg, Option.bind_some]
    have h1 : Hc (hEng (hEng h j 0 (-6) 0) g 0 (-6) 0) (eng (eng a j 0 (-6) 0) g 0 (-6) 0) := Hc_eng' (Hc_eng' hH rfl neg6 rfl) rfl neg6 rfl
    generalize hEng (hEng h j 0 (-6) 0) g 0 (-6) 0 = h2 at h1 ⊢
    refine ⟨_, rfl, ?_⟩
    have ec : ∀ i, offp a g i = (i == g || i == j) := fun i => by
      have ej : ((j : Int) == (i : Int)) = (i == j) := by rw [Bool.eq_iff_iff, beq_iff_eq, beq_iff_eq]; omega
      unfold offp; rw [c, j3, ej]; simp
    unfold Hc at h1 ⊢
    simp only [eng_R, eng_T, eng_k, eng_th, eng_sz, eng_ch, eng_wd, eng_lk, eng_pl, eng_sg, eng_sr, eng_bs, eng_mt, eng_lf, rs_R, rs_T, rs_k, rs_th, rs_sz, rs_ch, rs_wd, rs_lk, rs_pl, rs_sg, rs_sr, rs_bs, rs_mt, rs_lf, ec] at h1 ⊢
    obtain ⟨b1, b2, b3, b4, b5, b6, b7, b8⟩ := h1
    refine ⟨b1, b2, b3, b4, b5, fun i hi => ?_, b7, b8⟩
    have q := b6 i hi
    revert q
    by_cases q1 : i = g <;> by_cases q2 : i = j <;> simp [q1, q2]
  · rw [if_neg (show ¬ nI (a_bs a g) = (1 : Int32) from fun q => c ((nI_eq (by omega) (b := 1) (by decide)).mp q)), engage_spec _ hg, Option.bind_some]
    have h1 : Hc (hEng h g 0 (-6) 0) (eng a g 0 (-6) 0) := Hc_eng' hH rfl neg6 rfl
    generalize hEng h g 0 (-6) 0 = h2 at h1 ⊢
    refine ⟨_, rfl, ?_⟩
    have ec : ∀ i, offp a g i = (i == g) := fun i => by unfold offp; simp [c]
    unfold Hc at h1 ⊢
    simp only [eng_R, eng_T, eng_k, eng_th, eng_sz, eng_ch, eng_wd, eng_lk, eng_pl, eng_sg, eng_sr, eng_bs, eng_mt, eng_lf, rs_R, rs_T, rs_k, rs_th, rs_sz, rs_ch, rs_wd, rs_lk, rs_pl, rs_sg, rs_sr, rs_bs, rs_mt, rs_lf, ec] at h1 ⊢
    obtain ⟨b1, b2, b3, b4, b5, b6, b7, b8⟩ := h1
    refine ⟨b1, b2, b3, b4, b5, fun i hi => ?_, b7, b8⟩
    have q := b6 i hi
    revert q
    by_cases q1 : i = g <;> simp [q1]
