/-! image, restore -/
theorem Hc_copy {h h2 h' : HS} {a : AS} (hk : a_k a ≤ 6) (hH : Hc h2 a) (e : f_X1_copy h h2 = some h') : Hc h' a := by
  obtain ⟨y, e', c1, c2, c3, c4, c5, c6, c7, c8⟩ := copy_spec h h2
  rw [e] at e'
  have ey : h' = y := Option.some.inj e'
  subst ey
  obtain ⟨b1, b2, b3, b4, b5, b6, b7, b8⟩ := hH
  refine ⟨c1.trans b1, c2.trans b2, c3.trans b3, fun r hr => ⟨fun s hs => (c4 _ (by omega)).trans ((b4 r hr).1 s hs), (c4 _ (by omega)).trans (b4 r hr).2.1, (c4 _ (by omega)).trans (b4 r hr).2.2⟩, fun r q hr hq => (c5 _ (by omega)).trans (b5 r q hr hq), fun g hg => ?_, fun g k hg hk => (c7 _ (by omega)).trans (b7 g k hg hk), fun s hs => ?_⟩
  · obtain ⟨p1, p2, p3, p4⟩ := c6 g hg
    obtain ⟨q1, q2, q3, q4⟩ := b6 g hg
    exact ⟨p1.trans q1, p2.trans q2, p3.trans q3, p4.trans q4⟩
  · obtain ⟨p1, p2⟩ := c8 s (by omega)
    obtain ⟨q1, q2⟩ := b8 s hs
    exact ⟨p1.trans q1, p2.trans q2⟩
theorem copy_Hc {h h2 : HS} {a : AS} (hk : a_k a ≤ 6) (hH : Hc h2 a) : ∃ h', f_X1_copy h h2 = some h' ∧ Hc h' a := by
  obtain ⟨y, e, -⟩ := copy_spec h h2
  exact ⟨y, e, Hc_copy hk hH e⟩
/-- two lasting parts are alike where it matters -/
def MKe (m m' : MK) : Prop := m'.1 = m.1 ∧ m'.2.2.2.2.2.1 = m.2.2.2.2.2.1 ∧ m'.2.2.2.2.2.2.2.2.2.2.2.1 = m.2.2.2.2.2.2.2.2.2.2.2.1 ∧ (∀ k, k < 24 → m'.2.1 k = m.2.1 k) ∧ (∀ k, k < 36 → m'.2.2.2.2.1 k = m.2.2.2.2.1 k) ∧ (∀ k, k < 40 → m'.2.2.2.2.2.2.1 k = m.2.2.2.2.2.2.1 k) ∧ (∀ k, k < 8 → m'.2.2.2.2.2.2.2.1 k = m.2.2.2.2.2.2.2.1 k ∧ m'.2.2.2.2.2.2.2.2.1 k = m.2.2.2.2.2.2.2.2.1 k ∧ m'.2.2.2.2.2.2.2.2.2.1 k = m.2.2.2.2.2.2.2.2.2.1 k ∧ m'.2.2.2.2.2.2.2.2.2.2.1 k = m.2.2.2.2.2.2.2.2.2.2.1 k) ∧ (∀ k, k < 12 → m'.2.2.2.2.2.2.2.2.2.2.2.2 k = m.2.2.2.2.2.2.2.2.2.2.2.2 k) ∧ ∀ k, k < 6 → m'.2.2.1 k = m.2.2.1 k ∧ m'.2.2.2.1 k = m.2.2.2.1 k
theorem Mc_congr {m m' : MK} {a : AS} (hk : a_k a ≤ 6) (h : MKe m m') (hM : Mc m a) : Mc m' a := by
  obtain ⟨e1, e2, e3, e4, e5, e6, e7, e8, e9⟩ := h
  obtain ⟨m1, m2, m3, m4, m5, m6, m7⟩ := hM
  refine ⟨e1.trans m1, e2.trans m2, e3.trans m3, fun r hr => ⟨fun s hs => (e4 _ (by omega)).trans ((m4 r hr).1 s hs), (e9 r hr).1.trans (m4 r hr).2.1, (e9 r hr).2.trans (m4 r hr).2.2⟩, fun r q hr hq => (e5 _ (by omega)).trans (m5 r q hr hq), fun g hg hi => ?_, fun s hs => ⟨(e8 _ (by omega)).trans (m7 s hs).1, (e8 _ (by omega)).trans (m7 s hs).2⟩⟩
  obtain ⟨p1, p2, p3, p4⟩ := e7 g hg
  obtain ⟨q1, q2, q3, q4, q5⟩ := m6 g hg hi
  exact ⟨p1.trans q1, p2.trans q2, p4.trans q3, fun hb => p3.trans (q4 hb), fun k hk => (e6 _ (by omega)).trans (q5 k hk)⟩
theorem mk_image (z : MS) (f : Nat → Int32) : mkeep (M_set_image z f) = (mcore z, M_signs z, M_pad z, f, M_isKept z) := rfl
theorem mk_isKept (z : MS) (f : Nat → Int32) : mkeep (M_set_isKept z f) = (mcore z, M_signs z, M_pad z, M_image z, f) := rfl
theorem mk_with (z : MS) (f : Nat → Int32) : mkeep (M_set_with z f) = ((M_rooms z, M_things z, M_size z, M_chairs z, M_width z, M_there z, M_likes z, M_place z, M_busy z, f, M_left z, M_sights z, M_sight z), M_signs z, M_pad z, M_image z, M_isKept z) := rfl
/-- so much of the image at o is kept -/
def Fx (z : MS) (o : Nat) (F : Nat → Int32) (n1 n2 n3 n4 n5 n6 : Nat) : Prop := (∀ k, k < n1 → F (o + k) = M_things z k) ∧ (∀ k, k < n2 → F (o + 24 + k) = M_width z k) ∧ (∀ k, k < n3 → F (o + 60 + k) = M_likes z k) ∧ (∀ k, k < n4 → F (o + 100 + k) = M_place z k ∧ F (o + 108 + k) = M_busy z k ∧ F (o + 116 + k) = M_with z k ∧ F (o + 124 + k) = M_left z k) ∧ (∀ k, k < n5 → F (o + 132 + k) = M_sight z k) ∧ (∀ k, k < n6 → F (o + 144 + k) = M_size z k ∧ F (o + 150 + k) = M_chairs z k) ∧ ∀ k, (k < o ∨ o + 159 ≤ k) → F k = M_image z k
/-- as z, but for the image -/
def Iz (z y : MS) (F : Nat → Int32) : Prop := mkeep y = (mcore z, M_signs z, M_pad z, F, M_isKept z)
theorem Iz.im {z y : MS} {F : Nat → Int32} (h : Iz z y F) : M_image y = F := congrArg (fun m => m.2.2.2.1) h
theorem Iz.set {z y y' : MS} {F G : Nat → Int32} (h : Iz z y F) (e : y' = M_set_image y G) : Iz z y' G := by
  unfold Iz; rw [e, mk_image]; exact congrArg (fun m : MKK => (m.1, m.2.1, m.2.2.1, G, m.2.2.2.2)) h
theorem Iz.rooms {z y : MS} {F : Nat → Int32} (h : Iz z y F) : M_rooms y = M_rooms z := congrArg (fun m => m.1.1) h
theorem Iz.things {z y : MS} {F : Nat → Int32} (h : Iz z y F) : M_things y = M_things z := congrArg (fun m => m.1.2.1) h
theorem Iz.size {z y : MS} {F : Nat → Int32} (h : Iz z y F) : M_size y = M_size z := congrArg (fun m => m.1.2.2.1) h
theorem Iz.chairs {z y : MS} {F : Nat → Int32} (h : Iz z y F) : M_chairs y = M_chairs z := congrArg (fun m => m.1.2.2.2.1) h
theorem Iz.width {z y : MS} {F : Nat → Int32} (h : Iz z y F) : M_width y = M_width z := congrArg (fun m => m.1.2.2.2.2.1) h
theorem Iz.there {z y : MS} {F : Nat → Int32} (h : Iz z y F) : M_there y = M_there z := congrArg (fun m => m.1.2.2.2.2.2.1) h
theorem Iz.likes {z y : MS} {F : Nat → Int32} (h : Iz z y F) : M_likes y = M_likes z := congrArg (fun m => m.1.2.2.2.2.2.2.1) h
theorem Iz.place {z y : MS} {F : Nat → Int32} (h : Iz z y F) : M_place y = M_place z := congrArg (fun m => m.1.2.2.2.2.2.2.2.1) h
theorem Iz.busy {z y : MS} {F : Nat → Int32} (h : Iz z y F) : M_busy y = M_busy z := congrArg (fun m => m.1.2.2.2.2.2.2.2.2.1) h
theorem Iz.with {z y : MS} {F : Nat → Int32} (h : Iz z y F) : M_with y = M_with z := congrArg (fun m => m.1.2.2.2.2.2.2.2.2.2.1) h
theorem Iz.left {z y : MS} {F : Nat → Int32} (h : Iz z y F) : M_left y = M_left z := congrArg (fun m => m.1.2.2.2.2.2.2.2.2.2.2.1) h
theorem Iz.sights {z y : MS} {F : Nat → Int32} (h : Iz z y F) : M_sights y = M_sights z := congrArg (fun m => m.1.2.2.2.2.2.2.2.2.2.2.2.1) h
theorem Iz.sight {z y : MS} {F : Nat → Int32} (h : Iz z y F) : M_sight y = M_sight z := congrArg (fun m => m.1.2.2.2.2.2.2.2.2.2.2.2.2) h
theorem ad3 (o c i : Nat) : nI o + nI c + nI i = nI (o + c + i) := by rw [nI_add, nI_add]
def ImgOk (z : MS) (o : Nat) (n : Nat) (r : Option (Int32 × MS)) : Prop := ∃ w F, r = some (1, w) ∧ mkeep w = (mcore z, M_signs z, M_pad z, F, upd (M_isKept z) n 1) ∧ MKe (mcore z) (mimg F o) ∧ ∀ k, (k < o ∨ o + 159 ≤ k) → F k = M_image z k
theorem image_6 {z : MS} {o n : Nat} (ho : o + 159 ≤ 400) (hn : n < 2) {N : Nat} (hN : 60000 < N) (y : MS) (F : Nat → Int32) (h : Iz z y F) (hF : Fx z o F 24 36 40 8 12 0) : ImgOk z o n (it X9_image_B224 (fun _ _ _ _ => none) N y (nI n) (nI o) (nI 0)) := by
  refine it_rule (bot := fun _ _ _ _ => none) 6 (fun i (s : MS × (Nat → Int32)) => Iz z s.1 s.2 ∧ Fx z o s.2 24 36 40 8 12 i) (fun k i s => ImgOk z o n (k s.1 (nI n) (nI o) (nI i))) ?_ ?_ N 0 (y, F) (by omega) (by omega) ⟨h, hF⟩
  · rintro k ⟨y, F⟩ ⟨h, hF⟩
    have h : Iz z y F := h
    have hF : Fx z o F 24 36 40 8 12 6 := hF
    obtain ⟨y1, e1⟩ : ∃ x, x = M_set_image y (upd (M_image y) (o + 156) (M_rooms y)) := ⟨_, rfl⟩
    have h1 := h.set e1
    obtain ⟨y2, e2⟩ : ∃ x, x = M_set_image y1 (upd (M_image y1) (o + 157) (M_there y1)) := ⟨_, rfl⟩
    have h2 := h1.set e2
    obtain ⟨y3, e3⟩ : ∃ x, x = M_set_image y2 (upd (M_image y2) (o + 158) (M_sights y2)) := ⟨_, rfl⟩
    have h3 := h2.set e3
    obtain ⟨y4, e4⟩ : ∃ x, x = M_set_isKept y3 (upd (M_isKept y3) n 1) := ⟨_, rfl⟩
    have k4 := mk_isKept y3 (upd (M_isKept y3) n 1)
    rw [← e4] at k4
    have hk3 : M_isKept y3 = M_isKept z := congrArg (fun m => m.2.2.2.2) h3
    refine ⟨y4, upd (upd (upd F (o + 156) (M_rooms z)) (o + 157) (M_there z)) (o + 158) (M_sights z), ?_, ?_, ?_, ?_⟩
    · show X9_image_B224 k y (nI n) (nI o) (nI 6) = _
      unfold X9_image_B224
      rw [if_pos (by decide), show (156 : Int32) = nI 156 from rfl, show (157 : Int32) = nI 157 from rfl, show (158 : Int32) = nI 158 from rfl, nI_add, nI_add, nI_add, chk_nI (by omega) (by decide), nI_clamp (by omega), nI_clamp (by omega), nI_clamp (by omega), nI_clamp (by omega), ltA_eq, ← e1, chk_nI (by omega) (by decide), ltA_eq, ← e2, chk_nI (by omega) (by decide), ltA_eq, ← e3, chk_nI hn (by decide), ltA_eq, show vp_nar .boolean (1 : Int32) = 1 from by decide, ← e4]
    · rw [k4, hk3]
      have q := congrArg (fun m : MKK => (m.1, m.2.1, m.2.2.1, m.2.2.2.1, upd (M_isKept z) n 1)) h3
      rw [h2.im, h1.im, h.im, h.rooms, h1.there, h2.sights] at q
      exact q
    · obtain ⟨f1, f2, f3, f4, f5, f6, f7⟩ := hF
      refine ⟨?_, ?_, ?_, fun k hk => ?_, fun k hk => ?_, fun k hk => ?_, fun k hk => ?_, fun k hk => ?_, fun k hk => ?_⟩
      · show upd (upd (upd F (o + 156) (M_rooms z)) (o + 157) (M_there z)) (o + 158) (M_sights z) (o + 156) = M_rooms z
        rw [pk_un (by omega), pk_un (by omega), pk_us]
      · show upd (upd (upd F (o + 156) (M_rooms z)) (o + 157) (M_there z)) (o + 158) (M_sights z) (o + 157) = M_there z
        rw [pk_un (by omega), pk_us]
      · show upd (upd (upd F (o + 156) (M_rooms z)) (o + 157) (M_there z)) (o + 158) (M_sights z) (o + 158) = M_sights z
        rw [pk_us]
      · show upd (upd (upd F (o + 156) (M_rooms z)) (o + 157) (M_there z)) (o + 158) (M_sights z) (o + k) = M_things z k
        rw [pk_un (by omega), pk_un (by omega), pk_un (by omega)]; exact f1 k hk
      · show upd (upd (upd F (o + 156) (M_rooms z)) (o + 157) (M_there z)) (o + 158) (M_sights z) (o + 24 + k) = M_width z k
        rw [pk_un (by omega), pk_un (by omega), pk_un (by omega)]; exact f2 k hk
      · show upd (upd (upd F (o + 156) (M_rooms z)) (o + 157) (M_there z)) (o + 158) (M_sights z) (o + 60 + k) = M_likes z k
        rw [pk_un (by omega), pk_un (by omega), pk_un (by omega)]; exact f3 k hk
      · obtain ⟨g1, g2, g3, g4⟩ := f4 k hk
        refine ⟨?_, ?_, ?_, ?_⟩
        · show upd (upd (upd F (o + 156) (M_rooms z)) (o + 157) (M_there z)) (o + 158) (M_sights z) (o + 100 + k) = _
          rw [pk_un (by omega), pk_un (by omega), pk_un (by omega)]; exact g1
        · show upd (upd (upd F (o + 156) (M_rooms z)) (o + 157) (M_there z)) (o + 158) (M_sights z) (o + 108 + k) = _
          rw [pk_un (by omega), pk_un (by omega), pk_un (by omega)]; exact g2
        · show upd (upd (upd F (o + 156) (M_rooms z)) (o + 157) (M_there z)) (o + 158) (M_sights z) (o + 116 + k) = _
          rw [pk_un (by omega), pk_un (by omega), pk_un (by omega)]; exact g3
        · show upd (upd (upd F (o + 156) (M_rooms z)) (o + 157) (M_there z)) (o + 158) (M_sights z) (o + 124 + k) = _
          rw [pk_un (by omega), pk_un (by omega), pk_un (by omega)]; exact g4
      · show upd (upd (upd F (o + 156) (M_rooms z)) (o + 157) (M_there z)) (o + 158) (M_sights z) (o + 132 + k) = _
        rw [pk_un (by omega), pk_un (by omega), pk_un (by omega)]; exact f5 k hk
      · obtain ⟨g1, g2⟩ := f6 k hk
        refine ⟨?_, ?_⟩
        · show upd (upd (upd F (o + 156) (M_rooms z)) (o + 157) (M_there z)) (o + 158) (M_sights z) (o + 144 + k) = _
          rw [pk_un (by omega), pk_un (by omega), pk_un (by omega)]; exact g1
        · show upd (upd (upd F (o + 156) (M_rooms z)) (o + 157) (M_there z)) (o + 158) (M_sights z) (o + 150 + k) = _
          rw [pk_un (by omega), pk_un (by omega), pk_un (by omega)]; exact g2
    · intro k hk
      rw [pk_un (by omega), pk_un (by omega), pk_un (by omega)]; exact hF.2.2.2.2.2.2 k hk
  · rintro k i ⟨y, F⟩ hi ⟨h, hF⟩ hk
    have h : Iz z y F := h
    obtain ⟨f1, f2, f3, f4, f5, f6, f7⟩ : Fx z o F _ _ _ _ _ _ := hF
    obtain ⟨y1, e1⟩ : ∃ x, x = M_set_image y (upd (M_image y) (o + 144 + i) (M_size y i)) := ⟨_, rfl⟩
    have h1 := h.set e1
    obtain ⟨y2, e2⟩ : ∃ x, x = M_set_image y1 (upd (M_image y1) (o + 150 + i) (M_chairs y1 i)) := ⟨_, rfl⟩
    have h2 := h1.set e2
    rw [h1.im, h.im, h.size, h1.chairs] at h2
    have hF' : Fx z o (upd (upd F (o + 144 + i) (M_size z i)) (o + 150 + i) (M_chairs z i)) 24 36 40 8 12 (i + 1) := ⟨fun k hk => by rw [pk_un (by omega), pk_un (by omega)]; exact f1 k hk, fun k hk => by rw [pk_un (by omega), pk_un (by omega)]; exact f2 k hk, fun k hk => by rw [pk_un (by omega), pk_un (by omega)]; exact f3 k hk, fun k hk => by
      obtain ⟨g1, g2, g3, g4⟩ := f4 k hk
      rw [pk_un (by omega), pk_un (by omega), pk_un (by omega), pk_un (by omega), pk_un (by omega), pk_un (by omega), pk_un (by omega), pk_un (by omega)]; exact ⟨g1, g2, g3, g4⟩, fun k hk => by rw [pk_un (by omega), pk_un (by omega)]; exact f5 k hk, fun k hk => by
      by_cases c : k = i
      · subst c; refine ⟨?_, pk_us⟩; rw [pk_un (by omega), pk_us]
      · rw [pk_un (by omega), pk_un (by omega), pk_un (by omega), pk_un (by omega)]; exact f6 k (by omega), fun k hk => by rw [pk_un (by omega), pk_un (by omega)]; exact f7 k hk⟩
    have := hk (y2, (upd (upd F (o + 144 + i) (M_size z i)) (o + 150 + i) (M_chairs z i))) ⟨h2, hF'⟩
    show ImgOk z o n (X9_image_B224 k y (nI n) (nI o) (nI i))
    unfold X9_image_B224
    rw [if_neg (show ¬ (6 : Int32) ≤ nI i from nlit (by decide) hi), show (144 : Int32) = nI 144 from rfl, show (150 : Int32) = nI 150 from rfl, ad3, ad3, chk_nI hi (by decide), chk_nI (by omega) (by decide), nI_clamp (by omega), nI_clamp (by omega), nI_clamp (by omega), ltA_eq, ← e1, chk_nI hi (by decide), chk_nI (by omega) (by decide), ltA_eq, ← e2, nI_1]
    exact this
theorem image_5 {z : MS} {o n : Nat} (ho : o + 159 ≤ 400) (hn : n < 2) {N : Nat} (hFU : FU = N) (hN : 60000 < N) (y : MS) (F : Nat → Int32) (h : Iz z y F) (hF : Fx z o F 24 36 40 8 0 0) : ImgOk z o n (it X9_image_B192 (fun _ _ _ _ => none) N y (nI n) (nI o) (nI 0)) := by
  refine it_rule (bot := fun _ _ _ _ => none) 12 (fun i (s : MS × (Nat → Int32)) => Iz z s.1 s.2 ∧ Fx z o s.2 24 36 40 8 i 0) (fun k i s => ImgOk z o n (k s.1 (nI n) (nI o) (nI i))) ?_ ?_ N 0 (y, F) (by omega) (by omega) ⟨h, hF⟩
  · rintro k ⟨y, F⟩ ⟨h, hF⟩
    show ImgOk z o n (X9_image_B192 k y (nI n) (nI o) (nI 12))
    unfold X9_image_B192
    rw [if_pos (by decide), hFU]; exact image_6 ho hn hN y F h hF
  · rintro k i ⟨y, F⟩ hi ⟨h, hF⟩ hk
    have h : Iz z y F := h
    obtain ⟨f1, f2, f3, f4, f5, f6, f7⟩ : Fx z o F _ _ _ _ _ _ := hF
    obtain ⟨y1, e1⟩ : ∃ x, x = M_set_image y (upd (M_image y) (o + 132 + i) (M_sight y i)) := ⟨_, rfl⟩
    have h1 := h.set e1
    rw [h.im, h.sight] at h1
    have hF' : Fx z o (upd F (o + 132 + i) (M_sight z i)) 24 36 40 8 (i + 1) 0 := ⟨fun k hk => by rw [pk_un (by omega)]; exact f1 k hk, fun k hk => by rw [pk_un (by omega)]; exact f2 k hk, fun k hk => by rw [pk_un (by omega)]; exact f3 k hk, fun k hk => by
      obtain ⟨g1, g2, g3, g4⟩ := f4 k hk
      rw [pk_un (by omega), pk_un (by omega), pk_un (by omega), pk_un (by omega)]; exact ⟨g1, g2, g3, g4⟩, fun k hk => by
      by_cases c : k = i
      · subst c; exact pk_us
      · rw [pk_un (by omega)]; exact f5 k (by omega), fun k hk => absurd hk (Nat.not_lt_zero _), fun k hk => by rw [pk_un (by omega)]; exact f7 k hk⟩
    have := hk (y1, (upd F (o + 132 + i) (M_sight z i))) ⟨h1, hF'⟩
    show ImgOk z o n (X9_image_B192 k y (nI n) (nI o) (nI i))
    unfold X9_image_B192
    rw [if_neg (show ¬ (12 : Int32) ≤ nI i from nlit (by decide) hi), show (132 : Int32) = nI 132 from rfl, ad3, chk_nI hi (by decide), chk_nI (by omega) (by decide), nI_clamp (by omega), nI_clamp (by omega), ltA_eq, ← e1, nI_1]
    exact this
theorem image_4 {z : MS} {o n : Nat} (ho : o + 159 ≤ 400) (hn : n < 2) {N : Nat} (hFU : FU = N) (hN : 60000 < N) (y : MS) (F : Nat → Int32) (h : Iz z y F) (hF : Fx z o F 24 36 40 0 0 0) : ImgOk z o n (it X9_image_B110 (fun _ _ _ _ => none) N y (nI n) (nI o) (nI 0)) := by
  refine it_rule (bot := fun _ _ _ _ => none) 8 (fun i (s : MS × (Nat → Int32)) => Iz z s.1 s.2 ∧ Fx z o s.2 24 36 40 i 0 0) (fun k i s => ImgOk z o n (k s.1 (nI n) (nI o) (nI i))) ?_ ?_ N 0 (y, F) (by omega) (by omega) ⟨h, hF⟩
  · rintro k ⟨y, F⟩ ⟨h, hF⟩
    show ImgOk z o n (X9_image_B110 k y (nI n) (nI o) (nI 8))
    unfold X9_image_B110
    rw [if_pos (by decide), hFU]; exact image_5 ho hn hFU hN y F h hF
  · rintro k i ⟨y, F⟩ hi ⟨h, hF⟩ hk
    have h : Iz z y F := h
    obtain ⟨f1, f2, f3, f4, f5, f6, f7⟩ : Fx z o F _ _ _ _ _ _ := hF
    obtain ⟨y1, e1⟩ : ∃ x, x = M_set_image y (upd (M_image y) (o + 100 + i) (M_place y i)) := ⟨_, rfl⟩
    have h1 := h.set e1
    obtain ⟨y2, e2⟩ : ∃ x, x = M_set_image y1 (upd (M_image y1) (o + 108 + i) (M_busy y1 i)) := ⟨_, rfl⟩
    have h2 := h1.set e2
    obtain ⟨y3, e3⟩ : ∃ x, x = M_set_image y2 (upd (M_image y2) (o + 116 + i) (M_with y2 i)) := ⟨_, rfl⟩
    have h3 := h2.set e3
    obtain ⟨y4, e4⟩ : ∃ x, x = M_set_image y3 (upd (M_image y3) (o + 124 + i) (M_left y3 i)) := ⟨_, rfl⟩
    have h4 := h3.set e4
    rw [h3.im, h2.im, h1.im, h.im, h.place, h1.busy, h2.with, h3.left] at h4
    have hF' : Fx z o (upd (upd (upd (upd F (o + 100 + i) (M_place z i)) (o + 108 + i) (M_busy z i)) (o + 116 + i) (M_with z i)) (o + 124 + i) (M_left z i)) 24 36 40 (i + 1) 0 0 := ⟨fun k hk => by rw [pk_un (by omega), pk_un (by omega), pk_un (by omega), pk_un (by omega)]; exact f1 k hk, fun k hk => by rw [pk_un (by omega), pk_un (by omega), pk_un (by omega), pk_un (by omega)]; exact f2 k hk, fun k hk => by rw [pk_un (by omega), pk_un (by omega), pk_un (by omega), pk_un (by omega)]; exact f3 k hk, fun k hk => by
      by_cases c : k = i
      · subst c
        refine ⟨?_, ?_, ?_, ?_⟩
        · rw [pk_un (by omega), pk_un (by omega), pk_un (by omega), pk_us]
        · rw [pk_un (by omega), pk_un (by omega), pk_us]
        · rw [pk_un (by omega), pk_us]
        · rw [pk_us]
      · rw [pk_un (by omega), pk_un (by omega), pk_un (by omega), pk_un (by omega), pk_un (by omega), pk_un (by omega), pk_un (by omega), pk_un (by omega), pk_un (by omega), pk_un (by omega), pk_un (by omega), pk_un (by omega), pk_un (by omega), pk_un (by omega), pk_un (by omega), pk_un (by omega)]; exact f4 k (by omega), fun k hk => absurd hk (Nat.not_lt_zero _), fun k hk => absurd hk (Nat.not_lt_zero _), fun k hk => by rw [pk_un (by omega), pk_un (by omega), pk_un (by omega), pk_un (by omega)]; exact f7 k hk⟩
    have := hk (y4, (upd (upd (upd (upd F (o + 100 + i) (M_place z i)) (o + 108 + i) (M_busy z i)) (o + 116 + i) (M_with z i)) (o + 124 + i) (M_left z i))) ⟨h4, hF'⟩
    show ImgOk z o n (X9_image_B110 k y (nI n) (nI o) (nI i))
    unfold X9_image_B110
    rw [if_neg (show ¬ (8 : Int32) ≤ nI i from nlit (by decide) hi), show (100 : Int32) = nI 100 from rfl, show (108 : Int32) = nI 108 from rfl, show (116 : Int32) = nI 116 from rfl, show (124 : Int32) = nI 124 from rfl, ad3, ad3, ad3, ad3, chk_nI hi (by decide), chk_nI (by omega) (by decide), nI_clamp (by omega), nI_clamp (by omega), nI_clamp (by omega), nI_clamp (by omega), nI_clamp (by omega), ltA_eq, ← e1, chk_nI hi (by decide), chk_nI (by omega) (by decide), ltA_eq, ← e2, chk_nI hi (by decide), chk_nI (by omega) (by decide), ltA_eq, ← e3, chk_nI hi (by decide), chk_nI (by omega) (by decide), ltA_eq, ← e4, nI_1]
    exact this
theorem image_3 {z : MS} {o n : Nat} (ho : o + 159 ≤ 400) (hn : n < 2) {N : Nat} (hFU : FU = N) (hN : 60000 < N) (y : MS) (F : Nat → Int32) (h : Iz z y F) (hF : Fx z o F 24 36 0 0 0 0) : ImgOk z o n (it X9_image_B79 (fun _ _ _ _ => none) N y (nI n) (nI o) (nI 0)) := by
  refine it_rule (bot := fun _ _ _ _ => none) 40 (fun i (s : MS × (Nat → Int32)) => Iz z s.1 s.2 ∧ Fx z o s.2 24 36 i 0 0 0) (fun k i s => ImgOk z o n (k s.1 (nI n) (nI o) (nI i))) ?_ ?_ N 0 (y, F) (by omega) (by omega) ⟨h, hF⟩
  · rintro k ⟨y, F⟩ ⟨h, hF⟩
    show ImgOk z o n (X9_image_B79 k y (nI n) (nI o) (nI 40))
    unfold X9_image_B79
    rw [if_pos (by decide), hFU]; exact image_4 ho hn hFU hN y F h hF
  · rintro k i ⟨y, F⟩ hi ⟨h, hF⟩ hk
    have h : Iz z y F := h
    obtain ⟨f1, f2, f3, f4, f5, f6, f7⟩ : Fx z o F _ _ _ _ _ _ := hF
    obtain ⟨y1, e1⟩ : ∃ x, x = M_set_image y (upd (M_image y) (o + 60 + i) (M_likes y i)) := ⟨_, rfl⟩
    have h1 := h.set e1
    rw [h.im, h.likes] at h1
    have hF' : Fx z o (upd F (o + 60 + i) (M_likes z i)) 24 36 (i + 1) 0 0 0 := ⟨fun k hk => by rw [pk_un (by omega)]; exact f1 k hk, fun k hk => by rw [pk_un (by omega)]; exact f2 k hk, fun k hk => by
      by_cases c : k = i
      · subst c; exact pk_us
      · rw [pk_un (by omega)]; exact f3 k (by omega), fun k hk => by
      obtain ⟨g1, g2, g3, g4⟩ := f4 k hk
      rw [pk_un (by omega), pk_un (by omega), pk_un (by omega), pk_un (by omega)]; exact ⟨g1, g2, g3, g4⟩, fun k hk => by rw [pk_un (by omega)]; exact f5 k hk, fun k hk => absurd hk (Nat.not_lt_zero _), fun k hk => by rw [pk_un (by omega)]; exact f7 k hk⟩
    have := hk (y1, (upd F (o + 60 + i) (M_likes z i))) ⟨h1, hF'⟩
    show ImgOk z o n (X9_image_B79 k y (nI n) (nI o) (nI i))
    unfold X9_image_B79
    rw [if_neg (show ¬ (40 : Int32) ≤ nI i from nlit (by decide) hi), show (60 : Int32) = nI 60 from rfl, ad3, chk_nI hi (by decide), chk_nI (by omega) (by decide), nI_clamp (by omega), nI_clamp (by omega), ltA_eq, ← e1, nI_1]
    exact this
theorem image_2 {z : MS} {o n : Nat} (ho : o + 159 ≤ 400) (hn : n < 2) {N : Nat} (hFU : FU = N) (hN : 60000 < N) (y : MS) (F : Nat → Int32) (h : Iz z y F) (hF : Fx z o F 24 0 0 0 0 0) : ImgOk z o n (it X9_image_B48 (fun _ _ _ _ => none) N y (nI n) (nI o) (nI 0)) := by
  refine it_rule (bot := fun _ _ _ _ => none) 36 (fun i (s : MS × (Nat → Int32)) => Iz z s.1 s.2 ∧ Fx z o s.2 24 i 0 0 0 0) (fun k i s => ImgOk z o n (k s.1 (nI n) (nI o) (nI i))) ?_ ?_ N 0 (y, F) (by omega) (by omega) ⟨h, hF⟩
  · rintro k ⟨y, F⟩ ⟨h, hF⟩
    show ImgOk z o n (X9_image_B48 k y (nI n) (nI o) (nI 36))
    unfold X9_image_B48
    rw [if_pos (by decide), hFU]; exact image_3 ho hn hFU hN y F h hF
  · rintro k i ⟨y, F⟩ hi ⟨h, hF⟩ hk
    have h : Iz z y F := h
    obtain ⟨f1, f2, f3, f4, f5, f6, f7⟩ : Fx z o F _ _ _ _ _ _ := hF
    obtain ⟨y1, e1⟩ : ∃ x, x = M_set_image y (upd (M_image y) (o + 24 + i) (M_width y i)) := ⟨_, rfl⟩
    have h1 := h.set e1
    rw [h.im, h.width] at h1
    have hF' : Fx z o (upd F (o + 24 + i) (M_width z i)) 24 (i + 1) 0 0 0 0 := ⟨fun k hk => by rw [pk_un (by omega)]; exact f1 k hk, fun k hk => by
      by_cases c : k = i
      · subst c; exact pk_us
      · rw [pk_un (by omega)]; exact f2 k (by omega), fun k hk => by rw [pk_un (by omega)]; exact f3 k hk, fun k hk => by
      obtain ⟨g1, g2, g3, g4⟩ := f4 k hk
      rw [pk_un (by omega), pk_un (by omega), pk_un (by omega), pk_un (by omega)]; exact ⟨g1, g2, g3, g4⟩, fun k hk => by rw [pk_un (by omega)]; exact f5 k hk, fun k hk => absurd hk (Nat.not_lt_zero _), fun k hk => by rw [pk_un (by omega)]; exact f7 k hk⟩
    have := hk (y1, (upd F (o + 24 + i) (M_width z i))) ⟨h1, hF'⟩
    show ImgOk z o n (X9_image_B48 k y (nI n) (nI o) (nI i))
    unfold X9_image_B48
    rw [if_neg (show ¬ (36 : Int32) ≤ nI i from nlit (by decide) hi), show (24 : Int32) = nI 24 from rfl, ad3, chk_nI hi (by decide), chk_nI (by omega) (by decide), nI_clamp (by omega), nI_clamp (by omega), ltA_eq, ← e1, nI_1]
    exact this
theorem image_1 {z : MS} {o n : Nat} (ho : o + 159 ≤ 400) (hn : n < 2) {N : Nat} (hFU : FU = N) (hN : 60000 < N) (y : MS) (F : Nat → Int32) (h : Iz z y F) (hF : Fx z o F 0 0 0 0 0 0) : ImgOk z o n (it X9_image_B20 (fun _ _ _ _ => none) N y (nI n) (nI o) (nI 0)) := by
  refine it_rule (bot := fun _ _ _ _ => none) 24 (fun i (s : MS × (Nat → Int32)) => Iz z s.1 s.2 ∧ Fx z o s.2 i 0 0 0 0 0) (fun k i s => ImgOk z o n (k s.1 (nI n) (nI o) (nI i))) ?_ ?_ N 0 (y, F) (by omega) (by omega) ⟨h, hF⟩
  · rintro k ⟨y, F⟩ ⟨h, hF⟩
    show ImgOk z o n (X9_image_B20 k y (nI n) (nI o) (nI 24))
    unfold X9_image_B20
    rw [if_pos (by decide), hFU]; exact image_2 ho hn hFU hN y F h hF
  · rintro k i ⟨y, F⟩ hi ⟨h, hF⟩ hk
    have h : Iz z y F := h
    obtain ⟨f1, f2, f3, f4, f5, f6, f7⟩ : Fx z o F _ _ _ _ _ _ := hF
    obtain ⟨y1, e1⟩ : ∃ x, x = M_set_image y (upd (M_image y) (o + i) (M_things y i)) := ⟨_, rfl⟩
    have h1 := h.set e1
    rw [h.im, h.things] at h1
    have hF' : Fx z o (upd F (o + i) (M_things z i)) (i + 1) 0 0 0 0 0 := ⟨fun k hk => by
      by_cases c : k = i
      · subst c; exact pk_us
      · rw [pk_un (by omega)]; exact f1 k (by omega), fun k hk => by rw [pk_un (by omega)]; exact f2 k hk, fun k hk => by rw [pk_un (by omega)]; exact f3 k hk, fun k hk => by
      obtain ⟨g1, g2, g3, g4⟩ := f4 k hk
      rw [pk_un (by omega), pk_un (by omega), pk_un (by omega), pk_un (by omega)]; exact ⟨g1, g2, g3, g4⟩, fun k hk => by rw [pk_un (by omega)]; exact f5 k hk, fun k hk => absurd hk (Nat.not_lt_zero _), fun k hk => by rw [pk_un (by omega)]; exact f7 k hk⟩
    have := hk (y1, (upd F (o + i) (M_things z i))) ⟨h1, hF'⟩
    show ImgOk z o n (X9_image_B20 k y (nI n) (nI o) (nI i))
    unfold X9_image_B20
    rw [if_neg (show ¬ (24 : Int32) ≤ nI i from nlit (by decide) hi), nI_add, chk_nI hi (by decide), chk_nI (by omega) (by decide), nI_clamp (by omega), nI_clamp (by omega), ltA_eq, ← e1, nI_1]
    exact this
theorem image_spec (z : MS) {n : Nat} (hn : n < 2) : ImgOk z (200 * n) n (f_X9_image z (nI n)) := by
  obtain ⟨N, hN, hFU⟩ := FU_ex
  unfold f_X9_image
  rw [show f_X9_in (nI n) 0 1 = some 1 from in_nI (n := 2) hn (by decide), Option.bind_some, if_neg (by decide), hFU, show (200 : Int32) * nI n = nI (200 * n) from pk_mul 200 n]
  exact image_1 (by omega) hn hFU hN z (M_image z) rfl ⟨fun k hk => absurd hk (Nat.not_lt_zero _), fun k hk => absurd hk (Nat.not_lt_zero _), fun k hk => absurd hk (Nat.not_lt_zero _), fun k hk => absurd hk (Nat.not_lt_zero _), fun k hk => absurd hk (Nat.not_lt_zero _), fun k hk => absurd hk (Nat.not_lt_zero _), fun k _ => rfl⟩
